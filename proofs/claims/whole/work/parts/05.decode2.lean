theorem dX9_countStale_39 : decode cX9_countStale 39 = .ok (.istore_n 1, 1) := by decide +kernel
theorem dX9_countStale_40 : decode cX9_countStale 40 = .ok (.iinc 2 1, 3) := by decide +kernel
theorem dX9_countStale_43 : decode cX9_countStale 43 = .ok (.goto (-39), 3) := by decide +kernel
theorem dX9_countStale_46 : decode cX9_countStale 46 = .ok (.iload_n 1, 1) := by decide +kernel
theorem dX9_countStale_47 : decode cX9_countStale 47 = .ok (.ireturn, 1) := by decide +kernel
theorem dX10_init_0 : decode cX10_init 0 = .ok (.aload_n 0, 1) := by decide +kernel
theorem dX10_init_1 : decode cX10_init 1 = .ok (.invokespecial 1, 3) := by decide +kernel
theorem dX10_init_4 : decode cX10_init 4 = .ok (.aload_n 0, 1) := by decide +kernel
theorem dX10_init_5 : decode cX10_init 5 = .ok (.bipush 6, 2) := by decide +kernel
theorem dX10_init_7 : decode cX10_init 7 = .ok (.newarray .int, 2) := by decide +kernel
theorem dX10_init_9 : decode cX10_init 9 = .ok (.putfield 9, 3) := by decide +kernel
theorem dX10_init_12 : decode cX10_init 12 = .ok (.aload_n 0, 1) := by decide +kernel
theorem dX10_init_13 : decode cX10_init 13 = .ok (.bipush 6, 2) := by decide +kernel
theorem dX10_init_15 : decode cX10_init 15 = .ok (.newarray .int, 2) := by decide +kernel
theorem dX10_init_17 : decode cX10_init 17 = .ok (.putfield 13, 3) := by decide +kernel
theorem dX10_init_20 : decode cX10_init 20 = .ok (.aload_n 0, 1) := by decide +kernel
theorem dX10_init_21 : decode cX10_init 21 = .ok (.bipush 6, 2) := by decide +kernel
theorem dX10_init_23 : decode cX10_init 23 = .ok (.newarray .int, 2) := by decide +kernel
theorem dX10_init_25 : decode cX10_init 25 = .ok (.putfield 16, 3) := by decide +kernel
theorem dX10_init_28 : decode cX10_init 28 = .ok (.aload_n 0, 1) := by decide +kernel
theorem dX10_init_29 : decode cX10_init 29 = .ok (.bipush 6, 2) := by decide +kernel
theorem dX10_init_31 : decode cX10_init 31 = .ok (.bipush 6, 2) := by decide +kernel
theorem dX10_init_33 : decode cX10_init 33 = .ok (.multianewarray 19 2, 4) := by decide +kernel
theorem dX10_init_37 : decode cX10_init 37 = .ok (.putfield 21, 3) := by decide +kernel
theorem dX10_init_40 : decode cX10_init 40 = .ok (.aload_n 0, 1) := by decide +kernel
theorem dX10_init_41 : decode cX10_init 41 = .ok (.bipush 6, 2) := by decide +kernel
theorem dX10_init_43 : decode cX10_init 43 = .ok (.bipush 6, 2) := by decide +kernel
theorem dX10_init_45 : decode cX10_init 45 = .ok (.multianewarray 19 2, 4) := by decide +kernel
theorem dX10_init_49 : decode cX10_init 49 = .ok (.putfield 24, 3) := by decide +kernel
theorem dX10_init_52 : decode cX10_init 52 = .ok (.aload_n 0, 1) := by decide +kernel
theorem dX10_init_53 : decode cX10_init 53 = .ok (.bipush 6, 2) := by decide +kernel
theorem dX10_init_55 : decode cX10_init 55 = .ok (.newarray .boolean, 2) := by decide +kernel
theorem dX10_init_57 : decode cX10_init 57 = .ok (.putfield 27, 3) := by decide +kernel
theorem dX10_init_60 : decode cX10_init 60 = .ok (.aload_n 0, 1) := by decide +kernel
theorem dX10_init_61 : decode cX10_init 61 = .ok (.bipush 6, 2) := by decide +kernel
theorem dX10_init_63 : decode cX10_init 63 = .ok (.newarray .int, 2) := by decide +kernel
theorem dX10_init_65 : decode cX10_init 65 = .ok (.putfield 31, 3) := by decide +kernel
theorem dX10_init_68 : decode cX10_init 68 = .ok (.aload_n 0, 1) := by decide +kernel
theorem dX10_init_69 : decode cX10_init 69 = .ok (.bipush 6, 2) := by decide +kernel
theorem dX10_init_71 : decode cX10_init 71 = .ok (.newarray .int, 2) := by decide +kernel
theorem dX10_init_73 : decode cX10_init 73 = .ok (.putfield 34, 3) := by decide +kernel
theorem dX10_init_76 : decode cX10_init 76 = .ok (.aload_n 0, 1) := by decide +kernel
theorem dX10_init_77 : decode cX10_init 77 = .ok (.bipush 6, 2) := by decide +kernel
theorem dX10_init_79 : decode cX10_init 79 = .ok (.newarray .int, 2) := by decide +kernel
theorem dX10_init_81 : decode cX10_init 81 = .ok (.putfield 37, 3) := by decide +kernel
theorem dX10_init_84 : decode cX10_init 84 = .ok (.aload_n 0, 1) := by decide +kernel
theorem dX10_init_85 : decode cX10_init 85 = .ok (.bipush 6, 2) := by decide +kernel
theorem dX10_init_87 : decode cX10_init 87 = .ok (.bipush 6, 2) := by decide +kernel
theorem dX10_init_89 : decode cX10_init 89 = .ok (.multianewarray 19 2, 4) := by decide +kernel
theorem dX10_init_93 : decode cX10_init 93 = .ok (.putfield 40, 3) := by decide +kernel
theorem dX10_init_96 : decode cX10_init 96 = .ok (.aload_n 0, 1) := by decide +kernel
theorem dX10_init_97 : decode cX10_init 97 = .ok (.bipush 6, 2) := by decide +kernel
theorem dX10_init_99 : decode cX10_init 99 = .ok (.newarray .boolean, 2) := by decide +kernel
theorem dX10_init_101 : decode cX10_init 101 = .ok (.putfield 43, 3) := by decide +kernel
theorem dX10_init_104 : decode cX10_init 104 = .ok (.aload_n 0, 1) := by decide +kernel
theorem dX10_init_105 : decode cX10_init 105 = .ok (.bipush 6, 2) := by decide +kernel
theorem dX10_init_107 : decode cX10_init 107 = .ok (.bipush 6, 2) := by decide +kernel
theorem dX10_init_109 : decode cX10_init 109 = .ok (.multianewarray 19 2, 4) := by decide +kernel
theorem dX10_init_113 : decode cX10_init 113 = .ok (.putfield 46, 3) := by decide +kernel
theorem dX10_init_116 : decode cX10_init 116 = .ok (.aload_n 0, 1) := by decide +kernel
theorem dX10_init_117 : decode cX10_init 117 = .ok (.bipush 6, 2) := by decide +kernel
theorem dX10_init_119 : decode cX10_init 119 = .ok (.newarray .int, 2) := by decide +kernel
theorem dX10_init_121 : decode cX10_init 121 = .ok (.putfield 49, 3) := by decide +kernel
theorem dX10_init_124 : decode cX10_init 124 = .ok (.aload_n 0, 1) := by decide +kernel
theorem dX10_init_125 : decode cX10_init 125 = .ok (.bipush 6, 2) := by decide +kernel
theorem dX10_init_127 : decode cX10_init 127 = .ok (.newarray .int, 2) := by decide +kernel
theorem dX10_init_129 : decode cX10_init 129 = .ok (.putfield 52, 3) := by decide +kernel
theorem dX10_init_132 : decode cX10_init 132 = .ok (.aload_n 0, 1) := by decide +kernel
theorem dX10_init_133 : decode cX10_init 133 = .ok (.bipush 6, 2) := by decide +kernel
theorem dX10_init_135 : decode cX10_init 135 = .ok (.bipush 6, 2) := by decide +kernel
theorem dX10_init_137 : decode cX10_init 137 = .ok (.multianewarray 19 2, 4) := by decide +kernel
theorem dX10_init_141 : decode cX10_init 141 = .ok (.putfield 55, 3) := by decide +kernel
theorem dX10_init_144 : decode cX10_init 144 = .ok (.aload_n 0, 1) := by decide +kernel
theorem dX10_init_145 : decode cX10_init 145 = .ok (.bipush 6, 2) := by decide +kernel
theorem dX10_init_147 : decode cX10_init 147 = .ok (.bipush 6, 2) := by decide +kernel
theorem dX10_init_149 : decode cX10_init 149 = .ok (.multianewarray 19 2, 4) := by decide +kernel
theorem dX10_init_153 : decode cX10_init 153 = .ok (.putfield 58, 3) := by decide +kernel
theorem dX10_init_156 : decode cX10_init 156 = .ok (.aload_n 0, 1) := by decide +kernel
theorem dX10_init_157 : decode cX10_init 157 = .ok (.bipush 20, 2) := by decide +kernel
theorem dX10_init_159 : decode cX10_init 159 = .ok (.newarray .int, 2) := by decide +kernel
theorem dX10_init_161 : decode cX10_init 161 = .ok (.putfield 61, 3) := by decide +kernel
theorem dX10_init_164 : decode cX10_init 164 = .ok (.aload_n 0, 1) := by decide +kernel
theorem dX10_init_165 : decode cX10_init 165 = .ok (.bipush 20, 2) := by decide +kernel
theorem dX10_init_167 : decode cX10_init 167 = .ok (.newarray .int, 2) := by decide +kernel
theorem dX10_init_169 : decode cX10_init 169 = .ok (.putfield 64, 3) := by decide +kernel
theorem dX10_init_172 : decode cX10_init 172 = .ok (.aload_n 0, 1) := by decide +kernel
theorem dX10_init_173 : decode cX10_init 173 = .ok (.bipush 20, 2) := by decide +kernel
theorem dX10_init_175 : decode cX10_init 175 = .ok (.newarray .int, 2) := by decide +kernel
theorem dX10_init_177 : decode cX10_init 177 = .ok (.putfield 67, 3) := by decide +kernel
theorem dX10_init_180 : decode cX10_init 180 = .ok (.aload_n 0, 1) := by decide +kernel
theorem dX10_init_181 : decode cX10_init 181 = .ok (.bipush 20, 2) := by decide +kernel
theorem dX10_init_183 : decode cX10_init 183 = .ok (.bipush 6, 2) := by decide +kernel
theorem dX10_init_185 : decode cX10_init 185 = .ok (.multianewarray 19 2, 4) := by decide +kernel
theorem dX10_init_189 : decode cX10_init 189 = .ok (.putfield 70, 3) := by decide +kernel
theorem dX10_init_192 : decode cX10_init 192 = .ok (.aload_n 0, 1) := by decide +kernel
theorem dX10_init_193 : decode cX10_init 193 = .ok (.bipush 20, 2) := by decide +kernel
theorem dX10_init_195 : decode cX10_init 195 = .ok (.bipush 6, 2) := by decide +kernel
theorem dX10_init_197 : decode cX10_init 197 = .ok (.multianewarray 19 2, 4) := by decide +kernel
theorem dX10_init_201 : decode cX10_init 201 = .ok (.putfield 73, 3) := by decide +kernel
theorem dX10_init_204 : decode cX10_init 204 = .ok (.aload_n 0, 1) := by decide +kernel
theorem dX10_init_205 : decode cX10_init 205 = .ok (.bipush 20, 2) := by decide +kernel
theorem dX10_init_207 : decode cX10_init 207 = .ok (.bipush 6, 2) := by decide +kernel
theorem dX10_init_209 : decode cX10_init 209 = .ok (.multianewarray 19 2, 4) := by decide +kernel
theorem dX10_init_213 : decode cX10_init 213 = .ok (.putfield 76, 3) := by decide +kernel
theorem dX10_init_216 : decode cX10_init 216 = .ok (.aload_n 0, 1) := by decide +kernel
theorem dX10_init_217 : decode cX10_init 217 = .ok (.bipush 20, 2) := by decide +kernel
theorem dX10_init_219 : decode cX10_init 219 = .ok (.newarray .boolean, 2) := by decide +kernel
theorem dX10_init_221 : decode cX10_init 221 = .ok (.putfield 79, 3) := by decide +kernel
theorem dX10_init_224 : decode cX10_init 224 = .ok (.aload_n 0, 1) := by decide +kernel
theorem dX10_init_225 : decode cX10_init 225 = .ok (.bipush 8, 2) := by decide +kernel
theorem dX10_init_227 : decode cX10_init 227 = .ok (.newarray .int, 2) := by decide +kernel
theorem dX10_init_229 : decode cX10_init 229 = .ok (.putfield 82, 3) := by decide +kernel
theorem dX10_init_232 : decode cX10_init 232 = .ok (.aload_n 0, 1) := by decide +kernel
theorem dX10_init_233 : decode cX10_init 233 = .ok (.bipush 8, 2) := by decide +kernel
theorem dX10_init_235 : decode cX10_init 235 = .ok (.newarray .int, 2) := by decide +kernel
theorem dX10_init_237 : decode cX10_init 237 = .ok (.putfield 85, 3) := by decide +kernel
theorem dX10_init_240 : decode cX10_init 240 = .ok (.aload_n 0, 1) := by decide +kernel
theorem dX10_init_241 : decode cX10_init 241 = .ok (.bipush 8, 2) := by decide +kernel
theorem dX10_init_243 : decode cX10_init 243 = .ok (.newarray .boolean, 2) := by decide +kernel
theorem dX10_init_245 : decode cX10_init 245 = .ok (.putfield 88, 3) := by decide +kernel
theorem dX10_init_248 : decode cX10_init 248 = .ok (.aload_n 0, 1) := by decide +kernel
theorem dX10_init_249 : decode cX10_init 249 = .ok (.bipush 8, 2) := by decide +kernel
theorem dX10_init_251 : decode cX10_init 251 = .ok (.bipush 8, 2) := by decide +kernel
theorem dX10_init_253 : decode cX10_init 253 = .ok (.multianewarray 91 2, 4) := by decide +kernel
theorem dX10_init_257 : decode cX10_init 257 = .ok (.putfield 93, 3) := by decide +kernel
theorem dX10_init_260 : decode cX10_init 260 = .ok (.aload_n 0, 1) := by decide +kernel
theorem dX10_init_261 : decode cX10_init 261 = .ok (.bipush 8, 2) := by decide +kernel
theorem dX10_init_263 : decode cX10_init 263 = .ok (.newarray .int, 2) := by decide +kernel
theorem dX10_init_265 : decode cX10_init 265 = .ok (.putfield 96, 3) := by decide +kernel
theorem dX10_init_268 : decode cX10_init 268 = .ok (.aload_n 0, 1) := by decide +kernel
theorem dX10_init_269 : decode cX10_init 269 = .ok (.iconst 1, 1) := by decide +kernel
theorem dX10_init_270 : decode cX10_init 270 = .ok (.putfield 99, 3) := by decide +kernel
theorem dX10_init_273 : decode cX10_init 273 = .ok (.aload_n 0, 1) := by decide +kernel
theorem dX10_init_274 : decode cX10_init 274 = .ok (.iconst 3, 1) := by decide +kernel
theorem dX10_init_275 : decode cX10_init 275 = .ok (.newarray .int, 2) := by decide +kernel
theorem dX10_init_277 : decode cX10_init 277 = .ok (.putfield 103, 3) := by decide +kernel
theorem dX10_init_280 : decode cX10_init 280 = .ok (.aload_n 0, 1) := by decide +kernel
theorem dX10_init_281 : decode cX10_init 281 = .ok (.bipush 6, 2) := by decide +kernel
theorem dX10_init_283 : decode cX10_init 283 = .ok (.newarray .int, 2) := by decide +kernel
theorem dX10_init_285 : decode cX10_init 285 = .ok (.putfield 106, 3) := by decide +kernel
theorem dX10_init_288 : decode cX10_init 288 = .ok (.return_, 1) := by decide +kernel
theorem dX10_thrown_0 : decode cX10_thrown 0 = .ok (.aload_n 0, 1) := by decide +kernel
theorem dX10_thrown_1 : decode cX10_thrown 1 = .ok (.getfield 109, 3) := by decide +kernel
theorem dX10_thrown_4 : decode cX10_thrown 4 = .ok (.ireturn, 1) := by decide +kernel
theorem dX10_raises_0 : decode cX10_raises 0 = .ok (.aload_n 0, 1) := by decide +kernel
theorem dX10_raises_1 : decode cX10_raises 1 = .ok (.iload_n 1, 1) := by decide +kernel
theorem dX10_raises_2 : decode cX10_raises 2 = .ok (.putfield 109, 3) := by decide +kernel
theorem dX10_raises_5 : decode cX10_raises 5 = .ok (.iconst 0, 1) := by decide +kernel
theorem dX10_raises_6 : decode cX10_raises 6 = .ok (.ireturn, 1) := by decide +kernel
theorem dX10_in_0 : decode cX10_in 0 = .ok (.iload_n 0, 1) := by decide +kernel
theorem dX10_in_1 : decode cX10_in 1 = .ok (.iload_n 1, 1) := by decide +kernel
theorem dX10_in_2 : decode cX10_in 2 = .ok (.if_icmp .lt 12, 3) := by decide +kernel
theorem dX10_in_5 : decode cX10_in 5 = .ok (.iload_n 0, 1) := by decide +kernel
theorem dX10_in_6 : decode cX10_in 6 = .ok (.iload_n 2, 1) := by decide +kernel
theorem dX10_in_7 : decode cX10_in 7 = .ok (.if_icmp .gt 7, 3) := by decide +kernel
theorem dX10_in_10 : decode cX10_in 10 = .ok (.iconst 1, 1) := by decide +kernel
theorem dX10_in_11 : decode cX10_in 11 = .ok (.goto 4, 3) := by decide +kernel
theorem dX10_in_14 : decode cX10_in 14 = .ok (.iconst 0, 1) := by decide +kernel
theorem dX10_in_15 : decode cX10_in 15 = .ok (.ireturn, 1) := by decide +kernel
theorem dX10_isPackage_0 : decode cX10_isPackage 0 = .ok (.iload_n 1, 1) := by decide +kernel
theorem dX10_isPackage_1 : decode cX10_isPackage 1 = .ok (.iconst 0, 1) := by decide +kernel
theorem dX10_isPackage_2 : decode cX10_isPackage 2 = .ok (.aload_n 0, 1) := by decide +kernel
theorem dX10_isPackage_3 : decode cX10_isPackage 3 = .ok (.getfield 112, 3) := by decide +kernel
theorem dX10_isPackage_6 : decode cX10_isPackage 6 = .ok (.iconst 1, 1) := by decide +kernel
theorem dX10_isPackage_7 : decode cX10_isPackage 7 = .ok (.isub, 1) := by decide +kernel
theorem dX10_isPackage_8 : decode cX10_isPackage 8 = .ok (.invokestatic 115, 3) := by decide +kernel
theorem dX10_isPackage_11 : decode cX10_isPackage 11 = .ok (.ireturn, 1) := by decide +kernel
theorem dX10_lacks_0 : decode cX10_lacks 0 = .ok (.aload_n 0, 1) := by decide +kernel
theorem dX10_lacks_1 : decode cX10_lacks 1 = .ok (.aload_n 0, 1) := by decide +kernel
theorem dX10_lacks_2 : decode cX10_lacks 2 = .ok (.iload_n 1, 1) := by decide +kernel
theorem dX10_lacks_3 : decode cX10_lacks 3 = .ok (.invokevirtual 119, 3) := by decide +kernel
theorem dX10_lacks_6 : decode cX10_lacks 6 = .ok (.ifCond .eq 7, 3) := by decide +kernel
theorem dX10_lacks_9 : decode cX10_lacks 9 = .ok (.iconst 0, 1) := by decide +kernel
theorem dX10_lacks_10 : decode cX10_lacks 10 = .ok (.goto 4, 3) := by decide +kernel
theorem dX10_lacks_13 : decode cX10_lacks 13 = .ok (.iconst 1, 1) := by decide +kernel
theorem dX10_lacks_14 : decode cX10_lacks 14 = .ok (.putfield 109, 3) := by decide +kernel
theorem dX10_lacks_17 : decode cX10_lacks 17 = .ok (.aload_n 0, 1) := by decide +kernel
theorem dX10_lacks_18 : decode cX10_lacks 18 = .ok (.getfield 109, 3) := by decide +kernel
theorem dX10_lacks_21 : decode cX10_lacks 21 = .ok (.ifCond .le 7, 3) := by decide +kernel
theorem dX10_lacks_24 : decode cX10_lacks 24 = .ok (.iconst 1, 1) := by decide +kernel
theorem dX10_lacks_25 : decode cX10_lacks 25 = .ok (.goto 4, 3) := by decide +kernel
theorem dX10_lacks_28 : decode cX10_lacks 28 = .ok (.iconst 0, 1) := by decide +kernel
theorem dX10_lacks_29 : decode cX10_lacks 29 = .ok (.ireturn, 1) := by decide +kernel
theorem dX10_addPackage_0 : decode cX10_addPackage 0 = .ok (.aload_n 0, 1) := by decide +kernel
theorem dX10_addPackage_1 : decode cX10_addPackage 1 = .ok (.iload_n 1, 1) := by decide +kernel
theorem dX10_addPackage_2 : decode cX10_addPackage 2 = .ok (.iconst 0, 1) := by decide +kernel
theorem dX10_addPackage_3 : decode cX10_addPackage 3 = .ok (.iconst 2, 1) := by decide +kernel
theorem dX10_addPackage_4 : decode cX10_addPackage 4 = .ok (.invokestatic 115, 3) := by decide +kernel
theorem dX10_addPackage_7 : decode cX10_addPackage 7 = .ok (.ifCond .ne 7, 3) := by decide +kernel
theorem dX10_addPackage_10 : decode cX10_addPackage 10 = .ok (.iconst 1, 1) := by decide +kernel
theorem dX10_addPackage_11 : decode cX10_addPackage 11 = .ok (.goto 17, 3) := by decide +kernel
theorem dX10_addPackage_14 : decode cX10_addPackage 14 = .ok (.aload_n 0, 1) := by decide +kernel
theorem dX10_addPackage_15 : decode cX10_addPackage 15 = .ok (.getfield 112, 3) := by decide +kernel
theorem dX10_addPackage_18 : decode cX10_addPackage 18 = .ok (.bipush 6, 2) := by decide +kernel
theorem dX10_addPackage_20 : decode cX10_addPackage 20 = .ok (.if_icmp .ne 7, 3) := by decide +kernel
theorem dX10_addPackage_23 : decode cX10_addPackage 23 = .ok (.iconst 2, 1) := by decide +kernel
theorem dX10_addPackage_24 : decode cX10_addPackage 24 = .ok (.goto 4, 3) := by decide +kernel
theorem dX10_addPackage_27 : decode cX10_addPackage 27 = .ok (.iconst 0, 1) := by decide +kernel
theorem dX10_addPackage_28 : decode cX10_addPackage 28 = .ok (.putfield 109, 3) := by decide +kernel
theorem dX10_addPackage_31 : decode cX10_addPackage 31 = .ok (.aload_n 0, 1) := by decide +kernel
theorem dX10_addPackage_32 : decode cX10_addPackage 32 = .ok (.getfield 109, 3) := by decide +kernel
theorem dX10_addPackage_35 : decode cX10_addPackage 35 = .ok (.ifCond .le 5, 3) := by decide +kernel
theorem dX10_addPackage_38 : decode cX10_addPackage 38 = .ok (.iconst 0, 1) := by decide +kernel
theorem dX10_addPackage_39 : decode cX10_addPackage 39 = .ok (.ireturn, 1) := by decide +kernel
theorem dX10_addPackage_40 : decode cX10_addPackage 40 = .ok (.aload_n 0, 1) := by decide +kernel
theorem dX10_addPackage_41 : decode cX10_addPackage 41 = .ok (.getfield 9, 3) := by decide +kernel
theorem dX10_addPackage_44 : decode cX10_addPackage 44 = .ok (.aload_n 0, 1) := by decide +kernel
theorem dX10_addPackage_45 : decode cX10_addPackage 45 = .ok (.getfield 112, 3) := by decide +kernel
theorem dX10_addPackage_48 : decode cX10_addPackage 48 = .ok (.iload_n 1, 1) := by decide +kernel
theorem dX10_addPackage_49 : decode cX10_addPackage 49 = .ok (.iastore, 1) := by decide +kernel
theorem dX10_addPackage_50 : decode cX10_addPackage 50 = .ok (.aload_n 0, 1) := by decide +kernel
theorem dX10_addPackage_51 : decode cX10_addPackage 51 = .ok (.dup, 1) := by decide +kernel
theorem dX10_addPackage_52 : decode cX10_addPackage 52 = .ok (.getfield 112, 3) := by decide +kernel
theorem dX10_addPackage_55 : decode cX10_addPackage 55 = .ok (.iconst 1, 1) := by decide +kernel
theorem dX10_addPackage_56 : decode cX10_addPackage 56 = .ok (.iadd, 1) := by decide +kernel
theorem dX10_addPackage_57 : decode cX10_addPackage 57 = .ok (.putfield 112, 3) := by decide +kernel
theorem dX10_addPackage_60 : decode cX10_addPackage 60 = .ok (.aload_n 0, 1) := by decide +kernel
theorem dX10_addPackage_61 : decode cX10_addPackage 61 = .ok (.getfield 112, 3) := by decide +kernel
theorem dX10_addPackage_64 : decode cX10_addPackage 64 = .ok (.iconst 1, 1) := by decide +kernel
theorem dX10_addPackage_65 : decode cX10_addPackage 65 = .ok (.isub, 1) := by decide +kernel
theorem dX10_addPackage_66 : decode cX10_addPackage 66 = .ok (.ireturn, 1) := by decide +kernel
theorem dX10_setSource_0 : decode cX10_setSource 0 = .ok (.aload_n 0, 1) := by decide +kernel
theorem dX10_setSource_1 : decode cX10_setSource 1 = .ok (.iload_n 1, 1) := by decide +kernel
theorem dX10_setSource_2 : decode cX10_setSource 2 = .ok (.invokevirtual 123, 3) := by decide +kernel
theorem dX10_setSource_5 : decode cX10_setSource 5 = .ok (.ifCond .eq 5, 3) := by decide +kernel
theorem dX10_setSource_8 : decode cX10_setSource 8 = .ok (.iconst 0, 1) := by decide +kernel
theorem dX10_setSource_9 : decode cX10_setSource 9 = .ok (.ireturn, 1) := by decide +kernel
theorem dX10_setSource_10 : decode cX10_setSource 10 = .ok (.iload_n 2, 1) := by decide +kernel
theorem dX10_setSource_11 : decode cX10_setSource 11 = .ok (.iconst 0, 1) := by decide +kernel
theorem dX10_setSource_12 : decode cX10_setSource 12 = .ok (.sipush 999, 3) := by decide +kernel
theorem dX10_setSource_15 : decode cX10_setSource 15 = .ok (.invokestatic 115, 3) := by decide +kernel
theorem dX10_setSource_18 : decode cX10_setSource 18 = .ok (.ifCond .eq 14, 3) := by decide +kernel
theorem dX10_setSource_21 : decode cX10_setSource 21 = .ok (.iload_n 3, 1) := by decide +kernel
theorem dX10_setSource_22 : decode cX10_setSource 22 = .ok (.iconst 0, 1) := by decide +kernel
theorem dX10_setSource_23 : decode cX10_setSource 23 = .ok (.sipush 999, 3) := by decide +kernel
theorem dX10_setSource_26 : decode cX10_setSource 26 = .ok (.invokestatic 115, 3) := by decide +kernel
theorem dX10_setSource_29 : decode cX10_setSource 29 = .ok (.ifCond .ne 9, 3) := by decide +kernel
theorem dX10_setSource_32 : decode cX10_setSource 32 = .ok (.aload_n 0, 1) := by decide +kernel
theorem dX10_setSource_33 : decode cX10_setSource 33 = .ok (.iconst 2, 1) := by decide +kernel
theorem dX10_setSource_34 : decode cX10_setSource 34 = .ok (.invokevirtual 126, 3) := by decide +kernel
theorem dX10_setSource_37 : decode cX10_setSource 37 = .ok (.ireturn, 1) := by decide +kernel
theorem dX10_setSource_38 : decode cX10_setSource 38 = .ok (.aload_n 0, 1) := by decide +kernel
theorem dX10_setSource_39 : decode cX10_setSource 39 = .ok (.getfield 13, 3) := by decide +kernel
theorem dX10_setSource_42 : decode cX10_setSource 42 = .ok (.iload_n 1, 1) := by decide +kernel
theorem dX10_setSource_43 : decode cX10_setSource 43 = .ok (.iaload, 1) := by decide +kernel
theorem dX10_setSource_44 : decode cX10_setSource 44 = .ok (.iload_n 2, 1) := by decide +kernel
theorem dX10_setSource_45 : decode cX10_setSource 45 = .ok (.if_icmp .ne 7, 3) := by decide +kernel
theorem dX10_setSource_48 : decode cX10_setSource 48 = .ok (.iconst 0, 1) := by decide +kernel
theorem dX10_setSource_49 : decode cX10_setSource 49 = .ok (.goto 4, 3) := by decide +kernel
theorem dX10_setSource_52 : decode cX10_setSource 52 = .ok (.iconst 1, 1) := by decide +kernel
theorem dX10_setSource_53 : decode cX10_setSource 53 = .ok (.aload_n 0, 1) := by decide +kernel
theorem dX10_setSource_54 : decode cX10_setSource 54 = .ok (.getfield 16, 3) := by decide +kernel
theorem dX10_setSource_57 : decode cX10_setSource 57 = .ok (.iload_n 1, 1) := by decide +kernel
theorem dX10_setSource_58 : decode cX10_setSource 58 = .ok (.iaload, 1) := by decide +kernel
theorem dX10_setSource_59 : decode cX10_setSource 59 = .ok (.iload_n 3, 1) := by decide +kernel
theorem dX10_setSource_60 : decode cX10_setSource 60 = .ok (.if_icmp .ne 7, 3) := by decide +kernel
theorem dX10_setSource_63 : decode cX10_setSource 63 = .ok (.iconst 0, 1) := by decide +kernel
theorem dX10_setSource_64 : decode cX10_setSource 64 = .ok (.goto 4, 3) := by decide +kernel
theorem dX10_setSource_67 : decode cX10_setSource 67 = .ok (.iconst 1, 1) := by decide +kernel
theorem dX10_setSource_68 : decode cX10_setSource 68 = .ok (.iadd, 1) := by decide +kernel
theorem dX10_setSource_69 : decode cX10_setSource 69 = .ok (.istore 4, 2) := by decide +kernel
theorem dX10_setSource_71 : decode cX10_setSource 71 = .ok (.aload_n 0, 1) := by decide +kernel
theorem dX10_setSource_72 : decode cX10_setSource 72 = .ok (.getfield 13, 3) := by decide +kernel
theorem dX10_setSource_75 : decode cX10_setSource 75 = .ok (.iload_n 1, 1) := by decide +kernel
theorem dX10_setSource_76 : decode cX10_setSource 76 = .ok (.iload_n 2, 1) := by decide +kernel
theorem dX10_setSource_77 : decode cX10_setSource 77 = .ok (.iastore, 1) := by decide +kernel
theorem dX10_setSource_78 : decode cX10_setSource 78 = .ok (.aload_n 0, 1) := by decide +kernel
theorem dX10_setSource_79 : decode cX10_setSource 79 = .ok (.getfield 16, 3) := by decide +kernel
theorem dX10_setSource_82 : decode cX10_setSource 82 = .ok (.iload_n 1, 1) := by decide +kernel
theorem dX10_setSource_83 : decode cX10_setSource 83 = .ok (.iload_n 3, 1) := by decide +kernel
theorem dX10_setSource_84 : decode cX10_setSource 84 = .ok (.iastore, 1) := by decide +kernel
theorem dX10_setSource_85 : decode cX10_setSource 85 = .ok (.iload 4, 2) := by decide +kernel
theorem dX10_setSource_87 : decode cX10_setSource 87 = .ok (.ireturn, 1) := by decide +kernel
theorem dX10_needsOf_0 : decode cX10_needsOf 0 = .ok (.iconst 0, 1) := by decide +kernel
theorem dX10_needsOf_1 : decode cX10_needsOf 1 = .ok (.istore_n 2, 1) := by decide +kernel
theorem dX10_needsOf_2 : decode cX10_needsOf 2 = .ok (.iconst 0, 1) := by decide +kernel
theorem dX10_needsOf_3 : decode cX10_needsOf 3 = .ok (.istore_n 3, 1) := by decide +kernel
theorem dX10_needsOf_4 : decode cX10_needsOf 4 = .ok (.iload_n 3, 1) := by decide +kernel
theorem dX10_needsOf_5 : decode cX10_needsOf 5 = .ok (.bipush 6, 2) := by decide +kernel
theorem dX10_needsOf_7 : decode cX10_needsOf 7 = .ok (.if_icmp .ge 30, 3) := by decide +kernel
theorem dX10_needsOf_10 : decode cX10_needsOf 10 = .ok (.iload_n 2, 1) := by decide +kernel
theorem dX10_needsOf_11 : decode cX10_needsOf 11 = .ok (.aload_n 0, 1) := by decide +kernel
theorem dX10_needsOf_12 : decode cX10_needsOf 12 = .ok (.getfield 21, 3) := by decide +kernel
theorem dX10_needsOf_15 : decode cX10_needsOf 15 = .ok (.iload_n 1, 1) := by decide +kernel
theorem dX10_needsOf_16 : decode cX10_needsOf 16 = .ok (.aaload, 1) := by decide +kernel
theorem dX10_needsOf_17 : decode cX10_needsOf 17 = .ok (.iload_n 3, 1) := by decide +kernel
theorem dX10_needsOf_18 : decode cX10_needsOf 18 = .ok (.iaload, 1) := by decide +kernel
theorem dX10_needsOf_19 : decode cX10_needsOf 19 = .ok (.ifCond .le 9, 3) := by decide +kernel
theorem dX10_needsOf_22 : decode cX10_needsOf 22 = .ok (.iconst 1, 1) := by decide +kernel
theorem dX10_needsOf_23 : decode cX10_needsOf 23 = .ok (.iload_n 3, 1) := by decide +kernel
theorem dX10_needsOf_24 : decode cX10_needsOf 24 = .ok (.ishl, 1) := by decide +kernel
theorem dX10_needsOf_25 : decode cX10_needsOf 25 = .ok (.goto 4, 3) := by decide +kernel
theorem dX10_needsOf_28 : decode cX10_needsOf 28 = .ok (.iconst 0, 1) := by decide +kernel
theorem dX10_needsOf_29 : decode cX10_needsOf 29 = .ok (.ior, 1) := by decide +kernel
theorem dX10_needsOf_30 : decode cX10_needsOf 30 = .ok (.istore_n 2, 1) := by decide +kernel
theorem dX10_needsOf_31 : decode cX10_needsOf 31 = .ok (.iinc 3 1, 3) := by decide +kernel
theorem dX10_needsOf_34 : decode cX10_needsOf 34 = .ok (.goto (-30), 3) := by decide +kernel
theorem dX10_needsOf_37 : decode cX10_needsOf 37 = .ok (.iload_n 2, 1) := by decide +kernel
theorem dX10_needsOf_38 : decode cX10_needsOf 38 = .ok (.ireturn, 1) := by decide +kernel
theorem dX10_need_0 : decode cX10_need 0 = .ok (.aload_n 0, 1) := by decide +kernel
theorem dX10_need_1 : decode cX10_need 1 = .ok (.aload_n 0, 1) := by decide +kernel
theorem dX10_need_2 : decode cX10_need 2 = .ok (.iload_n 1, 1) := by decide +kernel
theorem dX10_need_3 : decode cX10_need 3 = .ok (.invokevirtual 119, 3) := by decide +kernel
theorem dX10_need_6 : decode cX10_need 6 = .ok (.ifCond .eq 11, 3) := by decide +kernel
theorem dX10_need_9 : decode cX10_need 9 = .ok (.aload_n 0, 1) := by decide +kernel
theorem dX10_need_10 : decode cX10_need 10 = .ok (.iload_n 2, 1) := by decide +kernel
theorem dX10_need_11 : decode cX10_need 11 = .ok (.invokevirtual 119, 3) := by decide +kernel
theorem dX10_need_14 : decode cX10_need 14 = .ok (.ifCond .ne 7, 3) := by decide +kernel
theorem dX10_need_17 : decode cX10_need 17 = .ok (.iconst 1, 1) := by decide +kernel
theorem dX10_need_18 : decode cX10_need 18 = .ok (.goto 37, 3) := by decide +kernel
theorem dX10_need_21 : decode cX10_need 21 = .ok (.iload_n 2, 1) := by decide +kernel
theorem dX10_need_22 : decode cX10_need 22 = .ok (.iload_n 1, 1) := by decide +kernel
theorem dX10_need_23 : decode cX10_need 23 = .ok (.if_icmp .ge 27, 3) := by decide +kernel
theorem dX10_need_26 : decode cX10_need 26 = .ok (.iload_n 3, 1) := by decide +kernel
theorem dX10_need_27 : decode cX10_need 27 = .ok (.bipush 100, 2) := by decide +kernel
theorem dX10_need_29 : decode cX10_need 29 = .ok (.sipush 999, 3) := by decide +kernel
theorem dX10_need_32 : decode cX10_need 32 = .ok (.invokestatic 115, 3) := by decide +kernel
theorem dX10_need_35 : decode cX10_need 35 = .ok (.ifCond .eq 15, 3) := by decide +kernel
theorem dX10_need_38 : decode cX10_need 38 = .ok (.iload 4, 2) := by decide +kernel
theorem dX10_need_40 : decode cX10_need 40 = .ok (.iload_n 3, 1) := by decide +kernel
theorem dX10_need_41 : decode cX10_need 41 = .ok (.sipush 999, 3) := by decide +kernel
theorem dX10_need_44 : decode cX10_need 44 = .ok (.invokestatic 115, 3) := by decide +kernel
theorem dX10_need_47 : decode cX10_need 47 = .ok (.ifCond .ne 7, 3) := by decide +kernel
theorem dX10_need_50 : decode cX10_need 50 = .ok (.iconst 2, 1) := by decide +kernel
theorem dX10_need_51 : decode cX10_need 51 = .ok (.goto 4, 3) := by decide +kernel
theorem dX10_need_54 : decode cX10_need 54 = .ok (.iconst 0, 1) := by decide +kernel
theorem dX10_need_55 : decode cX10_need 55 = .ok (.putfield 109, 3) := by decide +kernel
theorem dX10_need_58 : decode cX10_need 58 = .ok (.aload_n 0, 1) := by decide +kernel
theorem dX10_need_59 : decode cX10_need 59 = .ok (.getfield 109, 3) := by decide +kernel
theorem dX10_need_62 : decode cX10_need 62 = .ok (.ifCond .le 5, 3) := by decide +kernel
theorem dX10_need_65 : decode cX10_need 65 = .ok (.iconst 0, 1) := by decide +kernel
theorem dX10_need_66 : decode cX10_need 66 = .ok (.ireturn, 1) := by decide +kernel
theorem dX10_need_67 : decode cX10_need 67 = .ok (.aload_n 0, 1) := by decide +kernel
theorem dX10_need_68 : decode cX10_need 68 = .ok (.getfield 21, 3) := by decide +kernel
theorem dX10_need_71 : decode cX10_need 71 = .ok (.iload_n 1, 1) := by decide +kernel
theorem dX10_need_72 : decode cX10_need 72 = .ok (.aaload, 1) := by decide +kernel
theorem dX10_need_73 : decode cX10_need 73 = .ok (.iload_n 2, 1) := by decide +kernel
theorem dX10_need_74 : decode cX10_need 74 = .ok (.iload_n 3, 1) := by decide +kernel
theorem dX10_need_75 : decode cX10_need 75 = .ok (.iastore, 1) := by decide +kernel
theorem dX10_need_76 : decode cX10_need 76 = .ok (.aload_n 0, 1) := by decide +kernel
theorem dX10_need_77 : decode cX10_need 77 = .ok (.getfield 24, 3) := by decide +kernel
theorem dX10_need_80 : decode cX10_need 80 = .ok (.iload_n 1, 1) := by decide +kernel
theorem dX10_need_81 : decode cX10_need 81 = .ok (.aaload, 1) := by decide +kernel
theorem dX10_need_82 : decode cX10_need 82 = .ok (.iload_n 2, 1) := by decide +kernel
theorem dX10_need_83 : decode cX10_need 83 = .ok (.iload 4, 2) := by decide +kernel
theorem dX10_need_85 : decode cX10_need 85 = .ok (.iastore, 1) := by decide +kernel
theorem dX10_need_86 : decode cX10_need 86 = .ok (.aload_n 0, 1) := by decide +kernel
theorem dX10_need_87 : decode cX10_need 87 = .ok (.iload_n 1, 1) := by decide +kernel
theorem dX10_need_88 : decode cX10_need 88 = .ok (.invokevirtual 130, 3) := by decide +kernel
theorem dX10_need_91 : decode cX10_need 91 = .ok (.invokestatic 133, 3) := by decide +kernel
theorem dX10_need_94 : decode cX10_need 94 = .ok (.ireturn, 1) := by decide +kernel
theorem dX10_dropNeed_0 : decode cX10_dropNeed 0 = .ok (.aload_n 0, 1) := by decide +kernel
theorem dX10_dropNeed_1 : decode cX10_dropNeed 1 = .ok (.aload_n 0, 1) := by decide +kernel
theorem dX10_dropNeed_2 : decode cX10_dropNeed 2 = .ok (.iload_n 1, 1) := by decide +kernel
theorem dX10_dropNeed_3 : decode cX10_dropNeed 3 = .ok (.invokevirtual 119, 3) := by decide +kernel
theorem dX10_dropNeed_6 : decode cX10_dropNeed 6 = .ok (.ifCond .eq 11, 3) := by decide +kernel
theorem dX10_dropNeed_9 : decode cX10_dropNeed 9 = .ok (.aload_n 0, 1) := by decide +kernel
theorem dX10_dropNeed_10 : decode cX10_dropNeed 10 = .ok (.iload_n 2, 1) := by decide +kernel
theorem dX10_dropNeed_11 : decode cX10_dropNeed 11 = .ok (.invokevirtual 119, 3) := by decide +kernel
theorem dX10_dropNeed_14 : decode cX10_dropNeed 14 = .ok (.ifCond .ne 7, 3) := by decide +kernel
theorem dX10_dropNeed_17 : decode cX10_dropNeed 17 = .ok (.iconst 1, 1) := by decide +kernel
theorem dX10_dropNeed_18 : decode cX10_dropNeed 18 = .ok (.goto 19, 3) := by decide +kernel
theorem dX10_dropNeed_21 : decode cX10_dropNeed 21 = .ok (.aload_n 0, 1) := by decide +kernel
theorem dX10_dropNeed_22 : decode cX10_dropNeed 22 = .ok (.getfield 21, 3) := by decide +kernel
theorem dX10_dropNeed_25 : decode cX10_dropNeed 25 = .ok (.iload_n 1, 1) := by decide +kernel
theorem dX10_dropNeed_26 : decode cX10_dropNeed 26 = .ok (.aaload, 1) := by decide +kernel
theorem dX10_dropNeed_27 : decode cX10_dropNeed 27 = .ok (.iload_n 2, 1) := by decide +kernel
theorem dX10_dropNeed_28 : decode cX10_dropNeed 28 = .ok (.iaload, 1) := by decide +kernel
theorem dX10_dropNeed_29 : decode cX10_dropNeed 29 = .ok (.ifCond .ne 7, 3) := by decide +kernel
theorem dX10_dropNeed_32 : decode cX10_dropNeed 32 = .ok (.iconst 2, 1) := by decide +kernel
theorem dX10_dropNeed_33 : decode cX10_dropNeed 33 = .ok (.goto 4, 3) := by decide +kernel
theorem dX10_dropNeed_36 : decode cX10_dropNeed 36 = .ok (.iconst 0, 1) := by decide +kernel
theorem dX10_dropNeed_37 : decode cX10_dropNeed 37 = .ok (.putfield 109, 3) := by decide +kernel
theorem dX10_dropNeed_40 : decode cX10_dropNeed 40 = .ok (.aload_n 0, 1) := by decide +kernel
theorem dX10_dropNeed_41 : decode cX10_dropNeed 41 = .ok (.getfield 109, 3) := by decide +kernel
theorem dX10_dropNeed_44 : decode cX10_dropNeed 44 = .ok (.ifCond .le 5, 3) := by decide +kernel
theorem dX10_dropNeed_47 : decode cX10_dropNeed 47 = .ok (.iconst 0, 1) := by decide +kernel
theorem dX10_dropNeed_48 : decode cX10_dropNeed 48 = .ok (.ireturn, 1) := by decide +kernel
theorem dX10_dropNeed_49 : decode cX10_dropNeed 49 = .ok (.aload_n 0, 1) := by decide +kernel
theorem dX10_dropNeed_50 : decode cX10_dropNeed 50 = .ok (.getfield 21, 3) := by decide +kernel
theorem dX10_dropNeed_53 : decode cX10_dropNeed 53 = .ok (.iload_n 1, 1) := by decide +kernel
theorem dX10_dropNeed_54 : decode cX10_dropNeed 54 = .ok (.aaload, 1) := by decide +kernel
theorem dX10_dropNeed_55 : decode cX10_dropNeed 55 = .ok (.iload_n 2, 1) := by decide +kernel
theorem dX10_dropNeed_56 : decode cX10_dropNeed 56 = .ok (.iconst 0, 1) := by decide +kernel
theorem dX10_dropNeed_57 : decode cX10_dropNeed 57 = .ok (.iastore, 1) := by decide +kernel
theorem dX10_dropNeed_58 : decode cX10_dropNeed 58 = .ok (.aload_n 0, 1) := by decide +kernel
theorem dX10_dropNeed_59 : decode cX10_dropNeed 59 = .ok (.getfield 24, 3) := by decide +kernel
theorem dX10_dropNeed_62 : decode cX10_dropNeed 62 = .ok (.iload_n 1, 1) := by decide +kernel
theorem dX10_dropNeed_63 : decode cX10_dropNeed 63 = .ok (.aaload, 1) := by decide +kernel
theorem dX10_dropNeed_64 : decode cX10_dropNeed 64 = .ok (.iload_n 2, 1) := by decide +kernel
theorem dX10_dropNeed_65 : decode cX10_dropNeed 65 = .ok (.iconst 0, 1) := by decide +kernel
theorem dX10_dropNeed_66 : decode cX10_dropNeed 66 = .ok (.iastore, 1) := by decide +kernel
theorem dX10_dropNeed_67 : decode cX10_dropNeed 67 = .ok (.aload_n 0, 1) := by decide +kernel
theorem dX10_dropNeed_68 : decode cX10_dropNeed 68 = .ok (.iload_n 1, 1) := by decide +kernel
theorem dX10_dropNeed_69 : decode cX10_dropNeed 69 = .ok (.invokevirtual 130, 3) := by decide +kernel
theorem dX10_dropNeed_72 : decode cX10_dropNeed 72 = .ok (.invokestatic 133, 3) := by decide +kernel
theorem dX10_dropNeed_75 : decode cX10_dropNeed 75 = .ok (.ireturn, 1) := by decide +kernel
theorem dX10_fits_0 : decode cX10_fits 0 = .ok (.aload_n 0, 1) := by decide +kernel
theorem dX10_fits_1 : decode cX10_fits 1 = .ok (.getfield 61, 3) := by decide +kernel
theorem dX10_fits_4 : decode cX10_fits 4 = .ok (.iload_n 1, 1) := by decide +kernel
theorem dX10_fits_5 : decode cX10_fits 5 = .ok (.iaload, 1) := by decide +kernel
theorem dX10_fits_6 : decode cX10_fits 6 = .ok (.istore 4, 2) := by decide +kernel
theorem dX10_fits_8 : decode cX10_fits 8 = .ok (.aload_n 0, 1) := by decide +kernel
theorem dX10_fits_9 : decode cX10_fits 9 = .ok (.getfield 64, 3) := by decide +kernel
theorem dX10_fits_12 : decode cX10_fits 12 = .ok (.iload_n 1, 1) := by decide +kernel
theorem dX10_fits_13 : decode cX10_fits 13 = .ok (.iaload, 1) := by decide +kernel
theorem dX10_fits_14 : decode cX10_fits 14 = .ok (.istore 5, 2) := by decide +kernel
theorem dX10_fits_16 : decode cX10_fits 16 = .ok (.aload_n 0, 1) := by decide +kernel
theorem dX10_fits_17 : decode cX10_fits 17 = .ok (.getfield 79, 3) := by decide +kernel
theorem dX10_fits_20 : decode cX10_fits 20 = .ok (.iload_n 1, 1) := by decide +kernel
theorem dX10_fits_21 : decode cX10_fits 21 = .ok (.baload, 1) := by decide +kernel
theorem dX10_fits_22 : decode cX10_fits 22 = .ok (.ifCond .ne 30, 3) := by decide +kernel
theorem dX10_fits_25 : decode cX10_fits 25 = .ok (.aload_n 2, 1) := by decide +kernel
theorem dX10_fits_26 : decode cX10_fits 26 = .ok (.iload 4, 2) := by decide +kernel
theorem dX10_fits_28 : decode cX10_fits 28 = .ok (.iaload, 1) := by decide +kernel
theorem dX10_fits_29 : decode cX10_fits 29 = .ok (.ifCond .eq 19, 3) := by decide +kernel
theorem dX10_fits_32 : decode cX10_fits 32 = .ok (.iload 5, 2) := by decide +kernel
theorem dX10_fits_34 : decode cX10_fits 34 = .ok (.aload_n 2, 1) := by decide +kernel
theorem dX10_fits_35 : decode cX10_fits 35 = .ok (.iload 4, 2) := by decide +kernel
theorem dX10_fits_37 : decode cX10_fits 37 = .ok (.iaload, 1) := by decide +kernel
theorem dX10_fits_38 : decode cX10_fits 38 = .ok (.aload_n 3, 1) := by decide +kernel
theorem dX10_fits_39 : decode cX10_fits 39 = .ok (.iload 4, 2) := by decide +kernel
theorem dX10_fits_41 : decode cX10_fits 41 = .ok (.iaload, 1) := by decide +kernel
theorem dX10_fits_42 : decode cX10_fits 42 = .ok (.invokestatic 115, 3) := by decide +kernel
theorem dX10_fits_45 : decode cX10_fits 45 = .ok (.ifCond .eq 7, 3) := by decide +kernel
theorem dX10_fits_48 : decode cX10_fits 48 = .ok (.iconst 1, 1) := by decide +kernel
theorem dX10_fits_49 : decode cX10_fits 49 = .ok (.goto 4, 3) := by decide +kernel
theorem dX10_fits_52 : decode cX10_fits 52 = .ok (.iconst 0, 1) := by decide +kernel
theorem dX10_fits_53 : decode cX10_fits 53 = .ok (.istore 6, 2) := by decide +kernel
theorem dX10_fits_55 : decode cX10_fits 55 = .ok (.iload 4, 2) := by decide +kernel
theorem dX10_fits_57 : decode cX10_fits 57 = .ok (.iconst 1, 1) := by decide +kernel
theorem dX10_fits_58 : decode cX10_fits 58 = .ok (.iadd, 1) := by decide +kernel
theorem dX10_fits_59 : decode cX10_fits 59 = .ok (.istore 7, 2) := by decide +kernel
theorem dX10_fits_61 : decode cX10_fits 61 = .ok (.iload 7, 2) := by decide +kernel
theorem dX10_fits_63 : decode cX10_fits 63 = .ok (.bipush 6, 2) := by decide +kernel
theorem dX10_fits_65 : decode cX10_fits 65 = .ok (.if_icmp .ge 77, 3) := by decide +kernel
theorem dX10_fits_68 : decode cX10_fits 68 = .ok (.aload_n 0, 1) := by decide +kernel
theorem dX10_fits_69 : decode cX10_fits 69 = .ok (.getfield 106, 3) := by decide +kernel
theorem dX10_fits_72 : decode cX10_fits 72 = .ok (.iload 7, 2) := by decide +kernel
theorem dX10_fits_74 : decode cX10_fits 74 = .ok (.iaload, 1) := by decide +kernel
theorem dX10_fits_75 : decode cX10_fits 75 = .ok (.istore 8, 2) := by decide +kernel
theorem dX10_fits_77 : decode cX10_fits 77 = .ok (.iload 6, 2) := by decide +kernel
theorem dX10_fits_79 : decode cX10_fits 79 = .ok (.ifCond .eq 54, 3) := by decide +kernel
theorem dX10_fits_82 : decode cX10_fits 82 = .ok (.iload 8, 2) := by decide +kernel
theorem dX10_fits_84 : decode cX10_fits 84 = .ok (.iconst (-1), 1) := by decide +kernel
theorem dX10_fits_85 : decode cX10_fits 85 = .ok (.if_icmp .eq 44, 3) := by decide +kernel
theorem dX10_fits_88 : decode cX10_fits 88 = .ok (.aload_n 0, 1) := by decide +kernel
theorem dX10_fits_89 : decode cX10_fits 89 = .ok (.getfield 70, 3) := by decide +kernel
theorem dX10_fits_92 : decode cX10_fits 92 = .ok (.iload 8, 2) := by decide +kernel
theorem dX10_fits_94 : decode cX10_fits 94 = .ok (.aaload, 1) := by decide +kernel
theorem dX10_fits_95 : decode cX10_fits 95 = .ok (.iload 4, 2) := by decide +kernel
theorem dX10_fits_97 : decode cX10_fits 97 = .ok (.iaload, 1) := by decide +kernel
theorem dX10_fits_98 : decode cX10_fits 98 = .ok (.ifCond .eq 31, 3) := by decide +kernel
theorem dX10_fits_101 : decode cX10_fits 101 = .ok (.iload 5, 2) := by decide +kernel
theorem dX10_fits_103 : decode cX10_fits 103 = .ok (.aload_n 0, 1) := by decide +kernel
theorem dX10_fits_104 : decode cX10_fits 104 = .ok (.getfield 70, 3) := by decide +kernel
theorem dX10_fits_107 : decode cX10_fits 107 = .ok (.iload 8, 2) := by decide +kernel
theorem dX10_fits_109 : decode cX10_fits 109 = .ok (.aaload, 1) := by decide +kernel
theorem dX10_fits_110 : decode cX10_fits 110 = .ok (.iload 4, 2) := by decide +kernel
theorem dX10_fits_112 : decode cX10_fits 112 = .ok (.iaload, 1) := by decide +kernel
theorem dX10_fits_113 : decode cX10_fits 113 = .ok (.aload_n 0, 1) := by decide +kernel
theorem dX10_fits_114 : decode cX10_fits 114 = .ok (.getfield 73, 3) := by decide +kernel
theorem dX10_fits_117 : decode cX10_fits 117 = .ok (.iload 8, 2) := by decide +kernel
theorem dX10_fits_119 : decode cX10_fits 119 = .ok (.aaload, 1) := by decide +kernel
theorem dX10_fits_120 : decode cX10_fits 120 = .ok (.iload 4, 2) := by decide +kernel
theorem dX10_fits_122 : decode cX10_fits 122 = .ok (.iaload, 1) := by decide +kernel
theorem dX10_fits_123 : decode cX10_fits 123 = .ok (.invokestatic 115, 3) := by decide +kernel
theorem dX10_fits_126 : decode cX10_fits 126 = .ok (.ifCond .eq 7, 3) := by decide +kernel
theorem dX10_fits_129 : decode cX10_fits 129 = .ok (.iconst 1, 1) := by decide +kernel
theorem dX10_fits_130 : decode cX10_fits 130 = .ok (.goto 4, 3) := by decide +kernel
theorem dX10_fits_133 : decode cX10_fits 133 = .ok (.iconst 0, 1) := by decide +kernel
theorem dX10_fits_134 : decode cX10_fits 134 = .ok (.istore 6, 2) := by decide +kernel
theorem dX10_fits_136 : decode cX10_fits 136 = .ok (.iinc 7 1, 3) := by decide +kernel
theorem dX10_fits_139 : decode cX10_fits 139 = .ok (.goto (-78), 3) := by decide +kernel
theorem dX10_fits_142 : decode cX10_fits 142 = .ok (.iload 6, 2) := by decide +kernel
theorem dX10_fits_144 : decode cX10_fits 144 = .ok (.ireturn, 1) := by decide +kernel
theorem dX10_isReached_0 : decode cX10_isReached 0 = .ok (.aload_n 2, 1) := by decide +kernel
theorem dX10_isReached_1 : decode cX10_isReached 1 = .ok (.iload_n 1, 1) := by decide +kernel
theorem dX10_isReached_2 : decode cX10_isReached 2 = .ok (.iaload, 1) := by decide +kernel
theorem dX10_isReached_3 : decode cX10_isReached 3 = .ok (.ifCond .le 7, 3) := by decide +kernel
theorem dX10_isReached_6 : decode cX10_isReached 6 = .ok (.iconst 1, 1) := by decide +kernel
theorem dX10_isReached_7 : decode cX10_isReached 7 = .ok (.goto 4, 3) := by decide +kernel
theorem dX10_isReached_10 : decode cX10_isReached 10 = .ok (.iconst 0, 1) := by decide +kernel
theorem dX10_isReached_11 : decode cX10_isReached 11 = .ok (.istore_n 3, 1) := by decide +kernel
theorem dX10_isReached_12 : decode cX10_isReached 12 = .ok (.iload_n 1, 1) := by decide +kernel
theorem dX10_isReached_13 : decode cX10_isReached 13 = .ok (.iconst 1, 1) := by decide +kernel
theorem dX10_isReached_14 : decode cX10_isReached 14 = .ok (.iadd, 1) := by decide +kernel
theorem dX10_isReached_15 : decode cX10_isReached 15 = .ok (.istore 4, 2) := by decide +kernel
theorem dX10_isReached_17 : decode cX10_isReached 17 = .ok (.iload 4, 2) := by decide +kernel
theorem dX10_isReached_19 : decode cX10_isReached 19 = .ok (.bipush 6, 2) := by decide +kernel
theorem dX10_isReached_21 : decode cX10_isReached 21 = .ok (.if_icmp .ge 47, 3) := by decide +kernel
theorem dX10_isReached_24 : decode cX10_isReached 24 = .ok (.iload_n 3, 1) := by decide +kernel
theorem dX10_isReached_25 : decode cX10_isReached 25 = .ok (.ifCond .ne 31, 3) := by decide +kernel
theorem dX10_isReached_28 : decode cX10_isReached 28 = .ok (.aload_n 0, 1) := by decide +kernel
theorem dX10_isReached_29 : decode cX10_isReached 29 = .ok (.getfield 106, 3) := by decide +kernel
theorem dX10_isReached_32 : decode cX10_isReached 32 = .ok (.iload 4, 2) := by decide +kernel
theorem dX10_isReached_34 : decode cX10_isReached 34 = .ok (.iaload, 1) := by decide +kernel
theorem dX10_isReached_35 : decode cX10_isReached 35 = .ok (.iconst (-1), 1) := by decide +kernel
theorem dX10_isReached_36 : decode cX10_isReached 36 = .ok (.if_icmp .eq 24, 3) := by decide +kernel
theorem dX10_isReached_39 : decode cX10_isReached 39 = .ok (.aload_n 0, 1) := by decide +kernel
theorem dX10_isReached_40 : decode cX10_isReached 40 = .ok (.getfield 70, 3) := by decide +kernel
theorem dX10_isReached_43 : decode cX10_isReached 43 = .ok (.aload_n 0, 1) := by decide +kernel
theorem dX10_isReached_44 : decode cX10_isReached 44 = .ok (.getfield 106, 3) := by decide +kernel
theorem dX10_isReached_47 : decode cX10_isReached 47 = .ok (.iload 4, 2) := by decide +kernel
theorem dX10_isReached_49 : decode cX10_isReached 49 = .ok (.iaload, 1) := by decide +kernel
theorem dX10_isReached_50 : decode cX10_isReached 50 = .ok (.aaload, 1) := by decide +kernel
theorem dX10_isReached_51 : decode cX10_isReached 51 = .ok (.iload_n 1, 1) := by decide +kernel
theorem dX10_isReached_52 : decode cX10_isReached 52 = .ok (.iaload, 1) := by decide +kernel
theorem dX10_isReached_53 : decode cX10_isReached 53 = .ok (.ifCond .le 7, 3) := by decide +kernel
theorem dX10_isReached_56 : decode cX10_isReached 56 = .ok (.iconst 1, 1) := by decide +kernel
theorem dX10_isReached_57 : decode cX10_isReached 57 = .ok (.goto 4, 3) := by decide +kernel
theorem dX10_isReached_60 : decode cX10_isReached 60 = .ok (.iconst 0, 1) := by decide +kernel
theorem dX10_isReached_61 : decode cX10_isReached 61 = .ok (.istore_n 3, 1) := by decide +kernel
theorem dX10_isReached_62 : decode cX10_isReached 62 = .ok (.iinc 4 1, 3) := by decide +kernel
theorem dX10_isReached_65 : decode cX10_isReached 65 = .ok (.goto (-48), 3) := by decide +kernel
theorem dX10_isReached_68 : decode cX10_isReached 68 = .ok (.iload_n 3, 1) := by decide +kernel
theorem dX10_isReached_69 : decode cX10_isReached 69 = .ok (.ireturn, 1) := by decide +kernel
theorem dX10_chooses_0 : decode cX10_chooses 0 = .ok (.iload_n 1, 1) := by decide +kernel
theorem dX10_chooses_1 : decode cX10_chooses 1 = .ok (.ifCond .ge 5, 3) := by decide +kernel
theorem dX10_chooses_4 : decode cX10_chooses 4 = .ok (.iconst 1, 1) := by decide +kernel
theorem dX10_chooses_5 : decode cX10_chooses 5 = .ok (.ireturn, 1) := by decide +kernel
theorem dX10_chooses_6 : decode cX10_chooses 6 = .ok (.aload_n 0, 1) := by decide +kernel
theorem dX10_chooses_7 : decode cX10_chooses 7 = .ok (.getfield 106, 3) := by decide +kernel
theorem dX10_chooses_10 : decode cX10_chooses 10 = .ok (.iload_n 1, 1) := by decide +kernel
theorem dX10_chooses_11 : decode cX10_chooses 11 = .ok (.iconst (-1), 1) := by decide +kernel
theorem dX10_chooses_12 : decode cX10_chooses 12 = .ok (.iastore, 1) := by decide +kernel
theorem dX10_chooses_13 : decode cX10_chooses 13 = .ok (.aload_n 0, 1) := by decide +kernel
theorem dX10_chooses_14 : decode cX10_chooses 14 = .ok (.iload_n 1, 1) := by decide +kernel
theorem dX10_chooses_15 : decode cX10_chooses 15 = .ok (.aload_n 2, 1) := by decide +kernel
theorem dX10_chooses_16 : decode cX10_chooses 16 = .ok (.invokevirtual 138, 3) := by decide +kernel
theorem dX10_chooses_19 : decode cX10_chooses 19 = .ok (.ifCond .ne 13, 3) := by decide +kernel
theorem dX10_chooses_22 : decode cX10_chooses 22 = .ok (.aload_n 0, 1) := by decide +kernel
theorem dX10_chooses_23 : decode cX10_chooses 23 = .ok (.iload_n 1, 1) := by decide +kernel
theorem dX10_chooses_24 : decode cX10_chooses 24 = .ok (.iconst 1, 1) := by decide +kernel
theorem dX10_chooses_25 : decode cX10_chooses 25 = .ok (.isub, 1) := by decide +kernel
theorem dX10_chooses_26 : decode cX10_chooses 26 = .ok (.aload_n 2, 1) := by decide +kernel
theorem dX10_chooses_27 : decode cX10_chooses 27 = .ok (.aload_n 3, 1) := by decide +kernel
theorem dX10_chooses_28 : decode cX10_chooses 28 = .ok (.invokevirtual 142, 3) := by decide +kernel
theorem dX10_chooses_31 : decode cX10_chooses 31 = .ok (.ireturn, 1) := by decide +kernel
theorem dX10_chooses_32 : decode cX10_chooses 32 = .ok (.aload_n 0, 1) := by decide +kernel
theorem dX10_chooses_33 : decode cX10_chooses 33 = .ok (.getfield 146, 3) := by decide +kernel
theorem dX10_chooses_36 : decode cX10_chooses 36 = .ok (.iconst 1, 1) := by decide +kernel
theorem dX10_chooses_37 : decode cX10_chooses 37 = .ok (.isub, 1) := by decide +kernel
theorem dX10_chooses_38 : decode cX10_chooses 38 = .ok (.istore 4, 2) := by decide +kernel
theorem dX10_chooses_40 : decode cX10_chooses 40 = .ok (.iload 4, 2) := by decide +kernel
theorem dX10_chooses_42 : decode cX10_chooses 42 = .ok (.ifCond .lt 60, 3) := by decide +kernel
theorem dX10_chooses_45 : decode cX10_chooses 45 = .ok (.aload_n 0, 1) := by decide +kernel
theorem dX10_chooses_46 : decode cX10_chooses 46 = .ok (.getfield 61, 3) := by decide +kernel
theorem dX10_chooses_49 : decode cX10_chooses 49 = .ok (.iload 4, 2) := by decide +kernel
theorem dX10_chooses_51 : decode cX10_chooses 51 = .ok (.iaload, 1) := by decide +kernel
theorem dX10_chooses_52 : decode cX10_chooses 52 = .ok (.iload_n 1, 1) := by decide +kernel
theorem dX10_chooses_53 : decode cX10_chooses 53 = .ok (.if_icmp .ne 43, 3) := by decide +kernel
theorem dX10_chooses_56 : decode cX10_chooses 56 = .ok (.aload_n 0, 1) := by decide +kernel
theorem dX10_chooses_57 : decode cX10_chooses 57 = .ok (.iload 4, 2) := by decide +kernel
theorem dX10_chooses_59 : decode cX10_chooses 59 = .ok (.aload_n 2, 1) := by decide +kernel
theorem dX10_chooses_60 : decode cX10_chooses 60 = .ok (.aload_n 3, 1) := by decide +kernel
theorem dX10_chooses_61 : decode cX10_chooses 61 = .ok (.invokevirtual 149, 3) := by decide +kernel
theorem dX10_chooses_64 : decode cX10_chooses 64 = .ok (.ifCond .eq 32, 3) := by decide +kernel
theorem dX10_chooses_67 : decode cX10_chooses 67 = .ok (.aload_n 0, 1) := by decide +kernel
theorem dX10_chooses_68 : decode cX10_chooses 68 = .ok (.getfield 106, 3) := by decide +kernel
theorem dX10_chooses_71 : decode cX10_chooses 71 = .ok (.iload_n 1, 1) := by decide +kernel
theorem dX10_chooses_72 : decode cX10_chooses 72 = .ok (.iload 4, 2) := by decide +kernel
theorem dX10_chooses_74 : decode cX10_chooses 74 = .ok (.iastore, 1) := by decide +kernel
theorem dX10_chooses_75 : decode cX10_chooses 75 = .ok (.aload_n 0, 1) := by decide +kernel
theorem dX10_chooses_76 : decode cX10_chooses 76 = .ok (.iload_n 1, 1) := by decide +kernel
theorem dX10_chooses_77 : decode cX10_chooses 77 = .ok (.iconst 1, 1) := by decide +kernel
theorem dX10_chooses_78 : decode cX10_chooses 78 = .ok (.isub, 1) := by decide +kernel
theorem dX10_chooses_79 : decode cX10_chooses 79 = .ok (.aload_n 2, 1) := by decide +kernel
theorem dX10_chooses_80 : decode cX10_chooses 80 = .ok (.aload_n 3, 1) := by decide +kernel
theorem dX10_chooses_81 : decode cX10_chooses 81 = .ok (.invokevirtual 142, 3) := by decide +kernel
theorem dX10_chooses_84 : decode cX10_chooses 84 = .ok (.ifCond .eq 5, 3) := by decide +kernel
theorem dX10_chooses_87 : decode cX10_chooses 87 = .ok (.iconst 1, 1) := by decide +kernel
theorem dX10_chooses_88 : decode cX10_chooses 88 = .ok (.ireturn, 1) := by decide +kernel
theorem dX10_chooses_89 : decode cX10_chooses 89 = .ok (.aload_n 0, 1) := by decide +kernel
theorem dX10_chooses_90 : decode cX10_chooses 90 = .ok (.getfield 106, 3) := by decide +kernel
theorem dX10_chooses_93 : decode cX10_chooses 93 = .ok (.iload_n 1, 1) := by decide +kernel
theorem dX10_chooses_94 : decode cX10_chooses 94 = .ok (.iconst (-1), 1) := by decide +kernel
theorem dX10_chooses_95 : decode cX10_chooses 95 = .ok (.iastore, 1) := by decide +kernel
theorem dX10_chooses_96 : decode cX10_chooses 96 = .ok (.iinc 4 (-1), 3) := by decide +kernel
theorem dX10_chooses_99 : decode cX10_chooses 99 = .ok (.goto (-59), 3) := by decide +kernel
theorem dX10_chooses_102 : decode cX10_chooses 102 = .ok (.iconst 0, 1) := by decide +kernel
theorem dX10_chooses_103 : decode cX10_chooses 103 = .ok (.ireturn, 1) := by decide +kernel
theorem dX10_choosesFor_0 : decode cX10_choosesFor 0 = .ok (.iconst 0, 1) := by decide +kernel
theorem dX10_choosesFor_1 : decode cX10_choosesFor 1 = .ok (.istore_n 2, 1) := by decide +kernel
theorem dX10_choosesFor_2 : decode cX10_choosesFor 2 = .ok (.iload_n 2, 1) := by decide +kernel
theorem dX10_choosesFor_3 : decode cX10_choosesFor 3 = .ok (.bipush 6, 2) := by decide +kernel
theorem dX10_choosesFor_5 : decode cX10_choosesFor 5 = .ok (.if_icmp .ge 16, 3) := by decide +kernel
theorem dX10_choosesFor_8 : decode cX10_choosesFor 8 = .ok (.aload_n 0, 1) := by decide +kernel
theorem dX10_choosesFor_9 : decode cX10_choosesFor 9 = .ok (.getfield 106, 3) := by decide +kernel
theorem dX10_choosesFor_12 : decode cX10_choosesFor 12 = .ok (.iload_n 2, 1) := by decide +kernel
theorem dX10_choosesFor_13 : decode cX10_choosesFor 13 = .ok (.iconst (-1), 1) := by decide +kernel
theorem dX10_choosesFor_14 : decode cX10_choosesFor 14 = .ok (.iastore, 1) := by decide +kernel
theorem dX10_choosesFor_15 : decode cX10_choosesFor 15 = .ok (.iinc 2 1, 3) := by decide +kernel
theorem dX10_choosesFor_18 : decode cX10_choosesFor 18 = .ok (.goto (-16), 3) := by decide +kernel
theorem dX10_choosesFor_21 : decode cX10_choosesFor 21 = .ok (.aload_n 0, 1) := by decide +kernel
theorem dX10_choosesFor_22 : decode cX10_choosesFor 22 = .ok (.iconst 5, 1) := by decide +kernel
theorem dX10_choosesFor_23 : decode cX10_choosesFor 23 = .ok (.aload_n 0, 1) := by decide +kernel
theorem dX10_choosesFor_24 : decode cX10_choosesFor 24 = .ok (.getfield 21, 3) := by decide +kernel
theorem dX10_choosesFor_27 : decode cX10_choosesFor 27 = .ok (.iload_n 1, 1) := by decide +kernel
theorem dX10_choosesFor_28 : decode cX10_choosesFor 28 = .ok (.aaload, 1) := by decide +kernel
theorem dX10_choosesFor_29 : decode cX10_choosesFor 29 = .ok (.aload_n 0, 1) := by decide +kernel
theorem dX10_choosesFor_30 : decode cX10_choosesFor 30 = .ok (.getfield 24, 3) := by decide +kernel
theorem dX10_choosesFor_33 : decode cX10_choosesFor 33 = .ok (.iload_n 1, 1) := by decide +kernel
theorem dX10_choosesFor_34 : decode cX10_choosesFor 34 = .ok (.aaload, 1) := by decide +kernel
theorem dX10_choosesFor_35 : decode cX10_choosesFor 35 = .ok (.invokevirtual 142, 3) := by decide +kernel
theorem dX10_choosesFor_38 : decode cX10_choosesFor 38 = .ok (.ireturn, 1) := by decide +kernel
theorem dX10_versionIn_0 : decode cX10_versionIn 0 = .ok (.aload_n 0, 1) := by decide +kernel
theorem dX10_versionIn_1 : decode cX10_versionIn 1 = .ok (.getfield 106, 3) := by decide +kernel
theorem dX10_versionIn_4 : decode cX10_versionIn 4 = .ok (.iload_n 1, 1) := by decide +kernel
theorem dX10_versionIn_5 : decode cX10_versionIn 5 = .ok (.iaload, 1) := by decide +kernel
theorem dX10_versionIn_6 : decode cX10_versionIn 6 = .ok (.iconst (-1), 1) := by decide +kernel
theorem dX10_versionIn_7 : decode cX10_versionIn 7 = .ok (.if_icmp .ne 7, 3) := by decide +kernel
theorem dX10_versionIn_10 : decode cX10_versionIn 10 = .ok (.iconst 0, 1) := by decide +kernel
theorem dX10_versionIn_11 : decode cX10_versionIn 11 = .ok (.goto 14, 3) := by decide +kernel
theorem dX10_versionIn_14 : decode cX10_versionIn 14 = .ok (.aload_n 0, 1) := by decide +kernel
theorem dX10_versionIn_15 : decode cX10_versionIn 15 = .ok (.getfield 64, 3) := by decide +kernel
theorem dX10_versionIn_18 : decode cX10_versionIn 18 = .ok (.aload_n 0, 1) := by decide +kernel
theorem dX10_versionIn_19 : decode cX10_versionIn 19 = .ok (.getfield 106, 3) := by decide +kernel
theorem dX10_versionIn_22 : decode cX10_versionIn 22 = .ok (.iload_n 1, 1) := by decide +kernel
theorem dX10_versionIn_23 : decode cX10_versionIn 23 = .ok (.iaload, 1) := by decide +kernel
theorem dX10_versionIn_24 : decode cX10_versionIn 24 = .ok (.iaload, 1) := by decide +kernel
theorem dX10_versionIn_25 : decode cX10_versionIn 25 = .ok (.ireturn, 1) := by decide +kernel
theorem dX10_chosen_0 : decode cX10_chosen 0 = .ok (.aload_n 0, 1) := by decide +kernel
theorem dX10_chosen_1 : decode cX10_chosen 1 = .ok (.aload_n 0, 1) := by decide +kernel
theorem dX10_chosen_2 : decode cX10_chosen 2 = .ok (.iload_n 1, 1) := by decide +kernel
theorem dX10_chosen_3 : decode cX10_chosen 3 = .ok (.invokevirtual 119, 3) := by decide +kernel
theorem dX10_chosen_6 : decode cX10_chosen 6 = .ok (.ifCond .eq 11, 3) := by decide +kernel
theorem dX10_chosen_9 : decode cX10_chosen 9 = .ok (.aload_n 0, 1) := by decide +kernel
theorem dX10_chosen_10 : decode cX10_chosen 10 = .ok (.iload_n 2, 1) := by decide +kernel
theorem dX10_chosen_11 : decode cX10_chosen 11 = .ok (.invokevirtual 119, 3) := by decide +kernel
theorem dX10_chosen_14 : decode cX10_chosen 14 = .ok (.ifCond .ne 7, 3) := by decide +kernel
theorem dX10_chosen_17 : decode cX10_chosen 17 = .ok (.iconst 1, 1) := by decide +kernel
theorem dX10_chosen_18 : decode cX10_chosen 18 = .ok (.goto 16, 3) := by decide +kernel
theorem dX10_chosen_21 : decode cX10_chosen 21 = .ok (.aload_n 0, 1) := by decide +kernel
theorem dX10_chosen_22 : decode cX10_chosen 22 = .ok (.iload_n 1, 1) := by decide +kernel
theorem dX10_chosen_23 : decode cX10_chosen 23 = .ok (.invokevirtual 152, 3) := by decide +kernel
theorem dX10_chosen_26 : decode cX10_chosen 26 = .ok (.ifCond .ne 7, 3) := by decide +kernel
theorem dX10_chosen_29 : decode cX10_chosen 29 = .ok (.iconst 2, 1) := by decide +kernel
theorem dX10_chosen_30 : decode cX10_chosen 30 = .ok (.goto 4, 3) := by decide +kernel
theorem dX10_chosen_33 : decode cX10_chosen 33 = .ok (.iconst 0, 1) := by decide +kernel
theorem dX10_chosen_34 : decode cX10_chosen 34 = .ok (.putfield 109, 3) := by decide +kernel
theorem dX10_chosen_37 : decode cX10_chosen 37 = .ok (.aload_n 0, 1) := by decide +kernel
theorem dX10_chosen_38 : decode cX10_chosen 38 = .ok (.getfield 109, 3) := by decide +kernel
theorem dX10_chosen_41 : decode cX10_chosen 41 = .ok (.ifCond .le 7, 3) := by decide +kernel
theorem dX10_chosen_44 : decode cX10_chosen 44 = .ok (.iconst 0, 1) := by decide +kernel
theorem dX10_chosen_45 : decode cX10_chosen 45 = .ok (.goto 8, 3) := by decide +kernel
theorem dX10_chosen_48 : decode cX10_chosen 48 = .ok (.aload_n 0, 1) := by decide +kernel
theorem dX10_chosen_49 : decode cX10_chosen 49 = .ok (.iload_n 2, 1) := by decide +kernel
theorem dX10_chosen_50 : decode cX10_chosen 50 = .ok (.invokevirtual 155, 3) := by decide +kernel
theorem dX10_chosen_53 : decode cX10_chosen 53 = .ok (.ireturn, 1) := by decide +kernel
theorem dX10_chosenByAll_0 : decode cX10_chosenByAll 0 = .ok (.aload_n 0, 1) := by decide +kernel
theorem dX10_chosenByAll_1 : decode cX10_chosenByAll 1 = .ok (.iload_n 1, 1) := by decide +kernel
theorem dX10_chosenByAll_2 : decode cX10_chosenByAll 2 = .ok (.iload_n 2, 1) := by decide +kernel
theorem dX10_chosenByAll_3 : decode cX10_chosenByAll 3 = .ok (.invokevirtual 158, 3) := by decide +kernel
theorem dX10_chosenByAll_6 : decode cX10_chosenByAll 6 = .ok (.ireturn, 1) := by decide +kernel
theorem dX10_isOther_0 : decode cX10_isOther 0 = .ok (.aload_n 0, 1) := by decide +kernel
theorem dX10_isOther_1 : decode cX10_isOther 1 = .ok (.getfield 27, 3) := by decide +kernel
theorem dX10_isOther_4 : decode cX10_isOther 4 = .ok (.iload_n 1, 1) := by decide +kernel
theorem dX10_isOther_5 : decode cX10_isOther 5 = .ok (.baload, 1) := by decide +kernel
theorem dX10_isOther_6 : decode cX10_isOther 6 = .ok (.ifCond .eq 47, 3) := by decide +kernel
theorem dX10_isOther_9 : decode cX10_isOther 9 = .ok (.aload_n 0, 1) := by decide +kernel
theorem dX10_isOther_10 : decode cX10_isOther 10 = .ok (.getfield 13, 3) := by decide +kernel
theorem dX10_isOther_13 : decode cX10_isOther 13 = .ok (.iload_n 1, 1) := by decide +kernel
theorem dX10_isOther_14 : decode cX10_isOther 14 = .ok (.iaload, 1) := by decide +kernel
theorem dX10_isOther_15 : decode cX10_isOther 15 = .ok (.aload_n 0, 1) := by decide +kernel
theorem dX10_isOther_16 : decode cX10_isOther 16 = .ok (.getfield 31, 3) := by decide +kernel
theorem dX10_isOther_19 : decode cX10_isOther 19 = .ok (.iload_n 1, 1) := by decide +kernel
theorem dX10_isOther_20 : decode cX10_isOther 20 = .ok (.iaload, 1) := by decide +kernel
theorem dX10_isOther_21 : decode cX10_isOther 21 = .ok (.if_icmp .ne 32, 3) := by decide +kernel
theorem dX10_isOther_24 : decode cX10_isOther 24 = .ok (.aload_n 0, 1) := by decide +kernel
theorem dX10_isOther_25 : decode cX10_isOther 25 = .ok (.getfield 16, 3) := by decide +kernel
theorem dX10_isOther_28 : decode cX10_isOther 28 = .ok (.iload_n 1, 1) := by decide +kernel
theorem dX10_isOther_29 : decode cX10_isOther 29 = .ok (.iaload, 1) := by decide +kernel
theorem dX10_isOther_30 : decode cX10_isOther 30 = .ok (.aload_n 0, 1) := by decide +kernel
theorem dX10_isOther_31 : decode cX10_isOther 31 = .ok (.getfield 34, 3) := by decide +kernel
theorem dX10_isOther_34 : decode cX10_isOther 34 = .ok (.iload_n 1, 1) := by decide +kernel
theorem dX10_isOther_35 : decode cX10_isOther 35 = .ok (.iaload, 1) := by decide +kernel
theorem dX10_isOther_36 : decode cX10_isOther 36 = .ok (.if_icmp .ne 17, 3) := by decide +kernel
theorem dX10_isOther_39 : decode cX10_isOther 39 = .ok (.aload_n 0, 1) := by decide +kernel
theorem dX10_isOther_40 : decode cX10_isOther 40 = .ok (.iload_n 1, 1) := by decide +kernel
theorem dX10_isOther_41 : decode cX10_isOther 41 = .ok (.invokevirtual 130, 3) := by decide +kernel
theorem dX10_isOther_44 : decode cX10_isOther 44 = .ok (.aload_n 0, 1) := by decide +kernel
theorem dX10_isOther_45 : decode cX10_isOther 45 = .ok (.getfield 37, 3) := by decide +kernel
theorem dX10_isOther_48 : decode cX10_isOther 48 = .ok (.iload_n 1, 1) := by decide +kernel
theorem dX10_isOther_49 : decode cX10_isOther 49 = .ok (.iaload, 1) := by decide +kernel
theorem dX10_isOther_50 : decode cX10_isOther 50 = .ok (.if_icmp .eq 7, 3) := by decide +kernel
theorem dX10_isOther_53 : decode cX10_isOther 53 = .ok (.iconst 1, 1) := by decide +kernel
theorem dX10_isOther_54 : decode cX10_isOther 54 = .ok (.goto 4, 3) := by decide +kernel
theorem dX10_isOther_57 : decode cX10_isOther 57 = .ok (.iconst 0, 1) := by decide +kernel
theorem dX10_isOther_58 : decode cX10_isOther 58 = .ok (.ireturn, 1) := by decide +kernel
theorem dX10_isNeeded_0 : decode cX10_isNeeded 0 = .ok (.aload_n 0, 1) := by decide +kernel
theorem dX10_isNeeded_1 : decode cX10_isNeeded 1 = .ok (.iload_n 1, 1) := by decide +kernel
theorem dX10_isNeeded_2 : decode cX10_isNeeded 2 = .ok (.invokevirtual 162, 3) := by decide +kernel
theorem dX10_isNeeded_5 : decode cX10_isNeeded 5 = .ok (.istore_n 2, 1) := by decide +kernel
theorem dX10_isNeeded_6 : decode cX10_isNeeded 6 = .ok (.iconst 0, 1) := by decide +kernel
theorem dX10_isNeeded_7 : decode cX10_isNeeded 7 = .ok (.istore_n 3, 1) := by decide +kernel
theorem dX10_isNeeded_8 : decode cX10_isNeeded 8 = .ok (.iload_n 3, 1) := by decide +kernel
theorem dX10_isNeeded_9 : decode cX10_isNeeded 9 = .ok (.bipush 6, 2) := by decide +kernel
theorem dX10_isNeeded_11 : decode cX10_isNeeded 11 = .ok (.if_icmp .ge 52, 3) := by decide +kernel
theorem dX10_isNeeded_14 : decode cX10_isNeeded 14 = .ok (.iload_n 2, 1) := by decide +kernel
theorem dX10_isNeeded_15 : decode cX10_isNeeded 15 = .ok (.ifCond .ne 48, 3) := by decide +kernel
theorem dX10_isNeeded_18 : decode cX10_isNeeded 18 = .ok (.aload_n 0, 1) := by decide +kernel
theorem dX10_isNeeded_19 : decode cX10_isNeeded 19 = .ok (.getfield 21, 3) := by decide +kernel
theorem dX10_isNeeded_22 : decode cX10_isNeeded 22 = .ok (.iload_n 1, 1) := by decide +kernel
theorem dX10_isNeeded_23 : decode cX10_isNeeded 23 = .ok (.aaload, 1) := by decide +kernel
theorem dX10_isNeeded_24 : decode cX10_isNeeded 24 = .ok (.iload_n 3, 1) := by decide +kernel
theorem dX10_isNeeded_25 : decode cX10_isNeeded 25 = .ok (.iaload, 1) := by decide +kernel
theorem dX10_isNeeded_26 : decode cX10_isNeeded 26 = .ok (.ifCond .le 29, 3) := by decide +kernel
theorem dX10_isNeeded_29 : decode cX10_isNeeded 29 = .ok (.aload_n 0, 1) := by decide +kernel
theorem dX10_isNeeded_30 : decode cX10_isNeeded 30 = .ok (.getfield 67, 3) := by decide +kernel
theorem dX10_isNeeded_33 : decode cX10_isNeeded 33 = .ok (.aload_n 0, 1) := by decide +kernel
theorem dX10_isNeeded_34 : decode cX10_isNeeded 34 = .ok (.getfield 106, 3) := by decide +kernel
theorem dX10_isNeeded_37 : decode cX10_isNeeded 37 = .ok (.iload_n 3, 1) := by decide +kernel
theorem dX10_isNeeded_38 : decode cX10_isNeeded 38 = .ok (.iaload, 1) := by decide +kernel
theorem dX10_isNeeded_39 : decode cX10_isNeeded 39 = .ok (.iaload, 1) := by decide +kernel
theorem dX10_isNeeded_40 : decode cX10_isNeeded 40 = .ok (.aload_n 0, 1) := by decide +kernel
theorem dX10_isNeeded_41 : decode cX10_isNeeded 41 = .ok (.getfield 40, 3) := by decide +kernel
theorem dX10_isNeeded_44 : decode cX10_isNeeded 44 = .ok (.iload_n 1, 1) := by decide +kernel
theorem dX10_isNeeded_45 : decode cX10_isNeeded 45 = .ok (.aaload, 1) := by decide +kernel
theorem dX10_isNeeded_46 : decode cX10_isNeeded 46 = .ok (.iload_n 3, 1) := by decide +kernel
theorem dX10_isNeeded_47 : decode cX10_isNeeded 47 = .ok (.iaload, 1) := by decide +kernel
theorem dX10_isNeeded_48 : decode cX10_isNeeded 48 = .ok (.if_icmp .eq 7, 3) := by decide +kernel
theorem dX10_isNeeded_51 : decode cX10_isNeeded 51 = .ok (.iconst 1, 1) := by decide +kernel
theorem dX10_isNeeded_52 : decode cX10_isNeeded 52 = .ok (.goto 4, 3) := by decide +kernel
theorem dX10_isNeeded_55 : decode cX10_isNeeded 55 = .ok (.iconst 0, 1) := by decide +kernel
theorem dX10_isNeeded_56 : decode cX10_isNeeded 56 = .ok (.istore_n 2, 1) := by decide +kernel
theorem dX10_isNeeded_57 : decode cX10_isNeeded 57 = .ok (.iinc 3 1, 3) := by decide +kernel
theorem dX10_isNeeded_60 : decode cX10_isNeeded 60 = .ok (.goto (-52), 3) := by decide +kernel
theorem dX10_isNeeded_63 : decode cX10_isNeeded 63 = .ok (.iload_n 2, 1) := by decide +kernel
theorem dX10_isNeeded_64 : decode cX10_isNeeded 64 = .ok (.ireturn, 1) := by decide +kernel
theorem dX10_compile_0 : decode cX10_compile 0 = .ok (.aload_n 0, 1) := by decide +kernel
theorem dX10_compile_1 : decode cX10_compile 1 = .ok (.iload_n 1, 1) := by decide +kernel
theorem dX10_compile_2 : decode cX10_compile 2 = .ok (.invokevirtual 123, 3) := by decide +kernel
theorem dX10_compile_5 : decode cX10_compile 5 = .ok (.ifCond .eq 5, 3) := by decide +kernel
theorem dX10_compile_8 : decode cX10_compile 8 = .ok (.iconst 0, 1) := by decide +kernel
theorem dX10_compile_9 : decode cX10_compile 9 = .ok (.ireturn, 1) := by decide +kernel
theorem dX10_compile_10 : decode cX10_compile 10 = .ok (.aload_n 0, 1) := by decide +kernel
theorem dX10_compile_11 : decode cX10_compile 11 = .ok (.iload_n 1, 1) := by decide +kernel
theorem dX10_compile_12 : decode cX10_compile 12 = .ok (.invokevirtual 152, 3) := by decide +kernel
theorem dX10_compile_15 : decode cX10_compile 15 = .ok (.ifCond .ne 10, 3) := by decide +kernel
theorem dX10_compile_18 : decode cX10_compile 18 = .ok (.aload_n 0, 1) := by decide +kernel
theorem dX10_compile_19 : decode cX10_compile 19 = .ok (.iconst 2, 1) := by decide +kernel
theorem dX10_compile_20 : decode cX10_compile 20 = .ok (.putfield 109, 3) := by decide +kernel
theorem dX10_compile_23 : decode cX10_compile 23 = .ok (.iconst 0, 1) := by decide +kernel
theorem dX10_compile_24 : decode cX10_compile 24 = .ok (.ireturn, 1) := by decide +kernel
theorem dX10_compile_25 : decode cX10_compile 25 = .ok (.aload_n 0, 1) := by decide +kernel
theorem dX10_compile_26 : decode cX10_compile 26 = .ok (.iload_n 1, 1) := by decide +kernel
theorem dX10_compile_27 : decode cX10_compile 27 = .ok (.invokevirtual 165, 3) := by decide +kernel
theorem dX10_compile_30 : decode cX10_compile 30 = .ok (.ifCond .ne 5, 3) := by decide +kernel
theorem dX10_compile_33 : decode cX10_compile 33 = .ok (.iconst 0, 1) := by decide +kernel
theorem dX10_compile_34 : decode cX10_compile 34 = .ok (.ireturn, 1) := by decide +kernel
theorem dX10_compile_35 : decode cX10_compile 35 = .ok (.aload_n 0, 1) := by decide +kernel
theorem dX10_compile_36 : decode cX10_compile 36 = .ok (.getfield 27, 3) := by decide +kernel
theorem dX10_compile_39 : decode cX10_compile 39 = .ok (.iload_n 1, 1) := by decide +kernel
theorem dX10_compile_40 : decode cX10_compile 40 = .ok (.iconst 1, 1) := by decide +kernel
theorem dX10_compile_41 : decode cX10_compile 41 = .ok (.bastore, 1) := by decide +kernel
theorem dX10_compile_42 : decode cX10_compile 42 = .ok (.aload_n 0, 1) := by decide +kernel
theorem dX10_compile_43 : decode cX10_compile 43 = .ok (.getfield 31, 3) := by decide +kernel
theorem dX10_compile_46 : decode cX10_compile 46 = .ok (.iload_n 1, 1) := by decide +kernel
theorem dX10_compile_47 : decode cX10_compile 47 = .ok (.aload_n 0, 1) := by decide +kernel
theorem dX10_compile_48 : decode cX10_compile 48 = .ok (.getfield 13, 3) := by decide +kernel
theorem dX10_compile_51 : decode cX10_compile 51 = .ok (.iload_n 1, 1) := by decide +kernel
theorem dX10_compile_52 : decode cX10_compile 52 = .ok (.iaload, 1) := by decide +kernel
theorem dX10_compile_53 : decode cX10_compile 53 = .ok (.iastore, 1) := by decide +kernel
theorem dX10_compile_54 : decode cX10_compile 54 = .ok (.aload_n 0, 1) := by decide +kernel
theorem dX10_compile_55 : decode cX10_compile 55 = .ok (.getfield 34, 3) := by decide +kernel
theorem dX10_compile_58 : decode cX10_compile 58 = .ok (.iload_n 1, 1) := by decide +kernel
theorem dX10_compile_59 : decode cX10_compile 59 = .ok (.aload_n 0, 1) := by decide +kernel
theorem dX10_compile_60 : decode cX10_compile 60 = .ok (.getfield 16, 3) := by decide +kernel
theorem dX10_compile_63 : decode cX10_compile 63 = .ok (.iload_n 1, 1) := by decide +kernel
theorem dX10_compile_64 : decode cX10_compile 64 = .ok (.iaload, 1) := by decide +kernel
theorem dX10_compile_65 : decode cX10_compile 65 = .ok (.iastore, 1) := by decide +kernel
theorem dX10_compile_66 : decode cX10_compile 66 = .ok (.aload_n 0, 1) := by decide +kernel
theorem dX10_compile_67 : decode cX10_compile 67 = .ok (.getfield 37, 3) := by decide +kernel
theorem dX10_compile_70 : decode cX10_compile 70 = .ok (.iload_n 1, 1) := by decide +kernel
theorem dX10_compile_71 : decode cX10_compile 71 = .ok (.aload_n 0, 1) := by decide +kernel
theorem dX10_compile_72 : decode cX10_compile 72 = .ok (.iload_n 1, 1) := by decide +kernel
theorem dX10_compile_73 : decode cX10_compile 73 = .ok (.invokevirtual 130, 3) := by decide +kernel
theorem dX10_compile_76 : decode cX10_compile 76 = .ok (.iastore, 1) := by decide +kernel
theorem dX10_compile_77 : decode cX10_compile 77 = .ok (.iconst 0, 1) := by decide +kernel
theorem dX10_compile_78 : decode cX10_compile 78 = .ok (.istore_n 2, 1) := by decide +kernel
theorem dX10_compile_79 : decode cX10_compile 79 = .ok (.iload_n 2, 1) := by decide +kernel
theorem dX10_compile_80 : decode cX10_compile 80 = .ok (.bipush 6, 2) := by decide +kernel
theorem dX10_compile_82 : decode cX10_compile 82 = .ok (.if_icmp .ge 43, 3) := by decide +kernel
theorem dX10_compile_85 : decode cX10_compile 85 = .ok (.aload_n 0, 1) := by decide +kernel
theorem dX10_compile_86 : decode cX10_compile 86 = .ok (.getfield 40, 3) := by decide +kernel
theorem dX10_compile_89 : decode cX10_compile 89 = .ok (.iload_n 1, 1) := by decide +kernel
theorem dX10_compile_90 : decode cX10_compile 90 = .ok (.aaload, 1) := by decide +kernel
theorem dX10_compile_91 : decode cX10_compile 91 = .ok (.iload_n 2, 1) := by decide +kernel
theorem dX10_compile_92 : decode cX10_compile 92 = .ok (.aload_n 0, 1) := by decide +kernel
theorem dX10_compile_93 : decode cX10_compile 93 = .ok (.getfield 21, 3) := by decide +kernel
theorem dX10_compile_96 : decode cX10_compile 96 = .ok (.iload_n 1, 1) := by decide +kernel
theorem dX10_compile_97 : decode cX10_compile 97 = .ok (.aaload, 1) := by decide +kernel
theorem dX10_compile_98 : decode cX10_compile 98 = .ok (.iload_n 2, 1) := by decide +kernel
theorem dX10_compile_99 : decode cX10_compile 99 = .ok (.iaload, 1) := by decide +kernel
theorem dX10_compile_100 : decode cX10_compile 100 = .ok (.ifCond .le 17, 3) := by decide +kernel
theorem dX10_compile_103 : decode cX10_compile 103 = .ok (.aload_n 0, 1) := by decide +kernel
theorem dX10_compile_104 : decode cX10_compile 104 = .ok (.getfield 67, 3) := by decide +kernel
theorem dX10_compile_107 : decode cX10_compile 107 = .ok (.aload_n 0, 1) := by decide +kernel
theorem dX10_compile_108 : decode cX10_compile 108 = .ok (.getfield 106, 3) := by decide +kernel
theorem dX10_compile_111 : decode cX10_compile 111 = .ok (.iload_n 2, 1) := by decide +kernel
theorem dX10_compile_112 : decode cX10_compile 112 = .ok (.iaload, 1) := by decide +kernel
theorem dX10_compile_113 : decode cX10_compile 113 = .ok (.iaload, 1) := by decide +kernel
theorem dX10_compile_114 : decode cX10_compile 114 = .ok (.goto 4, 3) := by decide +kernel
theorem dX10_compile_117 : decode cX10_compile 117 = .ok (.iconst 0, 1) := by decide +kernel
theorem dX10_compile_118 : decode cX10_compile 118 = .ok (.iastore, 1) := by decide +kernel
theorem dX10_compile_119 : decode cX10_compile 119 = .ok (.iinc 2 1, 3) := by decide +kernel
theorem dX10_compile_122 : decode cX10_compile 122 = .ok (.goto (-43), 3) := by decide +kernel
theorem dX10_compile_125 : decode cX10_compile 125 = .ok (.aload_n 0, 1) := by decide +kernel
theorem dX10_compile_126 : decode cX10_compile 126 = .ok (.dup, 1) := by decide +kernel
theorem dX10_compile_127 : decode cX10_compile 127 = .ok (.getfield 168, 3) := by decide +kernel
theorem dX10_compile_130 : decode cX10_compile 130 = .ok (.iconst 1, 1) := by decide +kernel
theorem dX10_compile_131 : decode cX10_compile 131 = .ok (.iadd, 1) := by decide +kernel
theorem dX10_compile_132 : decode cX10_compile 132 = .ok (.putfield 168, 3) := by decide +kernel
theorem dX10_compile_135 : decode cX10_compile 135 = .ok (.iconst 1, 1) := by decide +kernel
theorem dX10_compile_136 : decode cX10_compile 136 = .ok (.ireturn, 1) := by decide +kernel
theorem dX10_compiled_0 : decode cX10_compiled 0 = .ok (.aload_n 0, 1) := by decide +kernel
theorem dX10_compiled_1 : decode cX10_compiled 1 = .ok (.iconst 0, 1) := by decide +kernel
theorem dX10_compiled_2 : decode cX10_compiled 2 = .ok (.putfield 109, 3) := by decide +kernel
theorem dX10_compiled_5 : decode cX10_compiled 5 = .ok (.aload_n 0, 1) := by decide +kernel
theorem dX10_compiled_6 : decode cX10_compiled 6 = .ok (.getfield 168, 3) := by decide +kernel
theorem dX10_compiled_9 : decode cX10_compiled 9 = .ok (.ireturn, 1) := by decide +kernel
theorem dX10_addTest_0 : decode cX10_addTest 0 = .ok (.aload_n 0, 1) := by decide +kernel
theorem dX10_addTest_1 : decode cX10_addTest 1 = .ok (.iload_n 1, 1) := by decide +kernel
theorem dX10_addTest_2 : decode cX10_addTest 2 = .ok (.invokevirtual 123, 3) := by decide +kernel
theorem dX10_addTest_5 : decode cX10_addTest 5 = .ok (.ifCond .eq 5, 3) := by decide +kernel
theorem dX10_addTest_8 : decode cX10_addTest 8 = .ok (.iconst 0, 1) := by decide +kernel
theorem dX10_addTest_9 : decode cX10_addTest 9 = .ok (.ireturn, 1) := by decide +kernel
theorem dX10_addTest_10 : decode cX10_addTest 10 = .ok (.aload_n 0, 1) := by decide +kernel
theorem dX10_addTest_11 : decode cX10_addTest 11 = .ok (.iload_n 2, 1) := by decide +kernel
theorem dX10_addTest_12 : decode cX10_addTest 12 = .ok (.iconst 1, 1) := by decide +kernel
theorem dX10_addTest_13 : decode cX10_addTest 13 = .ok (.bipush 60, 2) := by decide +kernel
theorem dX10_addTest_15 : decode cX10_addTest 15 = .ok (.invokestatic 115, 3) := by decide +kernel
theorem dX10_addTest_18 : decode cX10_addTest 18 = .ok (.ifCond .ne 7, 3) := by decide +kernel
theorem dX10_addTest_21 : decode cX10_addTest 21 = .ok (.iconst 2, 1) := by decide +kernel
theorem dX10_addTest_22 : decode cX10_addTest 22 = .ok (.goto 17, 3) := by decide +kernel
theorem dX10_addTest_25 : decode cX10_addTest 25 = .ok (.aload_n 0, 1) := by decide +kernel
theorem dX10_addTest_26 : decode cX10_addTest 26 = .ok (.getfield 171, 3) := by decide +kernel
theorem dX10_addTest_29 : decode cX10_addTest 29 = .ok (.bipush 8, 2) := by decide +kernel
theorem dX10_addTest_31 : decode cX10_addTest 31 = .ok (.if_icmp .ne 7, 3) := by decide +kernel
theorem dX10_addTest_34 : decode cX10_addTest 34 = .ok (.iconst 3, 1) := by decide +kernel
theorem dX10_addTest_35 : decode cX10_addTest 35 = .ok (.goto 4, 3) := by decide +kernel
theorem dX10_addTest_38 : decode cX10_addTest 38 = .ok (.iconst 0, 1) := by decide +kernel
theorem dX10_addTest_39 : decode cX10_addTest 39 = .ok (.putfield 109, 3) := by decide +kernel
theorem dX10_addTest_42 : decode cX10_addTest 42 = .ok (.aload_n 0, 1) := by decide +kernel
theorem dX10_addTest_43 : decode cX10_addTest 43 = .ok (.getfield 109, 3) := by decide +kernel
theorem dX10_addTest_46 : decode cX10_addTest 46 = .ok (.ifCond .le 5, 3) := by decide +kernel
theorem dX10_addTest_49 : decode cX10_addTest 49 = .ok (.iconst 0, 1) := by decide +kernel
theorem dX10_addTest_50 : decode cX10_addTest 50 = .ok (.ireturn, 1) := by decide +kernel
theorem dX10_addTest_51 : decode cX10_addTest 51 = .ok (.aload_n 0, 1) := by decide +kernel
theorem dX10_addTest_52 : decode cX10_addTest 52 = .ok (.getfield 82, 3) := by decide +kernel
theorem dX10_addTest_55 : decode cX10_addTest 55 = .ok (.aload_n 0, 1) := by decide +kernel
theorem dX10_addTest_56 : decode cX10_addTest 56 = .ok (.getfield 171, 3) := by decide +kernel
theorem dX10_addTest_59 : decode cX10_addTest 59 = .ok (.iload_n 1, 1) := by decide +kernel
theorem dX10_addTest_60 : decode cX10_addTest 60 = .ok (.iastore, 1) := by decide +kernel
theorem dX10_addTest_61 : decode cX10_addTest 61 = .ok (.aload_n 0, 1) := by decide +kernel
theorem dX10_addTest_62 : decode cX10_addTest 62 = .ok (.getfield 85, 3) := by decide +kernel
theorem dX10_addTest_65 : decode cX10_addTest 65 = .ok (.aload_n 0, 1) := by decide +kernel
theorem dX10_addTest_66 : decode cX10_addTest 66 = .ok (.getfield 171, 3) := by decide +kernel
theorem dX10_addTest_69 : decode cX10_addTest 69 = .ok (.iload_n 2, 1) := by decide +kernel
theorem dX10_addTest_70 : decode cX10_addTest 70 = .ok (.iastore, 1) := by decide +kernel
theorem dX10_addTest_71 : decode cX10_addTest 71 = .ok (.aload_n 0, 1) := by decide +kernel
theorem dX10_addTest_72 : decode cX10_addTest 72 = .ok (.dup, 1) := by decide +kernel
theorem dX10_addTest_73 : decode cX10_addTest 73 = .ok (.getfield 171, 3) := by decide +kernel
theorem dX10_addTest_76 : decode cX10_addTest 76 = .ok (.iconst 1, 1) := by decide +kernel
theorem dX10_addTest_77 : decode cX10_addTest 77 = .ok (.iadd, 1) := by decide +kernel
theorem dX10_addTest_78 : decode cX10_addTest 78 = .ok (.putfield 171, 3) := by decide +kernel
theorem dX10_addTest_81 : decode cX10_addTest 81 = .ok (.aload_n 0, 1) := by decide +kernel
theorem dX10_addTest_82 : decode cX10_addTest 82 = .ok (.getfield 171, 3) := by decide +kernel
theorem dX10_addTest_85 : decode cX10_addTest 85 = .ok (.iconst 1, 1) := by decide +kernel
theorem dX10_addTest_86 : decode cX10_addTest 86 = .ok (.isub, 1) := by decide +kernel
theorem dX10_addTest_87 : decode cX10_addTest 87 = .ok (.ireturn, 1) := by decide +kernel
theorem dX10_noTest_0 : decode cX10_noTest 0 = .ok (.aload_n 0, 1) := by decide +kernel
theorem dX10_noTest_1 : decode cX10_noTest 1 = .ok (.iload_n 1, 1) := by decide +kernel
theorem dX10_noTest_2 : decode cX10_noTest 2 = .ok (.iconst 0, 1) := by decide +kernel
theorem dX10_noTest_3 : decode cX10_noTest 3 = .ok (.aload_n 0, 1) := by decide +kernel
theorem dX10_noTest_4 : decode cX10_noTest 4 = .ok (.getfield 171, 3) := by decide +kernel
theorem dX10_noTest_7 : decode cX10_noTest 7 = .ok (.iconst 1, 1) := by decide +kernel
theorem dX10_noTest_8 : decode cX10_noTest 8 = .ok (.isub, 1) := by decide +kernel
theorem dX10_noTest_9 : decode cX10_noTest 9 = .ok (.invokestatic 115, 3) := by decide +kernel
theorem dX10_noTest_12 : decode cX10_noTest 12 = .ok (.ifCond .eq 7, 3) := by decide +kernel
theorem dX10_noTest_15 : decode cX10_noTest 15 = .ok (.iconst 0, 1) := by decide +kernel
theorem dX10_noTest_16 : decode cX10_noTest 16 = .ok (.goto 4, 3) := by decide +kernel
theorem dX10_noTest_19 : decode cX10_noTest 19 = .ok (.iconst 1, 1) := by decide +kernel
theorem dX10_noTest_20 : decode cX10_noTest 20 = .ok (.putfield 109, 3) := by decide +kernel
theorem dX10_noTest_23 : decode cX10_noTest 23 = .ok (.aload_n 0, 1) := by decide +kernel
theorem dX10_noTest_24 : decode cX10_noTest 24 = .ok (.getfield 109, 3) := by decide +kernel
theorem dX10_noTest_27 : decode cX10_noTest 27 = .ok (.ifCond .le 7, 3) := by decide +kernel
theorem dX10_noTest_30 : decode cX10_noTest 30 = .ok (.iconst 1, 1) := by decide +kernel
theorem dX10_noTest_31 : decode cX10_noTest 31 = .ok (.goto 4, 3) := by decide +kernel
theorem dX10_noTest_34 : decode cX10_noTest 34 = .ok (.iconst 0, 1) := by decide +kernel
theorem dX10_noTest_35 : decode cX10_noTest 35 = .ok (.ireturn, 1) := by decide +kernel
theorem dX10_setFailing_0 : decode cX10_setFailing 0 = .ok (.aload_n 0, 1) := by decide +kernel
theorem dX10_setFailing_1 : decode cX10_setFailing 1 = .ok (.iload_n 1, 1) := by decide +kernel
theorem dX10_setFailing_2 : decode cX10_setFailing 2 = .ok (.invokevirtual 174, 3) := by decide +kernel
theorem dX10_setFailing_5 : decode cX10_setFailing 5 = .ok (.ifCond .eq 5, 3) := by decide +kernel
theorem dX10_setFailing_8 : decode cX10_setFailing 8 = .ok (.iconst 0, 1) := by decide +kernel
theorem dX10_setFailing_9 : decode cX10_setFailing 9 = .ok (.ireturn, 1) := by decide +kernel
theorem dX10_setFailing_10 : decode cX10_setFailing 10 = .ok (.aload_n 0, 1) := by decide +kernel
theorem dX10_setFailing_11 : decode cX10_setFailing 11 = .ok (.getfield 88, 3) := by decide +kernel
theorem dX10_setFailing_14 : decode cX10_setFailing 14 = .ok (.iload_n 1, 1) := by decide +kernel
theorem dX10_setFailing_15 : decode cX10_setFailing 15 = .ok (.baload, 1) := by decide +kernel
theorem dX10_setFailing_16 : decode cX10_setFailing 16 = .ok (.istore_n 3, 1) := by decide +kernel
theorem dX10_setFailing_17 : decode cX10_setFailing 17 = .ok (.aload_n 0, 1) := by decide +kernel
theorem dX10_setFailing_18 : decode cX10_setFailing 18 = .ok (.getfield 88, 3) := by decide +kernel
theorem dX10_setFailing_21 : decode cX10_setFailing 21 = .ok (.iload_n 1, 1) := by decide +kernel
theorem dX10_setFailing_22 : decode cX10_setFailing 22 = .ok (.iload_n 2, 1) := by decide +kernel
theorem dX10_setFailing_23 : decode cX10_setFailing 23 = .ok (.bastore, 1) := by decide +kernel
theorem dX10_setFailing_24 : decode cX10_setFailing 24 = .ok (.iload_n 3, 1) := by decide +kernel
theorem dX10_setFailing_25 : decode cX10_setFailing 25 = .ok (.ireturn, 1) := by decide +kernel
theorem dX10_setMachines_0 : decode cX10_setMachines 0 = .ok (.aload_n 0, 1) := by decide +kernel
theorem dX10_setMachines_1 : decode cX10_setMachines 1 = .ok (.iload_n 1, 1) := by decide +kernel
theorem dX10_setMachines_2 : decode cX10_setMachines 2 = .ok (.iconst 1, 1) := by decide +kernel
theorem dX10_setMachines_3 : decode cX10_setMachines 3 = .ok (.iconst 4, 1) := by decide +kernel
theorem dX10_setMachines_4 : decode cX10_setMachines 4 = .ok (.invokestatic 115, 3) := by decide +kernel
theorem dX10_setMachines_7 : decode cX10_setMachines 7 = .ok (.ifCond .eq 7, 3) := by decide +kernel
theorem dX10_setMachines_10 : decode cX10_setMachines 10 = .ok (.iconst 0, 1) := by decide +kernel
theorem dX10_setMachines_11 : decode cX10_setMachines 11 = .ok (.goto 4, 3) := by decide +kernel
theorem dX10_setMachines_14 : decode cX10_setMachines 14 = .ok (.iconst 1, 1) := by decide +kernel
theorem dX10_setMachines_15 : decode cX10_setMachines 15 = .ok (.putfield 109, 3) := by decide +kernel
theorem dX10_setMachines_18 : decode cX10_setMachines 18 = .ok (.aload_n 0, 1) := by decide +kernel
theorem dX10_setMachines_19 : decode cX10_setMachines 19 = .ok (.getfield 109, 3) := by decide +kernel
theorem dX10_setMachines_22 : decode cX10_setMachines 22 = .ok (.ifCond .le 5, 3) := by decide +kernel
theorem dX10_setMachines_25 : decode cX10_setMachines 25 = .ok (.iconst 0, 1) := by decide +kernel
theorem dX10_setMachines_26 : decode cX10_setMachines 26 = .ok (.ireturn, 1) := by decide +kernel
theorem dX10_setMachines_27 : decode cX10_setMachines 27 = .ok (.aload_n 0, 1) := by decide +kernel
theorem dX10_setMachines_28 : decode cX10_setMachines 28 = .ok (.getfield 99, 3) := by decide +kernel
theorem dX10_setMachines_31 : decode cX10_setMachines 31 = .ok (.istore_n 2, 1) := by decide +kernel
theorem dX10_setMachines_32 : decode cX10_setMachines 32 = .ok (.aload_n 0, 1) := by decide +kernel
theorem dX10_setMachines_33 : decode cX10_setMachines 33 = .ok (.iload_n 1, 1) := by decide +kernel
theorem dX10_setMachines_34 : decode cX10_setMachines 34 = .ok (.putfield 99, 3) := by decide +kernel
theorem dX10_setMachines_37 : decode cX10_setMachines 37 = .ok (.iload_n 2, 1) := by decide +kernel
theorem dX10_setMachines_38 : decode cX10_setMachines 38 = .ok (.ireturn, 1) := by decide +kernel
theorem dX10_fund_0 : decode cX10_fund 0 = .ok (.aload_n 0, 1) := by decide +kernel
theorem dX10_fund_1 : decode cX10_fund 1 = .ok (.iload_n 1, 1) := by decide +kernel
theorem dX10_fund_2 : decode cX10_fund 2 = .ok (.iconst 0, 1) := by decide +kernel
theorem dX10_fund_3 : decode cX10_fund 3 = .ok (.iconst 2, 1) := by decide +kernel
theorem dX10_fund_4 : decode cX10_fund 4 = .ok (.invokestatic 115, 3) := by decide +kernel
theorem dX10_fund_7 : decode cX10_fund 7 = .ok (.ifCond .eq 18, 3) := by decide +kernel
theorem dX10_fund_10 : decode cX10_fund 10 = .ok (.iload_n 2, 1) := by decide +kernel
theorem dX10_fund_11 : decode cX10_fund 11 = .ok (.iconst 1, 1) := by decide +kernel
theorem dX10_fund_12 : decode cX10_fund 12 = .ok (.sipush 9999, 3) := by decide +kernel
theorem dX10_fund_15 : decode cX10_fund 15 = .ok (.invokestatic 115, 3) := by decide +kernel
theorem dX10_fund_18 : decode cX10_fund 18 = .ok (.ifCond .eq 7, 3) := by decide +kernel
theorem dX10_fund_21 : decode cX10_fund 21 = .ok (.iconst 0, 1) := by decide +kernel
theorem dX10_fund_22 : decode cX10_fund 22 = .ok (.goto 4, 3) := by decide +kernel
theorem dX10_fund_25 : decode cX10_fund 25 = .ok (.iconst 1, 1) := by decide +kernel
theorem dX10_fund_26 : decode cX10_fund 26 = .ok (.putfield 109, 3) := by decide +kernel
theorem dX10_fund_29 : decode cX10_fund 29 = .ok (.aload_n 0, 1) := by decide +kernel
theorem dX10_fund_30 : decode cX10_fund 30 = .ok (.getfield 109, 3) := by decide +kernel
theorem dX10_fund_33 : decode cX10_fund 33 = .ok (.ifCond .le 5, 3) := by decide +kernel
theorem dX10_fund_36 : decode cX10_fund 36 = .ok (.iconst 0, 1) := by decide +kernel
theorem dX10_fund_37 : decode cX10_fund 37 = .ok (.ireturn, 1) := by decide +kernel
theorem dX10_fund_38 : decode cX10_fund 38 = .ok (.aload_n 0, 1) := by decide +kernel
theorem dX10_fund_39 : decode cX10_fund 39 = .ok (.getfield 103, 3) := by decide +kernel
theorem dX10_fund_42 : decode cX10_fund 42 = .ok (.iload_n 1, 1) := by decide +kernel
theorem dX10_fund_43 : decode cX10_fund 43 = .ok (.dup2, 1) := by decide +kernel
theorem dX10_fund_44 : decode cX10_fund 44 = .ok (.iaload, 1) := by decide +kernel
theorem dX10_fund_45 : decode cX10_fund 45 = .ok (.iload_n 2, 1) := by decide +kernel
theorem dX10_fund_46 : decode cX10_fund 46 = .ok (.iadd, 1) := by decide +kernel
theorem dX10_fund_47 : decode cX10_fund 47 = .ok (.iastore, 1) := by decide +kernel
theorem dX10_fund_48 : decode cX10_fund 48 = .ok (.aload_n 0, 1) := by decide +kernel
theorem dX10_fund_49 : decode cX10_fund 49 = .ok (.getfield 103, 3) := by decide +kernel
theorem dX10_fund_52 : decode cX10_fund 52 = .ok (.iload_n 1, 1) := by decide +kernel
theorem dX10_fund_53 : decode cX10_fund 53 = .ok (.iaload, 1) := by decide +kernel
theorem dX10_fund_54 : decode cX10_fund 54 = .ok (.ireturn, 1) := by decide +kernel
theorem dX10_budget_0 : decode cX10_budget 0 = .ok (.aload_n 0, 1) := by decide +kernel
theorem dX10_budget_1 : decode cX10_budget 1 = .ok (.iload_n 1, 1) := by decide +kernel
theorem dX10_budget_2 : decode cX10_budget 2 = .ok (.iconst 0, 1) := by decide +kernel
theorem dX10_budget_3 : decode cX10_budget 3 = .ok (.iconst 2, 1) := by decide +kernel
theorem dX10_budget_4 : decode cX10_budget 4 = .ok (.invokestatic 115, 3) := by decide +kernel
theorem dX10_budget_7 : decode cX10_budget 7 = .ok (.ifCond .eq 7, 3) := by decide +kernel
theorem dX10_budget_10 : decode cX10_budget 10 = .ok (.iconst 0, 1) := by decide +kernel
theorem dX10_budget_11 : decode cX10_budget 11 = .ok (.goto 4, 3) := by decide +kernel
theorem dX10_budget_14 : decode cX10_budget 14 = .ok (.iconst 1, 1) := by decide +kernel
theorem dX10_budget_15 : decode cX10_budget 15 = .ok (.putfield 109, 3) := by decide +kernel
theorem dX10_budget_18 : decode cX10_budget 18 = .ok (.aload_n 0, 1) := by decide +kernel
theorem dX10_budget_19 : decode cX10_budget 19 = .ok (.getfield 109, 3) := by decide +kernel
theorem dX10_budget_22 : decode cX10_budget 22 = .ok (.ifCond .le 7, 3) := by decide +kernel
theorem dX10_budget_25 : decode cX10_budget 25 = .ok (.iconst 0, 1) := by decide +kernel
theorem dX10_budget_26 : decode cX10_budget 26 = .ok (.goto 9, 3) := by decide +kernel
theorem dX10_budget_29 : decode cX10_budget 29 = .ok (.aload_n 0, 1) := by decide +kernel
theorem dX10_budget_30 : decode cX10_budget 30 = .ok (.getfield 103, 3) := by decide +kernel
theorem dX10_budget_33 : decode cX10_budget 33 = .ok (.iload_n 1, 1) := by decide +kernel
theorem dX10_budget_34 : decode cX10_budget 34 = .ok (.iaload, 1) := by decide +kernel
theorem dX10_budget_35 : decode cX10_budget 35 = .ok (.ireturn, 1) := by decide +kernel
theorem dX10_starts_0 : decode cX10_starts 0 = .ok (.iconst 0, 1) := by decide +kernel
theorem dX10_starts_1 : decode cX10_starts 1 = .ok (.istore_n 3, 1) := by decide +kernel
theorem dX10_starts_2 : decode cX10_starts 2 = .ok (.iload_n 3, 1) := by decide +kernel
theorem dX10_starts_3 : decode cX10_starts 3 = .ok (.aload_n 0, 1) := by decide +kernel
theorem dX10_starts_4 : decode cX10_starts 4 = .ok (.getfield 171, 3) := by decide +kernel
theorem dX10_starts_7 : decode cX10_starts 7 = .ok (.if_icmp .ge 119, 3) := by decide +kernel
theorem dX10_starts_10 : decode cX10_starts 10 = .ok (.iconst 0, 1) := by decide +kernel
theorem dX10_starts_11 : decode cX10_starts 11 = .ok (.istore 4, 2) := by decide +kernel
theorem dX10_starts_13 : decode cX10_starts 13 = .ok (.iconst 0, 1) := by decide +kernel
theorem dX10_starts_14 : decode cX10_starts 14 = .ok (.istore 5, 2) := by decide +kernel
theorem dX10_starts_16 : decode cX10_starts 16 = .ok (.iload 5, 2) := by decide +kernel
theorem dX10_starts_18 : decode cX10_starts 18 = .ok (.aload_n 0, 1) := by decide +kernel
theorem dX10_starts_19 : decode cX10_starts 19 = .ok (.getfield 171, 3) := by decide +kernel
theorem dX10_starts_22 : decode cX10_starts 22 = .ok (.if_icmp .ge 80, 3) := by decide +kernel
theorem dX10_starts_25 : decode cX10_starts 25 = .ok (.aload_n 0, 1) := by decide +kernel
theorem dX10_starts_26 : decode cX10_starts 26 = .ok (.getfield 82, 3) := by decide +kernel
theorem dX10_starts_29 : decode cX10_starts 29 = .ok (.iload 5, 2) := by decide +kernel
theorem dX10_starts_31 : decode cX10_starts 31 = .ok (.iaload, 1) := by decide +kernel
theorem dX10_starts_32 : decode cX10_starts 32 = .ok (.iload_n 1, 1) := by decide +kernel
theorem dX10_starts_33 : decode cX10_starts 33 = .ok (.if_icmp .ne 45, 3) := by decide +kernel
theorem dX10_starts_36 : decode cX10_starts 36 = .ok (.aload_n 0, 1) := by decide +kernel
theorem dX10_starts_37 : decode cX10_starts 37 = .ok (.getfield 85, 3) := by decide +kernel
theorem dX10_starts_40 : decode cX10_starts 40 = .ok (.iload 5, 2) := by decide +kernel
theorem dX10_starts_42 : decode cX10_starts 42 = .ok (.iaload, 1) := by decide +kernel
theorem dX10_starts_43 : decode cX10_starts 43 = .ok (.aload_n 0, 1) := by decide +kernel
theorem dX10_starts_44 : decode cX10_starts 44 = .ok (.getfield 85, 3) := by decide +kernel
theorem dX10_starts_47 : decode cX10_starts 47 = .ok (.iload_n 3, 1) := by decide +kernel
theorem dX10_starts_48 : decode cX10_starts 48 = .ok (.iaload, 1) := by decide +kernel
theorem dX10_starts_49 : decode cX10_starts 49 = .ok (.if_icmp .gt 25, 3) := by decide +kernel
theorem dX10_starts_52 : decode cX10_starts 52 = .ok (.aload_n 0, 1) := by decide +kernel
theorem dX10_starts_53 : decode cX10_starts 53 = .ok (.getfield 85, 3) := by decide +kernel
theorem dX10_starts_56 : decode cX10_starts 56 = .ok (.iload 5, 2) := by decide +kernel
theorem dX10_starts_58 : decode cX10_starts 58 = .ok (.iaload, 1) := by decide +kernel
theorem dX10_starts_59 : decode cX10_starts 59 = .ok (.aload_n 0, 1) := by decide +kernel
theorem dX10_starts_60 : decode cX10_starts 60 = .ok (.getfield 85, 3) := by decide +kernel
theorem dX10_starts_63 : decode cX10_starts 63 = .ok (.iload_n 3, 1) := by decide +kernel
theorem dX10_starts_64 : decode cX10_starts 64 = .ok (.iaload, 1) := by decide +kernel
theorem dX10_starts_65 : decode cX10_starts 65 = .ok (.if_icmp .ne 13, 3) := by decide +kernel
theorem dX10_starts_68 : decode cX10_starts 68 = .ok (.iload 5, 2) := by decide +kernel
theorem dX10_starts_70 : decode cX10_starts 70 = .ok (.iload_n 3, 1) := by decide +kernel
theorem dX10_starts_71 : decode cX10_starts 71 = .ok (.if_icmp .ge 7, 3) := by decide +kernel
theorem dX10_starts_74 : decode cX10_starts 74 = .ok (.iconst 1, 1) := by decide +kernel
theorem dX10_starts_75 : decode cX10_starts 75 = .ok (.goto 4, 3) := by decide +kernel
theorem dX10_starts_78 : decode cX10_starts 78 = .ok (.iconst 0, 1) := by decide +kernel
theorem dX10_starts_79 : decode cX10_starts 79 = .ok (.istore 6, 2) := by decide +kernel
theorem dX10_starts_81 : decode cX10_starts 81 = .ok (.iload 4, 2) := by decide +kernel
theorem dX10_starts_83 : decode cX10_starts 83 = .ok (.iload 6, 2) := by decide +kernel
theorem dX10_starts_85 : decode cX10_starts 85 = .ok (.ifCond .eq 7, 3) := by decide +kernel
theorem dX10_starts_88 : decode cX10_starts 88 = .ok (.iconst 1, 1) := by decide +kernel
theorem dX10_starts_89 : decode cX10_starts 89 = .ok (.goto 4, 3) := by decide +kernel
theorem dX10_starts_92 : decode cX10_starts 92 = .ok (.iconst 0, 1) := by decide +kernel
theorem dX10_starts_93 : decode cX10_starts 93 = .ok (.iadd, 1) := by decide +kernel
theorem dX10_starts_94 : decode cX10_starts 94 = .ok (.istore 4, 2) := by decide +kernel
theorem dX10_starts_96 : decode cX10_starts 96 = .ok (.iinc 5 1, 3) := by decide +kernel
theorem dX10_starts_99 : decode cX10_starts 99 = .ok (.goto (-83), 3) := by decide +kernel
theorem dX10_starts_102 : decode cX10_starts 102 = .ok (.aload_n 0, 1) := by decide +kernel
theorem dX10_starts_103 : decode cX10_starts 103 = .ok (.getfield 82, 3) := by decide +kernel
theorem dX10_starts_106 : decode cX10_starts 106 = .ok (.iload_n 3, 1) := by decide +kernel
theorem dX10_starts_107 : decode cX10_starts 107 = .ok (.iaload, 1) := by decide +kernel
theorem dX10_starts_108 : decode cX10_starts 108 = .ok (.iload_n 1, 1) := by decide +kernel
theorem dX10_starts_109 : decode cX10_starts 109 = .ok (.if_icmp .ne 11, 3) := by decide +kernel
theorem dX10_starts_112 : decode cX10_starts 112 = .ok (.iload 4, 2) := by decide +kernel
theorem dX10_starts_114 : decode cX10_starts 114 = .ok (.iload_n 2, 1) := by decide +kernel
theorem dX10_starts_115 : decode cX10_starts 115 = .ok (.if_icmp .ne 5, 3) := by decide +kernel
theorem dX10_starts_118 : decode cX10_starts 118 = .ok (.iload_n 3, 1) := by decide +kernel
theorem dX10_starts_119 : decode cX10_starts 119 = .ok (.ireturn, 1) := by decide +kernel
theorem dX10_starts_120 : decode cX10_starts 120 = .ok (.iinc 3 1, 3) := by decide +kernel
theorem dX10_starts_123 : decode cX10_starts 123 = .ok (.goto (-121), 3) := by decide +kernel
theorem dX10_starts_126 : decode cX10_starts 126 = .ok (.iconst (-1), 1) := by decide +kernel
theorem dX10_starts_127 : decode cX10_starts 127 = .ok (.ireturn, 1) := by decide +kernel
theorem dX10_testTime_0 : decode cX10_testTime 0 = .ok (.aload_n 0, 1) := by decide +kernel
theorem dX10_testTime_1 : decode cX10_testTime 1 = .ok (.iload_n 1, 1) := by decide +kernel
theorem dX10_testTime_2 : decode cX10_testTime 2 = .ok (.invokevirtual 123, 3) := by decide +kernel
theorem dX10_testTime_5 : decode cX10_testTime 5 = .ok (.ifCond .eq 5, 3) := by decide +kernel
theorem dX10_testTime_8 : decode cX10_testTime 8 = .ok (.iconst 0, 1) := by decide +kernel
theorem dX10_testTime_9 : decode cX10_testTime 9 = .ok (.ireturn, 1) := by decide +kernel
theorem dX10_testTime_10 : decode cX10_testTime 10 = .ok (.iconst 4, 1) := by decide +kernel
theorem dX10_testTime_11 : decode cX10_testTime 11 = .ok (.newarray .int, 2) := by decide +kernel
theorem dX10_testTime_13 : decode cX10_testTime 13 = .ok (.astore_n 2, 1) := by decide +kernel
theorem dX10_testTime_14 : decode cX10_testTime 14 = .ok (.iconst 0, 1) := by decide +kernel
theorem dX10_testTime_15 : decode cX10_testTime 15 = .ok (.istore_n 3, 1) := by decide +kernel
theorem dX10_testTime_16 : decode cX10_testTime 16 = .ok (.iconst 0, 1) := by decide +kernel
theorem dX10_testTime_17 : decode cX10_testTime 17 = .ok (.istore 4, 2) := by decide +kernel
theorem dX10_testTime_19 : decode cX10_testTime 19 = .ok (.aload_n 0, 1) := by decide +kernel
theorem dX10_testTime_20 : decode cX10_testTime 20 = .ok (.iload_n 1, 1) := by decide +kernel
theorem dX10_testTime_21 : decode cX10_testTime 21 = .ok (.iconst 0, 1) := by decide +kernel
theorem dX10_testTime_22 : decode cX10_testTime 22 = .ok (.invokevirtual 177, 3) := by decide +kernel
theorem dX10_testTime_25 : decode cX10_testTime 25 = .ok (.istore 5, 2) := by decide +kernel
theorem dX10_testTime_27 : decode cX10_testTime 27 = .ok (.iload 5, 2) := by decide +kernel
theorem dX10_testTime_29 : decode cX10_testTime 29 = .ok (.iconst (-1), 1) := by decide +kernel
theorem dX10_testTime_30 : decode cX10_testTime 30 = .ok (.if_icmp .eq 82, 3) := by decide +kernel
theorem dX10_testTime_33 : decode cX10_testTime 33 = .ok (.iconst 0, 1) := by decide +kernel
theorem dX10_testTime_34 : decode cX10_testTime 34 = .ok (.istore 6, 2) := by decide +kernel
theorem dX10_testTime_36 : decode cX10_testTime 36 = .ok (.iconst 1, 1) := by decide +kernel
theorem dX10_testTime_37 : decode cX10_testTime 37 = .ok (.istore 7, 2) := by decide +kernel
theorem dX10_testTime_39 : decode cX10_testTime 39 = .ok (.iload 7, 2) := by decide +kernel
theorem dX10_testTime_41 : decode cX10_testTime 41 = .ok (.aload_n 0, 1) := by decide +kernel
theorem dX10_testTime_42 : decode cX10_testTime 42 = .ok (.getfield 99, 3) := by decide +kernel
theorem dX10_testTime_45 : decode cX10_testTime 45 = .ok (.if_icmp .ge 29, 3) := by decide +kernel
theorem dX10_testTime_48 : decode cX10_testTime 48 = .ok (.aload_n 2, 1) := by decide +kernel
theorem dX10_testTime_49 : decode cX10_testTime 49 = .ok (.iload 7, 2) := by decide +kernel
theorem dX10_testTime_51 : decode cX10_testTime 51 = .ok (.iaload, 1) := by decide +kernel
theorem dX10_testTime_52 : decode cX10_testTime 52 = .ok (.aload_n 2, 1) := by decide +kernel
theorem dX10_testTime_53 : decode cX10_testTime 53 = .ok (.iload 6, 2) := by decide +kernel
theorem dX10_testTime_55 : decode cX10_testTime 55 = .ok (.iaload, 1) := by decide +kernel
theorem dX10_testTime_56 : decode cX10_testTime 56 = .ok (.if_icmp .ge 8, 3) := by decide +kernel
theorem dX10_testTime_59 : decode cX10_testTime 59 = .ok (.iload 7, 2) := by decide +kernel
theorem dX10_testTime_61 : decode cX10_testTime 61 = .ok (.goto 5, 3) := by decide +kernel
theorem dX10_testTime_64 : decode cX10_testTime 64 = .ok (.iload 6, 2) := by decide +kernel
theorem dX10_testTime_66 : decode cX10_testTime 66 = .ok (.istore 6, 2) := by decide +kernel
theorem dX10_testTime_68 : decode cX10_testTime 68 = .ok (.iinc 7 1, 3) := by decide +kernel
theorem dX10_testTime_71 : decode cX10_testTime 71 = .ok (.goto (-32), 3) := by decide +kernel
theorem dX10_testTime_74 : decode cX10_testTime 74 = .ok (.aload_n 2, 1) := by decide +kernel
theorem dX10_testTime_75 : decode cX10_testTime 75 = .ok (.iload 6, 2) := by decide +kernel
theorem dX10_testTime_77 : decode cX10_testTime 77 = .ok (.dup2, 1) := by decide +kernel
theorem dX10_testTime_78 : decode cX10_testTime 78 = .ok (.iaload, 1) := by decide +kernel
theorem dX10_testTime_79 : decode cX10_testTime 79 = .ok (.aload_n 0, 1) := by decide +kernel
theorem dX10_testTime_80 : decode cX10_testTime 80 = .ok (.getfield 85, 3) := by decide +kernel
theorem dX10_testTime_83 : decode cX10_testTime 83 = .ok (.iload 5, 2) := by decide +kernel
theorem dX10_testTime_85 : decode cX10_testTime 85 = .ok (.iaload, 1) := by decide +kernel
theorem dX10_testTime_86 : decode cX10_testTime 86 = .ok (.iadd, 1) := by decide +kernel
theorem dX10_testTime_87 : decode cX10_testTime 87 = .ok (.iastore, 1) := by decide +kernel
theorem dX10_testTime_88 : decode cX10_testTime 88 = .ok (.iload_n 3, 1) := by decide +kernel
theorem dX10_testTime_89 : decode cX10_testTime 89 = .ok (.aload_n 2, 1) := by decide +kernel
theorem dX10_testTime_90 : decode cX10_testTime 90 = .ok (.iload 6, 2) := by decide +kernel
theorem dX10_testTime_92 : decode cX10_testTime 92 = .ok (.iaload, 1) := by decide +kernel
theorem dX10_testTime_93 : decode cX10_testTime 93 = .ok (.invokestatic 180, 3) := by decide +kernel
theorem dX10_testTime_96 : decode cX10_testTime 96 = .ok (.istore_n 3, 1) := by decide +kernel
theorem dX10_testTime_97 : decode cX10_testTime 97 = .ok (.iinc 4 1, 3) := by decide +kernel
theorem dX10_testTime_100 : decode cX10_testTime 100 = .ok (.aload_n 0, 1) := by decide +kernel
theorem dX10_testTime_101 : decode cX10_testTime 101 = .ok (.iload_n 1, 1) := by decide +kernel
theorem dX10_testTime_102 : decode cX10_testTime 102 = .ok (.iload 4, 2) := by decide +kernel
theorem dX10_testTime_104 : decode cX10_testTime 104 = .ok (.invokevirtual 177, 3) := by decide +kernel
theorem dX10_testTime_107 : decode cX10_testTime 107 = .ok (.istore 5, 2) := by decide +kernel
theorem dX10_testTime_109 : decode cX10_testTime 109 = .ok (.goto (-82), 3) := by decide +kernel
theorem dX10_testTime_112 : decode cX10_testTime 112 = .ok (.iload_n 3, 1) := by decide +kernel
theorem dX10_testTime_113 : decode cX10_testTime 113 = .ok (.ireturn, 1) := by decide +kernel
theorem dX10_records_0 : decode cX10_records 0 = .ok (.aload_n 0, 1) := by decide +kernel
theorem dX10_records_1 : decode cX10_records 1 = .ok (.getfield 96, 3) := by decide +kernel
theorem dX10_records_4 : decode cX10_records 4 = .ok (.iload_n 1, 1) := by decide +kernel
theorem dX10_records_5 : decode cX10_records 5 = .ok (.iaload, 1) := by decide +kernel
theorem dX10_records_6 : decode cX10_records 6 = .ok (.bipush 8, 2) := by decide +kernel
theorem dX10_records_8 : decode cX10_records 8 = .ok (.if_icmp .ne 45, 3) := by decide +kernel
theorem dX10_records_11 : decode cX10_records 11 = .ok (.iconst 1, 1) := by decide +kernel
theorem dX10_records_12 : decode cX10_records 12 = .ok (.istore_n 2, 1) := by decide +kernel
theorem dX10_records_13 : decode cX10_records 13 = .ok (.iload_n 2, 1) := by decide +kernel
theorem dX10_records_14 : decode cX10_records 14 = .ok (.bipush 8, 2) := by decide +kernel
theorem dX10_records_16 : decode cX10_records 16 = .ok (.if_icmp .ge 27, 3) := by decide +kernel
theorem dX10_records_19 : decode cX10_records 19 = .ok (.aload_n 0, 1) := by decide +kernel
theorem dX10_records_20 : decode cX10_records 20 = .ok (.getfield 93, 3) := by decide +kernel
theorem dX10_records_23 : decode cX10_records 23 = .ok (.iload_n 1, 1) := by decide +kernel
theorem dX10_records_24 : decode cX10_records 24 = .ok (.aaload, 1) := by decide +kernel
theorem dX10_records_25 : decode cX10_records 25 = .ok (.iload_n 2, 1) := by decide +kernel
theorem dX10_records_26 : decode cX10_records 26 = .ok (.iconst 1, 1) := by decide +kernel
theorem dX10_records_27 : decode cX10_records 27 = .ok (.isub, 1) := by decide +kernel
theorem dX10_records_28 : decode cX10_records 28 = .ok (.aload_n 0, 1) := by decide +kernel
theorem dX10_records_29 : decode cX10_records 29 = .ok (.getfield 93, 3) := by decide +kernel
theorem dX10_records_32 : decode cX10_records 32 = .ok (.iload_n 1, 1) := by decide +kernel
theorem dX10_records_33 : decode cX10_records 33 = .ok (.aaload, 1) := by decide +kernel
theorem dX10_records_34 : decode cX10_records 34 = .ok (.iload_n 2, 1) := by decide +kernel
theorem dX10_records_35 : decode cX10_records 35 = .ok (.baload, 1) := by decide +kernel
theorem dX10_records_36 : decode cX10_records 36 = .ok (.bastore, 1) := by decide +kernel
theorem dX10_records_37 : decode cX10_records 37 = .ok (.iinc 2 1, 3) := by decide +kernel
theorem dX10_records_40 : decode cX10_records 40 = .ok (.goto (-27), 3) := by decide +kernel
theorem dX10_records_43 : decode cX10_records 43 = .ok (.aload_n 0, 1) := by decide +kernel
theorem dX10_records_44 : decode cX10_records 44 = .ok (.getfield 96, 3) := by decide +kernel
theorem dX10_records_47 : decode cX10_records 47 = .ok (.iload_n 1, 1) := by decide +kernel
theorem dX10_records_48 : decode cX10_records 48 = .ok (.dup2, 1) := by decide +kernel
theorem dX10_records_49 : decode cX10_records 49 = .ok (.iaload, 1) := by decide +kernel
theorem dX10_records_50 : decode cX10_records 50 = .ok (.iconst 1, 1) := by decide +kernel
theorem dX10_records_51 : decode cX10_records 51 = .ok (.isub, 1) := by decide +kernel
theorem dX10_records_52 : decode cX10_records 52 = .ok (.iastore, 1) := by decide +kernel
theorem dX10_records_53 : decode cX10_records 53 = .ok (.aload_n 0, 1) := by decide +kernel
theorem dX10_records_54 : decode cX10_records 54 = .ok (.getfield 93, 3) := by decide +kernel
theorem dX10_records_57 : decode cX10_records 57 = .ok (.iload_n 1, 1) := by decide +kernel
theorem dX10_records_58 : decode cX10_records 58 = .ok (.aaload, 1) := by decide +kernel
theorem dX10_records_59 : decode cX10_records 59 = .ok (.aload_n 0, 1) := by decide +kernel
theorem dX10_records_60 : decode cX10_records 60 = .ok (.getfield 96, 3) := by decide +kernel
theorem dX10_records_63 : decode cX10_records 63 = .ok (.iload_n 1, 1) := by decide +kernel
theorem dX10_records_64 : decode cX10_records 64 = .ok (.iaload, 1) := by decide +kernel
theorem dX10_records_65 : decode cX10_records 65 = .ok (.aload_n 0, 1) := by decide +kernel
theorem dX10_records_66 : decode cX10_records 66 = .ok (.getfield 88, 3) := by decide +kernel
theorem dX10_records_69 : decode cX10_records 69 = .ok (.iload_n 1, 1) := by decide +kernel
theorem dX10_records_70 : decode cX10_records 70 = .ok (.baload, 1) := by decide +kernel
theorem dX10_records_71 : decode cX10_records 71 = .ok (.bastore, 1) := by decide +kernel
theorem dX10_records_72 : decode cX10_records 72 = .ok (.aload_n 0, 1) := by decide +kernel
theorem dX10_records_73 : decode cX10_records 73 = .ok (.getfield 96, 3) := by decide +kernel
theorem dX10_records_76 : decode cX10_records 76 = .ok (.iload_n 1, 1) := by decide +kernel
theorem dX10_records_77 : decode cX10_records 77 = .ok (.dup2, 1) := by decide +kernel
theorem dX10_records_78 : decode cX10_records 78 = .ok (.iaload, 1) := by decide +kernel
theorem dX10_records_79 : decode cX10_records 79 = .ok (.iconst 1, 1) := by decide +kernel
theorem dX10_records_80 : decode cX10_records 80 = .ok (.iadd, 1) := by decide +kernel
theorem dX10_records_81 : decode cX10_records 81 = .ok (.iastore, 1) := by decide +kernel
theorem dX10_records_82 : decode cX10_records 82 = .ok (.return_, 1) := by decide +kernel
theorem dX10_test_0 : decode cX10_test 0 = .ok (.aload_n 0, 1) := by decide +kernel
theorem dX10_test_1 : decode cX10_test 1 = .ok (.iload_n 1, 1) := by decide +kernel
theorem dX10_test_2 : decode cX10_test 2 = .ok (.invokevirtual 123, 3) := by decide +kernel
theorem dX10_test_5 : decode cX10_test 5 = .ok (.ifCond .eq 5, 3) := by decide +kernel
theorem dX10_test_8 : decode cX10_test 8 = .ok (.iconst 0, 1) := by decide +kernel
theorem dX10_test_9 : decode cX10_test 9 = .ok (.ireturn, 1) := by decide +kernel
theorem dX10_test_10 : decode cX10_test 10 = .ok (.aload_n 0, 1) := by decide +kernel
theorem dX10_test_11 : decode cX10_test 11 = .ok (.iload_n 1, 1) := by decide +kernel
theorem dX10_test_12 : decode cX10_test 12 = .ok (.invokevirtual 152, 3) := by decide +kernel
theorem dX10_test_15 : decode cX10_test 15 = .ok (.istore_n 2, 1) := by decide +kernel
theorem dX10_test_16 : decode cX10_test 16 = .ok (.iload_n 2, 1) := by decide +kernel
theorem dX10_test_17 : decode cX10_test 17 = .ok (.ifCond .eq 15, 3) := by decide +kernel
theorem dX10_test_20 : decode cX10_test 20 = .ok (.aload_n 0, 1) := by decide +kernel
theorem dX10_test_21 : decode cX10_test 21 = .ok (.iload_n 1, 1) := by decide +kernel
theorem dX10_test_22 : decode cX10_test 22 = .ok (.invokevirtual 165, 3) := by decide +kernel
theorem dX10_test_25 : decode cX10_test 25 = .ok (.ifCond .eq 7, 3) := by decide +kernel
theorem dX10_test_28 : decode cX10_test 28 = .ok (.iconst 1, 1) := by decide +kernel
theorem dX10_test_29 : decode cX10_test 29 = .ok (.goto 4, 3) := by decide +kernel
theorem dX10_test_32 : decode cX10_test 32 = .ok (.iconst 0, 1) := by decide +kernel
theorem dX10_test_33 : decode cX10_test 33 = .ok (.istore_n 3, 1) := by decide +kernel
theorem dX10_test_34 : decode cX10_test 34 = .ok (.iconst 0, 1) := by decide +kernel
theorem dX10_test_35 : decode cX10_test 35 = .ok (.istore 4, 2) := by decide +kernel
theorem dX10_test_37 : decode cX10_test 37 = .ok (.iconst 0, 1) := by decide +kernel
theorem dX10_test_38 : decode cX10_test 38 = .ok (.istore 5, 2) := by decide +kernel
theorem dX10_test_40 : decode cX10_test 40 = .ok (.iconst 0, 1) := by decide +kernel
theorem dX10_test_41 : decode cX10_test 41 = .ok (.istore 6, 2) := by decide +kernel
theorem dX10_test_43 : decode cX10_test 43 = .ok (.iload 6, 2) := by decide +kernel
theorem dX10_test_45 : decode cX10_test 45 = .ok (.aload_n 0, 1) := by decide +kernel
theorem dX10_test_46 : decode cX10_test 46 = .ok (.getfield 171, 3) := by decide +kernel
theorem dX10_test_49 : decode cX10_test 49 = .ok (.if_icmp .ge 67, 3) := by decide +kernel
theorem dX10_test_52 : decode cX10_test 52 = .ok (.iload 4, 2) := by decide +kernel
theorem dX10_test_54 : decode cX10_test 54 = .ok (.aload_n 0, 1) := by decide +kernel
theorem dX10_test_55 : decode cX10_test 55 = .ok (.getfield 82, 3) := by decide +kernel
theorem dX10_test_58 : decode cX10_test 58 = .ok (.iload 6, 2) := by decide +kernel
theorem dX10_test_60 : decode cX10_test 60 = .ok (.iaload, 1) := by decide +kernel
theorem dX10_test_61 : decode cX10_test 61 = .ok (.iload_n 1, 1) := by decide +kernel
theorem dX10_test_62 : decode cX10_test 62 = .ok (.if_icmp .ne 13, 3) := by decide +kernel
theorem dX10_test_65 : decode cX10_test 65 = .ok (.aload_n 0, 1) := by decide +kernel
theorem dX10_test_66 : decode cX10_test 66 = .ok (.getfield 85, 3) := by decide +kernel
theorem dX10_test_69 : decode cX10_test 69 = .ok (.iload 6, 2) := by decide +kernel
theorem dX10_test_71 : decode cX10_test 71 = .ok (.iaload, 1) := by decide +kernel
theorem dX10_test_72 : decode cX10_test 72 = .ok (.goto 4, 3) := by decide +kernel
theorem dX10_test_75 : decode cX10_test 75 = .ok (.iconst 0, 1) := by decide +kernel
theorem dX10_test_76 : decode cX10_test 76 = .ok (.iadd, 1) := by decide +kernel
theorem dX10_test_77 : decode cX10_test 77 = .ok (.istore 4, 2) := by decide +kernel
theorem dX10_test_79 : decode cX10_test 79 = .ok (.iload 5, 2) := by decide +kernel
theorem dX10_test_81 : decode cX10_test 81 = .ok (.aload_n 0, 1) := by decide +kernel
theorem dX10_test_82 : decode cX10_test 82 = .ok (.getfield 82, 3) := by decide +kernel
theorem dX10_test_85 : decode cX10_test 85 = .ok (.iload 6, 2) := by decide +kernel
theorem dX10_test_87 : decode cX10_test 87 = .ok (.iaload, 1) := by decide +kernel
theorem dX10_test_88 : decode cX10_test 88 = .ok (.iload_n 1, 1) := by decide +kernel
theorem dX10_test_89 : decode cX10_test 89 = .ok (.if_icmp .ne 17, 3) := by decide +kernel
theorem dX10_test_92 : decode cX10_test 92 = .ok (.aload_n 0, 1) := by decide +kernel
theorem dX10_test_93 : decode cX10_test 93 = .ok (.getfield 88, 3) := by decide +kernel
theorem dX10_test_96 : decode cX10_test 96 = .ok (.iload 6, 2) := by decide +kernel
theorem dX10_test_98 : decode cX10_test 98 = .ok (.baload, 1) := by decide +kernel
theorem dX10_test_99 : decode cX10_test 99 = .ok (.ifCond .eq 7, 3) := by decide +kernel
theorem dX10_test_102 : decode cX10_test 102 = .ok (.iconst 1, 1) := by decide +kernel
theorem dX10_test_103 : decode cX10_test 103 = .ok (.goto 4, 3) := by decide +kernel
theorem dX10_test_106 : decode cX10_test 106 = .ok (.iconst 0, 1) := by decide +kernel
theorem dX10_test_107 : decode cX10_test 107 = .ok (.iadd, 1) := by decide +kernel
theorem dX10_test_108 : decode cX10_test 108 = .ok (.istore 5, 2) := by decide +kernel
theorem dX10_test_110 : decode cX10_test 110 = .ok (.iinc 6 1, 3) := by decide +kernel
theorem dX10_test_113 : decode cX10_test 113 = .ok (.goto (-70), 3) := by decide +kernel
theorem dX10_test_116 : decode cX10_test 116 = .ok (.aload_n 0, 1) := by decide +kernel
theorem dX10_test_117 : decode cX10_test 117 = .ok (.iload_n 2, 1) := by decide +kernel
theorem dX10_test_118 : decode cX10_test 118 = .ok (.ifCond .ne 7, 3) := by decide +kernel
theorem dX10_test_121 : decode cX10_test 121 = .ok (.iconst 2, 1) := by decide +kernel
theorem dX10_test_122 : decode cX10_test 122 = .ok (.goto 28, 3) := by decide +kernel
theorem dX10_test_125 : decode cX10_test 125 = .ok (.iload_n 3, 1) := by decide +kernel
theorem dX10_test_126 : decode cX10_test 126 = .ok (.ifCond .ne 19, 3) := by decide +kernel
theorem dX10_test_129 : decode cX10_test 129 = .ok (.aload_n 0, 1) := by decide +kernel
theorem dX10_test_130 : decode cX10_test 130 = .ok (.getfield 103, 3) := by decide +kernel
theorem dX10_test_133 : decode cX10_test 133 = .ok (.aload_n 0, 1) := by decide +kernel
theorem dX10_test_134 : decode cX10_test 134 = .ok (.getfield 9, 3) := by decide +kernel
theorem dX10_test_137 : decode cX10_test 137 = .ok (.iload_n 1, 1) := by decide +kernel
theorem dX10_test_138 : decode cX10_test 138 = .ok (.iaload, 1) := by decide +kernel
theorem dX10_test_139 : decode cX10_test 139 = .ok (.iaload, 1) := by decide +kernel
theorem dX10_test_140 : decode cX10_test 140 = .ok (.iload 4, 2) := by decide +kernel
theorem dX10_test_142 : decode cX10_test 142 = .ok (.if_icmp .ge 7, 3) := by decide +kernel
theorem dX10_test_145 : decode cX10_test 145 = .ok (.iconst 3, 1) := by decide +kernel
theorem dX10_test_146 : decode cX10_test 146 = .ok (.goto 4, 3) := by decide +kernel
theorem dX10_test_149 : decode cX10_test 149 = .ok (.iconst 0, 1) := by decide +kernel
theorem dX10_test_150 : decode cX10_test 150 = .ok (.putfield 109, 3) := by decide +kernel
theorem dX10_test_153 : decode cX10_test 153 = .ok (.aload_n 0, 1) := by decide +kernel
theorem dX10_test_154 : decode cX10_test 154 = .ok (.getfield 109, 3) := by decide +kernel
theorem dX10_test_157 : decode cX10_test 157 = .ok (.ifCond .le 5, 3) := by decide +kernel
theorem dX10_test_160 : decode cX10_test 160 = .ok (.iconst 0, 1) := by decide +kernel
theorem dX10_test_161 : decode cX10_test 161 = .ok (.ireturn, 1) := by decide +kernel
theorem dX10_test_162 : decode cX10_test 162 = .ok (.aload_n 0, 1) := by decide +kernel
theorem dX10_test_163 : decode cX10_test 163 = .ok (.getfield 103, 3) := by decide +kernel
theorem dX10_test_166 : decode cX10_test 166 = .ok (.aload_n 0, 1) := by decide +kernel
theorem dX10_test_167 : decode cX10_test 167 = .ok (.getfield 9, 3) := by decide +kernel
theorem dX10_test_170 : decode cX10_test 170 = .ok (.iload_n 1, 1) := by decide +kernel
theorem dX10_test_171 : decode cX10_test 171 = .ok (.iaload, 1) := by decide +kernel
theorem dX10_test_172 : decode cX10_test 172 = .ok (.dup2, 1) := by decide +kernel
theorem dX10_test_173 : decode cX10_test 173 = .ok (.iaload, 1) := by decide +kernel
theorem dX10_test_174 : decode cX10_test 174 = .ok (.iload 4, 2) := by decide +kernel
theorem dX10_test_176 : decode cX10_test 176 = .ok (.isub, 1) := by decide +kernel
theorem dX10_test_177 : decode cX10_test 177 = .ok (.iastore, 1) := by decide +kernel
theorem dX10_test_178 : decode cX10_test 178 = .ok (.aload_n 0, 1) := by decide +kernel
theorem dX10_test_179 : decode cX10_test 179 = .ok (.dup, 1) := by decide +kernel
theorem dX10_test_180 : decode cX10_test 180 = .ok (.getfield 185, 3) := by decide +kernel
theorem dX10_test_183 : decode cX10_test 183 = .ok (.iload 4, 2) := by decide +kernel
theorem dX10_test_185 : decode cX10_test 185 = .ok (.iadd, 1) := by decide +kernel
theorem dX10_test_186 : decode cX10_test 186 = .ok (.putfield 185, 3) := by decide +kernel
theorem dX10_test_189 : decode cX10_test 189 = .ok (.aload_n 0, 1) := by decide +kernel
theorem dX10_test_190 : decode cX10_test 190 = .ok (.dup, 1) := by decide +kernel
theorem dX10_test_191 : decode cX10_test 191 = .ok (.getfield 188, 3) := by decide +kernel
theorem dX10_test_194 : decode cX10_test 194 = .ok (.iconst 1, 1) := by decide +kernel
theorem dX10_test_195 : decode cX10_test 195 = .ok (.iadd, 1) := by decide +kernel
theorem dX10_test_196 : decode cX10_test 196 = .ok (.putfield 188, 3) := by decide +kernel
theorem dX10_test_199 : decode cX10_test 199 = .ok (.iconst 0, 1) := by decide +kernel
theorem dX10_test_200 : decode cX10_test 200 = .ok (.istore 6, 2) := by decide +kernel
theorem dX10_test_202 : decode cX10_test 202 = .ok (.iload 6, 2) := by decide +kernel
theorem dX10_test_204 : decode cX10_test 204 = .ok (.aload_n 0, 1) := by decide +kernel
theorem dX10_test_205 : decode cX10_test 205 = .ok (.getfield 171, 3) := by decide +kernel
theorem dX10_test_208 : decode cX10_test 208 = .ok (.if_icmp .ge 26, 3) := by decide +kernel
theorem dX10_test_211 : decode cX10_test 211 = .ok (.aload_n 0, 1) := by decide +kernel
theorem dX10_test_212 : decode cX10_test 212 = .ok (.getfield 82, 3) := by decide +kernel
theorem dX10_test_215 : decode cX10_test 215 = .ok (.iload 6, 2) := by decide +kernel
theorem dX10_test_217 : decode cX10_test 217 = .ok (.iaload, 1) := by decide +kernel
theorem dX10_test_218 : decode cX10_test 218 = .ok (.iload_n 1, 1) := by decide +kernel
theorem dX10_test_219 : decode cX10_test 219 = .ok (.if_icmp .ne 9, 3) := by decide +kernel
theorem dX10_test_222 : decode cX10_test 222 = .ok (.aload_n 0, 1) := by decide +kernel
theorem dX10_test_223 : decode cX10_test 223 = .ok (.iload 6, 2) := by decide +kernel
theorem dX10_test_225 : decode cX10_test 225 = .ok (.invokevirtual 191, 3) := by decide +kernel
theorem dX10_test_228 : decode cX10_test 228 = .ok (.iinc 6 1, 3) := by decide +kernel
theorem dX10_test_231 : decode cX10_test 231 = .ok (.goto (-29), 3) := by decide +kernel
theorem dX10_test_234 : decode cX10_test 234 = .ok (.aload_n 0, 1) := by decide +kernel
theorem dX10_test_235 : decode cX10_test 235 = .ok (.getfield 43, 3) := by decide +kernel
theorem dX10_test_238 : decode cX10_test 238 = .ok (.iload_n 1, 1) := by decide +kernel
theorem dX10_test_239 : decode cX10_test 239 = .ok (.iload 5, 2) := by decide +kernel
theorem dX10_test_241 : decode cX10_test 241 = .ok (.ifCond .ne 7, 3) := by decide +kernel
theorem dX10_test_244 : decode cX10_test 244 = .ok (.iconst 1, 1) := by decide +kernel
theorem dX10_test_245 : decode cX10_test 245 = .ok (.goto 4, 3) := by decide +kernel
theorem dX10_test_248 : decode cX10_test 248 = .ok (.iconst 0, 1) := by decide +kernel
theorem dX10_test_249 : decode cX10_test 249 = .ok (.bastore, 1) := by decide +kernel
theorem dX10_test_250 : decode cX10_test 250 = .ok (.aload_n 0, 1) := by decide +kernel
theorem dX10_test_251 : decode cX10_test 251 = .ok (.getfield 49, 3) := by decide +kernel
theorem dX10_test_254 : decode cX10_test 254 = .ok (.iload_n 1, 1) := by decide +kernel
theorem dX10_test_255 : decode cX10_test 255 = .ok (.aload_n 0, 1) := by decide +kernel
theorem dX10_test_256 : decode cX10_test 256 = .ok (.getfield 13, 3) := by decide +kernel
theorem dX10_test_259 : decode cX10_test 259 = .ok (.iload_n 1, 1) := by decide +kernel
theorem dX10_test_260 : decode cX10_test 260 = .ok (.iaload, 1) := by decide +kernel
theorem dX10_test_261 : decode cX10_test 261 = .ok (.iastore, 1) := by decide +kernel
theorem dX10_test_262 : decode cX10_test 262 = .ok (.aload_n 0, 1) := by decide +kernel
theorem dX10_test_263 : decode cX10_test 263 = .ok (.getfield 52, 3) := by decide +kernel
theorem dX10_test_266 : decode cX10_test 266 = .ok (.iload_n 1, 1) := by decide +kernel
theorem dX10_test_267 : decode cX10_test 267 = .ok (.aload_n 0, 1) := by decide +kernel
theorem dX10_test_268 : decode cX10_test 268 = .ok (.getfield 16, 3) := by decide +kernel
theorem dX10_test_271 : decode cX10_test 271 = .ok (.iload_n 1, 1) := by decide +kernel
theorem dX10_test_272 : decode cX10_test 272 = .ok (.iaload, 1) := by decide +kernel
theorem dX10_test_273 : decode cX10_test 273 = .ok (.iastore, 1) := by decide +kernel
theorem dX10_test_274 : decode cX10_test 274 = .ok (.iconst 0, 1) := by decide +kernel
theorem dX10_test_275 : decode cX10_test 275 = .ok (.istore 6, 2) := by decide +kernel
theorem dX10_test_277 : decode cX10_test 277 = .ok (.iload 6, 2) := by decide +kernel
theorem dX10_test_279 : decode cX10_test 279 = .ok (.bipush 6, 2) := by decide +kernel
theorem dX10_test_281 : decode cX10_test 281 = .ok (.if_icmp .ge 60, 3) := by decide +kernel
theorem dX10_test_284 : decode cX10_test 284 = .ok (.aload_n 0, 1) := by decide +kernel
theorem dX10_test_285 : decode cX10_test 285 = .ok (.getfield 46, 3) := by decide +kernel
theorem dX10_test_288 : decode cX10_test 288 = .ok (.iload_n 1, 1) := by decide +kernel
theorem dX10_test_289 : decode cX10_test 289 = .ok (.aaload, 1) := by decide +kernel
theorem dX10_test_290 : decode cX10_test 290 = .ok (.iload 6, 2) := by decide +kernel
theorem dX10_test_292 : decode cX10_test 292 = .ok (.aload_n 0, 1) := by decide +kernel
theorem dX10_test_293 : decode cX10_test 293 = .ok (.iload 6, 2) := by decide +kernel
theorem dX10_test_295 : decode cX10_test 295 = .ok (.invokevirtual 155, 3) := by decide +kernel
theorem dX10_test_298 : decode cX10_test 298 = .ok (.iastore, 1) := by decide +kernel
theorem dX10_test_299 : decode cX10_test 299 = .ok (.aload_n 0, 1) := by decide +kernel
theorem dX10_test_300 : decode cX10_test 300 = .ok (.getfield 55, 3) := by decide +kernel
theorem dX10_test_303 : decode cX10_test 303 = .ok (.iload_n 1, 1) := by decide +kernel
theorem dX10_test_304 : decode cX10_test 304 = .ok (.aaload, 1) := by decide +kernel
theorem dX10_test_305 : decode cX10_test 305 = .ok (.iload 6, 2) := by decide +kernel
theorem dX10_test_307 : decode cX10_test 307 = .ok (.aload_n 0, 1) := by decide +kernel
theorem dX10_test_308 : decode cX10_test 308 = .ok (.getfield 21, 3) := by decide +kernel
theorem dX10_test_311 : decode cX10_test 311 = .ok (.iload_n 1, 1) := by decide +kernel
theorem dX10_test_312 : decode cX10_test 312 = .ok (.aaload, 1) := by decide +kernel
theorem dX10_test_313 : decode cX10_test 313 = .ok (.iload 6, 2) := by decide +kernel
theorem dX10_test_315 : decode cX10_test 315 = .ok (.iaload, 1) := by decide +kernel
theorem dX10_test_316 : decode cX10_test 316 = .ok (.iastore, 1) := by decide +kernel
theorem dX10_test_317 : decode cX10_test 317 = .ok (.aload_n 0, 1) := by decide +kernel
theorem dX10_test_318 : decode cX10_test 318 = .ok (.getfield 58, 3) := by decide +kernel
theorem dX10_test_321 : decode cX10_test 321 = .ok (.iload_n 1, 1) := by decide +kernel
theorem dX10_test_322 : decode cX10_test 322 = .ok (.aaload, 1) := by decide +kernel
theorem dX10_test_323 : decode cX10_test 323 = .ok (.iload 6, 2) := by decide +kernel
theorem dX10_test_325 : decode cX10_test 325 = .ok (.aload_n 0, 1) := by decide +kernel
theorem dX10_test_326 : decode cX10_test 326 = .ok (.getfield 24, 3) := by decide +kernel
theorem dX10_test_329 : decode cX10_test 329 = .ok (.iload_n 1, 1) := by decide +kernel
theorem dX10_test_330 : decode cX10_test 330 = .ok (.aaload, 1) := by decide +kernel
theorem dX10_test_331 : decode cX10_test 331 = .ok (.iload 6, 2) := by decide +kernel
theorem dX10_test_333 : decode cX10_test 333 = .ok (.iaload, 1) := by decide +kernel
theorem dX10_test_334 : decode cX10_test 334 = .ok (.iastore, 1) := by decide +kernel
theorem dX10_test_335 : decode cX10_test 335 = .ok (.iinc 6 1, 3) := by decide +kernel
theorem dX10_test_338 : decode cX10_test 338 = .ok (.goto (-61), 3) := by decide +kernel
theorem dX10_test_341 : decode cX10_test 341 = .ok (.iload 5, 2) := by decide +kernel
theorem dX10_test_343 : decode cX10_test 343 = .ok (.ireturn, 1) := by decide +kernel
theorem dX10_flakyOf_0 : decode cX10_flakyOf 0 = .ok (.iconst 0, 1) := by decide +kernel
theorem dX10_flakyOf_1 : decode cX10_flakyOf 1 = .ok (.istore_n 2, 1) := by decide +kernel
theorem dX10_flakyOf_2 : decode cX10_flakyOf 2 = .ok (.iconst 1, 1) := by decide +kernel
theorem dX10_flakyOf_3 : decode cX10_flakyOf 3 = .ok (.istore_n 3, 1) := by decide +kernel
theorem dX10_flakyOf_4 : decode cX10_flakyOf 4 = .ok (.iload_n 3, 1) := by decide +kernel
theorem dX10_flakyOf_5 : decode cX10_flakyOf 5 = .ok (.aload_n 0, 1) := by decide +kernel
theorem dX10_flakyOf_6 : decode cX10_flakyOf 6 = .ok (.getfield 96, 3) := by decide +kernel
theorem dX10_flakyOf_9 : decode cX10_flakyOf 9 = .ok (.iload_n 1, 1) := by decide +kernel
theorem dX10_flakyOf_10 : decode cX10_flakyOf 10 = .ok (.iaload, 1) := by decide +kernel
theorem dX10_flakyOf_11 : decode cX10_flakyOf 11 = .ok (.if_icmp .ge 38, 3) := by decide +kernel
theorem dX10_flakyOf_14 : decode cX10_flakyOf 14 = .ok (.iload_n 2, 1) := by decide +kernel
theorem dX10_flakyOf_15 : decode cX10_flakyOf 15 = .ok (.aload_n 0, 1) := by decide +kernel
theorem dX10_flakyOf_16 : decode cX10_flakyOf 16 = .ok (.getfield 93, 3) := by decide +kernel
theorem dX10_flakyOf_19 : decode cX10_flakyOf 19 = .ok (.iload_n 1, 1) := by decide +kernel
theorem dX10_flakyOf_20 : decode cX10_flakyOf 20 = .ok (.aaload, 1) := by decide +kernel
theorem dX10_flakyOf_21 : decode cX10_flakyOf 21 = .ok (.iload_n 3, 1) := by decide +kernel
theorem dX10_flakyOf_22 : decode cX10_flakyOf 22 = .ok (.baload, 1) := by decide +kernel
theorem dX10_flakyOf_23 : decode cX10_flakyOf 23 = .ok (.aload_n 0, 1) := by decide +kernel
theorem dX10_flakyOf_24 : decode cX10_flakyOf 24 = .ok (.getfield 93, 3) := by decide +kernel
theorem dX10_flakyOf_27 : decode cX10_flakyOf 27 = .ok (.iload_n 1, 1) := by decide +kernel
theorem dX10_flakyOf_28 : decode cX10_flakyOf 28 = .ok (.aaload, 1) := by decide +kernel
theorem dX10_flakyOf_29 : decode cX10_flakyOf 29 = .ok (.iload_n 3, 1) := by decide +kernel
theorem dX10_flakyOf_30 : decode cX10_flakyOf 30 = .ok (.iconst 1, 1) := by decide +kernel
theorem dX10_flakyOf_31 : decode cX10_flakyOf 31 = .ok (.isub, 1) := by decide +kernel
theorem dX10_flakyOf_32 : decode cX10_flakyOf 32 = .ok (.baload, 1) := by decide +kernel
theorem dX10_flakyOf_33 : decode cX10_flakyOf 33 = .ok (.if_icmp .eq 7, 3) := by decide +kernel
theorem dX10_flakyOf_36 : decode cX10_flakyOf 36 = .ok (.iconst 1, 1) := by decide +kernel
theorem dX10_flakyOf_37 : decode cX10_flakyOf 37 = .ok (.goto 4, 3) := by decide +kernel
theorem dX10_flakyOf_40 : decode cX10_flakyOf 40 = .ok (.iconst 0, 1) := by decide +kernel
theorem dX10_flakyOf_41 : decode cX10_flakyOf 41 = .ok (.iadd, 1) := by decide +kernel
theorem dX10_flakyOf_42 : decode cX10_flakyOf 42 = .ok (.istore_n 2, 1) := by decide +kernel
theorem dX10_flakyOf_43 : decode cX10_flakyOf 43 = .ok (.iinc 3 1, 3) := by decide +kernel
theorem dX10_flakyOf_46 : decode cX10_flakyOf 46 = .ok (.goto (-42), 3) := by decide +kernel
theorem dX10_flakyOf_49 : decode cX10_flakyOf 49 = .ok (.iload_n 2, 1) := by decide +kernel
theorem dX10_flakyOf_50 : decode cX10_flakyOf 50 = .ok (.ireturn, 1) := by decide +kernel
theorem dX10_flaky_0 : decode cX10_flaky 0 = .ok (.aload_n 0, 1) := by decide +kernel
theorem dX10_flaky_1 : decode cX10_flaky 1 = .ok (.iload_n 1, 1) := by decide +kernel
theorem dX10_flaky_2 : decode cX10_flaky 2 = .ok (.invokevirtual 174, 3) := by decide +kernel
theorem dX10_flaky_5 : decode cX10_flaky 5 = .ok (.ifCond .eq 7, 3) := by decide +kernel
theorem dX10_flaky_8 : decode cX10_flaky 8 = .ok (.iconst 0, 1) := by decide +kernel
theorem dX10_flaky_9 : decode cX10_flaky 9 = .ok (.goto 8, 3) := by decide +kernel
theorem dX10_flaky_12 : decode cX10_flaky 12 = .ok (.aload_n 0, 1) := by decide +kernel
theorem dX10_flaky_13 : decode cX10_flaky 13 = .ok (.iload_n 1, 1) := by decide +kernel
theorem dX10_flaky_14 : decode cX10_flaky 14 = .ok (.invokevirtual 194, 3) := by decide +kernel
theorem dX10_flaky_17 : decode cX10_flaky 17 = .ok (.ireturn, 1) := by decide +kernel
theorem dX10_flakiest_0 : decode cX10_flakiest 0 = .ok (.aload_n 0, 1) := by decide +kernel
theorem dX10_flakiest_1 : decode cX10_flakiest 1 = .ok (.aload_n 0, 1) := by decide +kernel
theorem dX10_flakiest_2 : decode cX10_flakiest 2 = .ok (.getfield 171, 3) := by decide +kernel
theorem dX10_flakiest_5 : decode cX10_flakiest 5 = .ok (.ifCond .ne 7, 3) := by decide +kernel
theorem dX10_flakiest_8 : decode cX10_flakiest 8 = .ok (.iconst 1, 1) := by decide +kernel
theorem dX10_flakiest_9 : decode cX10_flakiest 9 = .ok (.goto 4, 3) := by decide +kernel
theorem dX10_flakiest_12 : decode cX10_flakiest 12 = .ok (.iconst 0, 1) := by decide +kernel
theorem dX10_flakiest_13 : decode cX10_flakiest 13 = .ok (.putfield 109, 3) := by decide +kernel
theorem dX10_flakiest_16 : decode cX10_flakiest 16 = .ok (.iconst 0, 1) := by decide +kernel
theorem dX10_flakiest_17 : decode cX10_flakiest 17 = .ok (.istore_n 1, 1) := by decide +kernel
theorem dX10_flakiest_18 : decode cX10_flakiest 18 = .ok (.iconst 1, 1) := by decide +kernel
theorem dX10_flakiest_19 : decode cX10_flakiest 19 = .ok (.istore_n 2, 1) := by decide +kernel
theorem dX10_flakiest_20 : decode cX10_flakiest 20 = .ok (.iload_n 2, 1) := by decide +kernel
theorem dX10_flakiest_21 : decode cX10_flakiest 21 = .ok (.aload_n 0, 1) := by decide +kernel
theorem dX10_flakiest_22 : decode cX10_flakiest 22 = .ok (.getfield 171, 3) := by decide +kernel
theorem dX10_flakiest_25 : decode cX10_flakiest 25 = .ok (.if_icmp .ge 28, 3) := by decide +kernel
theorem dX10_flakiest_28 : decode cX10_flakiest 28 = .ok (.aload_n 0, 1) := by decide +kernel
theorem dX10_flakiest_29 : decode cX10_flakiest 29 = .ok (.iload_n 2, 1) := by decide +kernel
theorem dX10_flakiest_30 : decode cX10_flakiest 30 = .ok (.invokevirtual 194, 3) := by decide +kernel
theorem dX10_flakiest_33 : decode cX10_flakiest 33 = .ok (.aload_n 0, 1) := by decide +kernel
theorem dX10_flakiest_34 : decode cX10_flakiest 34 = .ok (.iload_n 1, 1) := by decide +kernel
theorem dX10_flakiest_35 : decode cX10_flakiest 35 = .ok (.invokevirtual 194, 3) := by decide +kernel
theorem dX10_flakiest_38 : decode cX10_flakiest 38 = .ok (.if_icmp .le 7, 3) := by decide +kernel
theorem dX10_flakiest_41 : decode cX10_flakiest 41 = .ok (.iload_n 2, 1) := by decide +kernel
theorem dX10_flakiest_42 : decode cX10_flakiest 42 = .ok (.goto 4, 3) := by decide +kernel
theorem dX10_flakiest_45 : decode cX10_flakiest 45 = .ok (.iload_n 1, 1) := by decide +kernel
theorem dX10_flakiest_46 : decode cX10_flakiest 46 = .ok (.istore_n 1, 1) := by decide +kernel
theorem dX10_flakiest_47 : decode cX10_flakiest 47 = .ok (.iinc 2 1, 3) := by decide +kernel
theorem dX10_flakiest_50 : decode cX10_flakiest 50 = .ok (.goto (-30), 3) := by decide +kernel
theorem dX10_flakiest_53 : decode cX10_flakiest 53 = .ok (.aload_n 0, 1) := by decide +kernel
theorem dX10_flakiest_54 : decode cX10_flakiest 54 = .ok (.getfield 109, 3) := by decide +kernel
theorem dX10_flakiest_57 : decode cX10_flakiest 57 = .ok (.ifCond .le 7, 3) := by decide +kernel
theorem dX10_flakiest_60 : decode cX10_flakiest 60 = .ok (.iconst 0, 1) := by decide +kernel
theorem dX10_flakiest_61 : decode cX10_flakiest 61 = .ok (.goto 4, 3) := by decide +kernel
theorem dX10_flakiest_64 : decode cX10_flakiest 64 = .ok (.iload_n 1, 1) := by decide +kernel
theorem dX10_flakiest_65 : decode cX10_flakiest 65 = .ok (.ireturn, 1) := by decide +kernel
theorem dX10_can_0 : decode cX10_can 0 = .ok (.aload_n 0, 1) := by decide +kernel
theorem dX10_can_1 : decode cX10_can 1 = .ok (.getfield 43, 3) := by decide +kernel
theorem dX10_can_4 : decode cX10_can 4 = .ok (.iload_n 1, 1) := by decide +kernel
theorem dX10_can_5 : decode cX10_can 5 = .ok (.baload, 1) := by decide +kernel
theorem dX10_can_6 : decode cX10_can 6 = .ok (.ifCond .eq 45, 3) := by decide +kernel
theorem dX10_can_9 : decode cX10_can 9 = .ok (.aload_n 0, 1) := by decide +kernel
theorem dX10_can_10 : decode cX10_can 10 = .ok (.getfield 13, 3) := by decide +kernel
theorem dX10_can_13 : decode cX10_can 13 = .ok (.iload_n 1, 1) := by decide +kernel
theorem dX10_can_14 : decode cX10_can 14 = .ok (.iaload, 1) := by decide +kernel
theorem dX10_can_15 : decode cX10_can 15 = .ok (.aload_n 0, 1) := by decide +kernel
theorem dX10_can_16 : decode cX10_can 16 = .ok (.getfield 49, 3) := by decide +kernel
theorem dX10_can_19 : decode cX10_can 19 = .ok (.iload_n 1, 1) := by decide +kernel
theorem dX10_can_20 : decode cX10_can 20 = .ok (.iaload, 1) := by decide +kernel
theorem dX10_can_21 : decode cX10_can 21 = .ok (.if_icmp .ne 30, 3) := by decide +kernel
theorem dX10_can_24 : decode cX10_can 24 = .ok (.aload_n 0, 1) := by decide +kernel
theorem dX10_can_25 : decode cX10_can 25 = .ok (.getfield 16, 3) := by decide +kernel
theorem dX10_can_28 : decode cX10_can 28 = .ok (.iload_n 1, 1) := by decide +kernel
theorem dX10_can_29 : decode cX10_can 29 = .ok (.iaload, 1) := by decide +kernel
theorem dX10_can_30 : decode cX10_can 30 = .ok (.aload_n 0, 1) := by decide +kernel
theorem dX10_can_31 : decode cX10_can 31 = .ok (.getfield 52, 3) := by decide +kernel
theorem dX10_can_34 : decode cX10_can 34 = .ok (.iload_n 1, 1) := by decide +kernel
theorem dX10_can_35 : decode cX10_can 35 = .ok (.iaload, 1) := by decide +kernel
theorem dX10_can_36 : decode cX10_can 36 = .ok (.if_icmp .ne 15, 3) := by decide +kernel
theorem dX10_can_39 : decode cX10_can 39 = .ok (.aload_n 0, 1) := by decide +kernel
theorem dX10_can_40 : decode cX10_can 40 = .ok (.iload_n 1, 1) := by decide +kernel
theorem dX10_can_41 : decode cX10_can 41 = .ok (.invokevirtual 152, 3) := by decide +kernel
theorem dX10_can_44 : decode cX10_can 44 = .ok (.ifCond .eq 7, 3) := by decide +kernel
theorem dX10_can_47 : decode cX10_can 47 = .ok (.iconst 1, 1) := by decide +kernel
theorem dX10_can_48 : decode cX10_can 48 = .ok (.goto 4, 3) := by decide +kernel
theorem dX10_can_51 : decode cX10_can 51 = .ok (.iconst 0, 1) := by decide +kernel
theorem dX10_can_52 : decode cX10_can 52 = .ok (.istore_n 2, 1) := by decide +kernel
theorem dX10_can_53 : decode cX10_can 53 = .ok (.iconst 0, 1) := by decide +kernel
theorem dX10_can_54 : decode cX10_can 54 = .ok (.istore_n 3, 1) := by decide +kernel
theorem dX10_can_55 : decode cX10_can 55 = .ok (.iload_n 3, 1) := by decide +kernel
theorem dX10_can_56 : decode cX10_can 56 = .ok (.bipush 6, 2) := by decide +kernel
theorem dX10_can_58 : decode cX10_can 58 = .ok (.if_icmp .ge 73, 3) := by decide +kernel
theorem dX10_can_61 : decode cX10_can 61 = .ok (.iload_n 2, 1) := by decide +kernel
theorem dX10_can_62 : decode cX10_can 62 = .ok (.ifCond .eq 69, 3) := by decide +kernel
theorem dX10_can_65 : decode cX10_can 65 = .ok (.aload_n 0, 1) := by decide +kernel
theorem dX10_can_66 : decode cX10_can 66 = .ok (.iload_n 3, 1) := by decide +kernel
theorem dX10_can_67 : decode cX10_can 67 = .ok (.invokevirtual 155, 3) := by decide +kernel
theorem dX10_can_70 : decode cX10_can 70 = .ok (.aload_n 0, 1) := by decide +kernel
theorem dX10_can_71 : decode cX10_can 71 = .ok (.getfield 46, 3) := by decide +kernel
theorem dX10_can_74 : decode cX10_can 74 = .ok (.iload_n 1, 1) := by decide +kernel
theorem dX10_can_75 : decode cX10_can 75 = .ok (.aaload, 1) := by decide +kernel
theorem dX10_can_76 : decode cX10_can 76 = .ok (.iload_n 3, 1) := by decide +kernel
theorem dX10_can_77 : decode cX10_can 77 = .ok (.iaload, 1) := by decide +kernel
theorem dX10_can_78 : decode cX10_can 78 = .ok (.if_icmp .ne 45, 3) := by decide +kernel
theorem dX10_can_81 : decode cX10_can 81 = .ok (.aload_n 0, 1) := by decide +kernel
theorem dX10_can_82 : decode cX10_can 82 = .ok (.getfield 21, 3) := by decide +kernel
theorem dX10_can_85 : decode cX10_can 85 = .ok (.iload_n 1, 1) := by decide +kernel
theorem dX10_can_86 : decode cX10_can 86 = .ok (.aaload, 1) := by decide +kernel
theorem dX10_can_87 : decode cX10_can 87 = .ok (.iload_n 3, 1) := by decide +kernel
theorem dX10_can_88 : decode cX10_can 88 = .ok (.iaload, 1) := by decide +kernel
theorem dX10_can_89 : decode cX10_can 89 = .ok (.aload_n 0, 1) := by decide +kernel
theorem dX10_can_90 : decode cX10_can 90 = .ok (.getfield 55, 3) := by decide +kernel
theorem dX10_can_93 : decode cX10_can 93 = .ok (.iload_n 1, 1) := by decide +kernel
theorem dX10_can_94 : decode cX10_can 94 = .ok (.aaload, 1) := by decide +kernel
theorem dX10_can_95 : decode cX10_can 95 = .ok (.iload_n 3, 1) := by decide +kernel
theorem dX10_can_96 : decode cX10_can 96 = .ok (.iaload, 1) := by decide +kernel
theorem dX10_can_97 : decode cX10_can 97 = .ok (.if_icmp .ne 26, 3) := by decide +kernel
theorem dX10_can_100 : decode cX10_can 100 = .ok (.aload_n 0, 1) := by decide +kernel
theorem dX10_can_101 : decode cX10_can 101 = .ok (.getfield 24, 3) := by decide +kernel
theorem dX10_can_104 : decode cX10_can 104 = .ok (.iload_n 1, 1) := by decide +kernel
theorem dX10_can_105 : decode cX10_can 105 = .ok (.aaload, 1) := by decide +kernel
theorem dX10_can_106 : decode cX10_can 106 = .ok (.iload_n 3, 1) := by decide +kernel
theorem dX10_can_107 : decode cX10_can 107 = .ok (.iaload, 1) := by decide +kernel
theorem dX10_can_108 : decode cX10_can 108 = .ok (.aload_n 0, 1) := by decide +kernel
theorem dX10_can_109 : decode cX10_can 109 = .ok (.getfield 58, 3) := by decide +kernel
theorem dX10_can_112 : decode cX10_can 112 = .ok (.iload_n 1, 1) := by decide +kernel
theorem dX10_can_113 : decode cX10_can 113 = .ok (.aaload, 1) := by decide +kernel
theorem dX10_can_114 : decode cX10_can 114 = .ok (.iload_n 3, 1) := by decide +kernel
theorem dX10_can_115 : decode cX10_can 115 = .ok (.iaload, 1) := by decide +kernel
theorem dX10_can_116 : decode cX10_can 116 = .ok (.if_icmp .ne 7, 3) := by decide +kernel
theorem dX10_can_119 : decode cX10_can 119 = .ok (.iconst 1, 1) := by decide +kernel
theorem dX10_can_120 : decode cX10_can 120 = .ok (.goto 4, 3) := by decide +kernel
theorem dX10_can_123 : decode cX10_can 123 = .ok (.iconst 0, 1) := by decide +kernel
theorem dX10_can_124 : decode cX10_can 124 = .ok (.istore_n 2, 1) := by decide +kernel
theorem dX10_can_125 : decode cX10_can 125 = .ok (.iinc 3 1, 3) := by decide +kernel
theorem dX10_can_128 : decode cX10_can 128 = .ok (.goto (-73), 3) := by decide +kernel
theorem dX10_can_131 : decode cX10_can 131 = .ok (.iload_n 2, 1) := by decide +kernel
theorem dX10_can_132 : decode cX10_can 132 = .ok (.ireturn, 1) := by decide +kernel
theorem dX10_canPublish_0 : decode cX10_canPublish 0 = .ok (.aload_n 0, 1) := by decide +kernel
theorem dX10_canPublish_1 : decode cX10_canPublish 1 = .ok (.iload_n 1, 1) := by decide +kernel
theorem dX10_canPublish_2 : decode cX10_canPublish 2 = .ok (.invokevirtual 123, 3) := by decide +kernel
theorem dX10_canPublish_5 : decode cX10_canPublish 5 = .ok (.ifCond .ne 15, 3) := by decide +kernel
theorem dX10_canPublish_8 : decode cX10_canPublish 8 = .ok (.aload_n 0, 1) := by decide +kernel
theorem dX10_canPublish_9 : decode cX10_canPublish 9 = .ok (.iload_n 1, 1) := by decide +kernel
theorem dX10_canPublish_10 : decode cX10_canPublish 10 = .ok (.invokevirtual 197, 3) := by decide +kernel
theorem dX10_canPublish_13 : decode cX10_canPublish 13 = .ok (.ifCond .eq 7, 3) := by decide +kernel
theorem dX10_canPublish_16 : decode cX10_canPublish 16 = .ok (.iconst 1, 1) := by decide +kernel
theorem dX10_canPublish_17 : decode cX10_canPublish 17 = .ok (.goto 4, 3) := by decide +kernel
theorem dX10_canPublish_20 : decode cX10_canPublish 20 = .ok (.iconst 0, 1) := by decide +kernel
theorem dX10_canPublish_21 : decode cX10_canPublish 21 = .ok (.ireturn, 1) := by decide +kernel
theorem dX10_last_0 : decode cX10_last 0 = .ok (.iconst (-1), 1) := by decide +kernel
theorem dX10_last_1 : decode cX10_last 1 = .ok (.istore_n 2, 1) := by decide +kernel
theorem dX10_last_2 : decode cX10_last 2 = .ok (.iconst 0, 1) := by decide +kernel
theorem dX10_last_3 : decode cX10_last 3 = .ok (.istore_n 3, 1) := by decide +kernel
theorem dX10_last_4 : decode cX10_last 4 = .ok (.iload_n 3, 1) := by decide +kernel
theorem dX10_last_5 : decode cX10_last 5 = .ok (.aload_n 0, 1) := by decide +kernel
theorem dX10_last_6 : decode cX10_last 6 = .ok (.getfield 146, 3) := by decide +kernel
theorem dX10_last_9 : decode cX10_last 9 = .ok (.if_icmp .ge 25, 3) := by decide +kernel
theorem dX10_last_12 : decode cX10_last 12 = .ok (.aload_n 0, 1) := by decide +kernel
theorem dX10_last_13 : decode cX10_last 13 = .ok (.getfield 61, 3) := by decide +kernel
theorem dX10_last_16 : decode cX10_last 16 = .ok (.iload_n 3, 1) := by decide +kernel
theorem dX10_last_17 : decode cX10_last 17 = .ok (.iaload, 1) := by decide +kernel
theorem dX10_last_18 : decode cX10_last 18 = .ok (.iload_n 1, 1) := by decide +kernel
theorem dX10_last_19 : decode cX10_last 19 = .ok (.if_icmp .ne 7, 3) := by decide +kernel
theorem dX10_last_22 : decode cX10_last 22 = .ok (.iload_n 3, 1) := by decide +kernel
theorem dX10_last_23 : decode cX10_last 23 = .ok (.goto 4, 3) := by decide +kernel
theorem dX10_last_26 : decode cX10_last 26 = .ok (.iload_n 2, 1) := by decide +kernel
theorem dX10_last_27 : decode cX10_last 27 = .ok (.istore_n 2, 1) := by decide +kernel
theorem dX10_last_28 : decode cX10_last 28 = .ok (.iinc 3 1, 3) := by decide +kernel
theorem dX10_last_31 : decode cX10_last 31 = .ok (.goto (-27), 3) := by decide +kernel
theorem dX10_last_34 : decode cX10_last 34 = .ok (.iload_n 2, 1) := by decide +kernel
theorem dX10_last_35 : decode cX10_last 35 = .ok (.ireturn, 1) := by decide +kernel
theorem dX10_next_0 : decode cX10_next 0 = .ok (.aload_n 0, 1) := by decide +kernel
theorem dX10_next_1 : decode cX10_next 1 = .ok (.iload_n 1, 1) := by decide +kernel
theorem dX10_next_2 : decode cX10_next 2 = .ok (.invokevirtual 200, 3) := by decide +kernel
theorem dX10_next_5 : decode cX10_next 5 = .ok (.istore_n 2, 1) := by decide +kernel
theorem dX10_next_6 : decode cX10_next 6 = .ok (.iload_n 2, 1) := by decide +kernel
theorem dX10_next_7 : decode cX10_next 7 = .ok (.iconst (-1), 1) := by decide +kernel
theorem dX10_next_8 : decode cX10_next 8 = .ok (.if_icmp .ne 6, 3) := by decide +kernel
theorem dX10_next_11 : decode cX10_next 11 = .ok (.bipush 100, 2) := by decide +kernel
theorem dX10_next_13 : decode cX10_next 13 = .ok (.ireturn, 1) := by decide +kernel
theorem dX10_next_14 : decode cX10_next 14 = .ok (.aload_n 0, 1) := by decide +kernel
theorem dX10_next_15 : decode cX10_next 15 = .ok (.getfield 64, 3) := by decide +kernel
theorem dX10_next_18 : decode cX10_next 18 = .ok (.iload_n 2, 1) := by decide +kernel
theorem dX10_next_19 : decode cX10_next 19 = .ok (.iaload, 1) := by decide +kernel
theorem dX10_next_20 : decode cX10_next 20 = .ok (.istore_n 3, 1) := by decide +kernel
theorem dX10_next_21 : decode cX10_next 21 = .ok (.aload_n 0, 1) := by decide +kernel
theorem dX10_next_22 : decode cX10_next 22 = .ok (.getfield 67, 3) := by decide +kernel
theorem dX10_next_25 : decode cX10_next 25 = .ok (.iload_n 2, 1) := by decide +kernel
theorem dX10_next_26 : decode cX10_next 26 = .ok (.iaload, 1) := by decide +kernel
theorem dX10_next_27 : decode cX10_next 27 = .ok (.aload_n 0, 1) := by decide +kernel
theorem dX10_next_28 : decode cX10_next 28 = .ok (.getfield 13, 3) := by decide +kernel
theorem dX10_next_31 : decode cX10_next 31 = .ok (.iload_n 1, 1) := by decide +kernel
theorem dX10_next_32 : decode cX10_next 32 = .ok (.iaload, 1) := by decide +kernel
theorem dX10_next_33 : decode cX10_next 33 = .ok (.if_icmp .eq 16, 3) := by decide +kernel
theorem dX10_next_36 : decode cX10_next 36 = .ok (.iload_n 3, 1) := by decide +kernel
theorem dX10_next_37 : decode cX10_next 37 = .ok (.bipush 100, 2) := by decide +kernel
theorem dX10_next_39 : decode cX10_next 39 = .ok (.idiv, 1) := by decide +kernel
theorem dX10_next_40 : decode cX10_next 40 = .ok (.bipush 100, 2) := by decide +kernel
theorem dX10_next_42 : decode cX10_next 42 = .ok (.imul, 1) := by decide +kernel
theorem dX10_next_43 : decode cX10_next 43 = .ok (.bipush 100, 2) := by decide +kernel
theorem dX10_next_45 : decode cX10_next 45 = .ok (.iadd, 1) := by decide +kernel
theorem dX10_next_46 : decode cX10_next 46 = .ok (.goto 6, 3) := by decide +kernel
theorem dX10_next_49 : decode cX10_next 49 = .ok (.iload_n 3, 1) := by decide +kernel
theorem dX10_next_50 : decode cX10_next 50 = .ok (.iconst 1, 1) := by decide +kernel
theorem dX10_next_51 : decode cX10_next 51 = .ok (.iadd, 1) := by decide +kernel
theorem dX10_next_52 : decode cX10_next 52 = .ok (.ireturn, 1) := by decide +kernel
theorem dX10_nextVersion_0 : decode cX10_nextVersion 0 = .ok (.aload_n 0, 1) := by decide +kernel
theorem dX10_nextVersion_1 : decode cX10_nextVersion 1 = .ok (.iload_n 1, 1) := by decide +kernel
theorem dX10_nextVersion_2 : decode cX10_nextVersion 2 = .ok (.invokevirtual 123, 3) := by decide +kernel
theorem dX10_nextVersion_5 : decode cX10_nextVersion 5 = .ok (.ifCond .eq 7, 3) := by decide +kernel
theorem dX10_nextVersion_8 : decode cX10_nextVersion 8 = .ok (.iconst 0, 1) := by decide +kernel
theorem dX10_nextVersion_9 : decode cX10_nextVersion 9 = .ok (.goto 8, 3) := by decide +kernel
theorem dX10_nextVersion_12 : decode cX10_nextVersion 12 = .ok (.aload_n 0, 1) := by decide +kernel
theorem dX10_nextVersion_13 : decode cX10_nextVersion 13 = .ok (.iload_n 1, 1) := by decide +kernel
theorem dX10_nextVersion_14 : decode cX10_nextVersion 14 = .ok (.invokevirtual 203, 3) := by decide +kernel
theorem dX10_nextVersion_17 : decode cX10_nextVersion 17 = .ok (.ireturn, 1) := by decide +kernel
theorem dX10_publish_0 : decode cX10_publish 0 = .ok (.aload_n 0, 1) := by decide +kernel
theorem dX10_publish_1 : decode cX10_publish 1 = .ok (.iload_n 1, 1) := by decide +kernel
theorem dX10_publish_2 : decode cX10_publish 2 = .ok (.invokevirtual 123, 3) := by decide +kernel
theorem dX10_publish_5 : decode cX10_publish 5 = .ok (.ifCond .eq 5, 3) := by decide +kernel
theorem dX10_publish_8 : decode cX10_publish 8 = .ok (.iconst 0, 1) := by decide +kernel
theorem dX10_publish_9 : decode cX10_publish 9 = .ok (.ireturn, 1) := by decide +kernel
theorem dX10_publish_10 : decode cX10_publish 10 = .ok (.aload_n 0, 1) := by decide +kernel
theorem dX10_publish_11 : decode cX10_publish 11 = .ok (.aload_n 0, 1) := by decide +kernel
theorem dX10_publish_12 : decode cX10_publish 12 = .ok (.iload_n 1, 1) := by decide +kernel
theorem dX10_publish_13 : decode cX10_publish 13 = .ok (.invokevirtual 197, 3) := by decide +kernel
theorem dX10_publish_16 : decode cX10_publish 16 = .ok (.ifCond .eq 14, 3) := by decide +kernel
theorem dX10_publish_19 : decode cX10_publish 19 = .ok (.aload_n 0, 1) := by decide +kernel
theorem dX10_publish_20 : decode cX10_publish 20 = .ok (.iload_n 1, 1) := by decide +kernel
theorem dX10_publish_21 : decode cX10_publish 21 = .ok (.invokevirtual 203, 3) := by decide +kernel
theorem dX10_publish_24 : decode cX10_publish 24 = .ok (.sipush 999, 3) := by decide +kernel
theorem dX10_publish_27 : decode cX10_publish 27 = .ok (.if_icmp .le 7, 3) := by decide +kernel
theorem dX10_publish_30 : decode cX10_publish 30 = .ok (.iconst 2, 1) := by decide +kernel
theorem dX10_publish_31 : decode cX10_publish 31 = .ok (.goto 17, 3) := by decide +kernel
theorem dX10_publish_34 : decode cX10_publish 34 = .ok (.aload_n 0, 1) := by decide +kernel
theorem dX10_publish_35 : decode cX10_publish 35 = .ok (.getfield 146, 3) := by decide +kernel
theorem dX10_publish_38 : decode cX10_publish 38 = .ok (.bipush 20, 2) := by decide +kernel
theorem dX10_publish_40 : decode cX10_publish 40 = .ok (.if_icmp .ne 7, 3) := by decide +kernel
theorem dX10_publish_43 : decode cX10_publish 43 = .ok (.iconst 3, 1) := by decide +kernel
theorem dX10_publish_44 : decode cX10_publish 44 = .ok (.goto 4, 3) := by decide +kernel
theorem dX10_publish_47 : decode cX10_publish 47 = .ok (.iconst 0, 1) := by decide +kernel
theorem dX10_publish_48 : decode cX10_publish 48 = .ok (.putfield 109, 3) := by decide +kernel
theorem dX10_publish_51 : decode cX10_publish 51 = .ok (.aload_n 0, 1) := by decide +kernel
theorem dX10_publish_52 : decode cX10_publish 52 = .ok (.getfield 109, 3) := by decide +kernel
theorem dX10_publish_55 : decode cX10_publish 55 = .ok (.ifCond .le 5, 3) := by decide +kernel
theorem dX10_publish_58 : decode cX10_publish 58 = .ok (.iconst 0, 1) := by decide +kernel
theorem dX10_publish_59 : decode cX10_publish 59 = .ok (.ireturn, 1) := by decide +kernel
theorem dX10_publish_60 : decode cX10_publish 60 = .ok (.aload_n 0, 1) := by decide +kernel
theorem dX10_publish_61 : decode cX10_publish 61 = .ok (.iload_n 1, 1) := by decide +kernel
theorem dX10_publish_62 : decode cX10_publish 62 = .ok (.invokevirtual 203, 3) := by decide +kernel
theorem dX10_publish_65 : decode cX10_publish 65 = .ok (.istore_n 2, 1) := by decide +kernel
theorem dX10_publish_66 : decode cX10_publish 66 = .ok (.aload_n 0, 1) := by decide +kernel
theorem dX10_publish_67 : decode cX10_publish 67 = .ok (.getfield 61, 3) := by decide +kernel
theorem dX10_publish_70 : decode cX10_publish 70 = .ok (.aload_n 0, 1) := by decide +kernel
theorem dX10_publish_71 : decode cX10_publish 71 = .ok (.getfield 146, 3) := by decide +kernel
theorem dX10_publish_74 : decode cX10_publish 74 = .ok (.iload_n 1, 1) := by decide +kernel
theorem dX10_publish_75 : decode cX10_publish 75 = .ok (.iastore, 1) := by decide +kernel
theorem dX10_publish_76 : decode cX10_publish 76 = .ok (.aload_n 0, 1) := by decide +kernel
theorem dX10_publish_77 : decode cX10_publish 77 = .ok (.getfield 64, 3) := by decide +kernel
theorem dX10_publish_80 : decode cX10_publish 80 = .ok (.aload_n 0, 1) := by decide +kernel
theorem dX10_publish_81 : decode cX10_publish 81 = .ok (.getfield 146, 3) := by decide +kernel
theorem dX10_publish_84 : decode cX10_publish 84 = .ok (.iload_n 2, 1) := by decide +kernel
theorem dX10_publish_85 : decode cX10_publish 85 = .ok (.iastore, 1) := by decide +kernel
theorem dX10_publish_86 : decode cX10_publish 86 = .ok (.aload_n 0, 1) := by decide +kernel
theorem dX10_publish_87 : decode cX10_publish 87 = .ok (.getfield 67, 3) := by decide +kernel
theorem dX10_publish_90 : decode cX10_publish 90 = .ok (.aload_n 0, 1) := by decide +kernel
theorem dX10_publish_91 : decode cX10_publish 91 = .ok (.getfield 146, 3) := by decide +kernel
theorem dX10_publish_94 : decode cX10_publish 94 = .ok (.aload_n 0, 1) := by decide +kernel
theorem dX10_publish_95 : decode cX10_publish 95 = .ok (.getfield 13, 3) := by decide +kernel
theorem dX10_publish_98 : decode cX10_publish 98 = .ok (.iload_n 1, 1) := by decide +kernel
theorem dX10_publish_99 : decode cX10_publish 99 = .ok (.iaload, 1) := by decide +kernel
theorem dX10_publish_100 : decode cX10_publish 100 = .ok (.iastore, 1) := by decide +kernel
theorem dX10_publish_101 : decode cX10_publish 101 = .ok (.iconst 0, 1) := by decide +kernel
theorem dX10_publish_102 : decode cX10_publish 102 = .ok (.istore_n 3, 1) := by decide +kernel
theorem dX10_publish_103 : decode cX10_publish 103 = .ok (.iload_n 3, 1) := by decide +kernel
theorem dX10_publish_104 : decode cX10_publish 104 = .ok (.bipush 6, 2) := by decide +kernel
theorem dX10_publish_106 : decode cX10_publish 106 = .ok (.if_icmp .ge 63, 3) := by decide +kernel
theorem dX10_publish_109 : decode cX10_publish 109 = .ok (.aload_n 0, 1) := by decide +kernel
theorem dX10_publish_110 : decode cX10_publish 110 = .ok (.getfield 70, 3) := by decide +kernel
theorem dX10_publish_113 : decode cX10_publish 113 = .ok (.aload_n 0, 1) := by decide +kernel
theorem dX10_publish_114 : decode cX10_publish 114 = .ok (.getfield 146, 3) := by decide +kernel
theorem dX10_publish_117 : decode cX10_publish 117 = .ok (.aaload, 1) := by decide +kernel
theorem dX10_publish_118 : decode cX10_publish 118 = .ok (.iload_n 3, 1) := by decide +kernel
theorem dX10_publish_119 : decode cX10_publish 119 = .ok (.aload_n 0, 1) := by decide +kernel
theorem dX10_publish_120 : decode cX10_publish 120 = .ok (.getfield 21, 3) := by decide +kernel
theorem dX10_publish_123 : decode cX10_publish 123 = .ok (.iload_n 1, 1) := by decide +kernel
theorem dX10_publish_124 : decode cX10_publish 124 = .ok (.aaload, 1) := by decide +kernel
theorem dX10_publish_125 : decode cX10_publish 125 = .ok (.iload_n 3, 1) := by decide +kernel
theorem dX10_publish_126 : decode cX10_publish 126 = .ok (.iaload, 1) := by decide +kernel
theorem dX10_publish_127 : decode cX10_publish 127 = .ok (.iastore, 1) := by decide +kernel
theorem dX10_publish_128 : decode cX10_publish 128 = .ok (.aload_n 0, 1) := by decide +kernel
theorem dX10_publish_129 : decode cX10_publish 129 = .ok (.getfield 73, 3) := by decide +kernel
theorem dX10_publish_132 : decode cX10_publish 132 = .ok (.aload_n 0, 1) := by decide +kernel
theorem dX10_publish_133 : decode cX10_publish 133 = .ok (.getfield 146, 3) := by decide +kernel
theorem dX10_publish_136 : decode cX10_publish 136 = .ok (.aaload, 1) := by decide +kernel
theorem dX10_publish_137 : decode cX10_publish 137 = .ok (.iload_n 3, 1) := by decide +kernel
theorem dX10_publish_138 : decode cX10_publish 138 = .ok (.aload_n 0, 1) := by decide +kernel
theorem dX10_publish_139 : decode cX10_publish 139 = .ok (.getfield 24, 3) := by decide +kernel
theorem dX10_publish_142 : decode cX10_publish 142 = .ok (.iload_n 1, 1) := by decide +kernel
theorem dX10_publish_143 : decode cX10_publish 143 = .ok (.aaload, 1) := by decide +kernel
theorem dX10_publish_144 : decode cX10_publish 144 = .ok (.iload_n 3, 1) := by decide +kernel
theorem dX10_publish_145 : decode cX10_publish 145 = .ok (.iaload, 1) := by decide +kernel
theorem dX10_publish_146 : decode cX10_publish 146 = .ok (.iastore, 1) := by decide +kernel
theorem dX10_publish_147 : decode cX10_publish 147 = .ok (.aload_n 0, 1) := by decide +kernel
theorem dX10_publish_148 : decode cX10_publish 148 = .ok (.getfield 76, 3) := by decide +kernel
theorem dX10_publish_151 : decode cX10_publish 151 = .ok (.aload_n 0, 1) := by decide +kernel
theorem dX10_publish_152 : decode cX10_publish 152 = .ok (.getfield 146, 3) := by decide +kernel
theorem dX10_publish_155 : decode cX10_publish 155 = .ok (.aaload, 1) := by decide +kernel
theorem dX10_publish_156 : decode cX10_publish 156 = .ok (.iload_n 3, 1) := by decide +kernel
theorem dX10_publish_157 : decode cX10_publish 157 = .ok (.aload_n 0, 1) := by decide +kernel
theorem dX10_publish_158 : decode cX10_publish 158 = .ok (.iload_n 3, 1) := by decide +kernel
theorem dX10_publish_159 : decode cX10_publish 159 = .ok (.invokevirtual 155, 3) := by decide +kernel
theorem dX10_publish_162 : decode cX10_publish 162 = .ok (.iastore, 1) := by decide +kernel
theorem dX10_publish_163 : decode cX10_publish 163 = .ok (.iinc 3 1, 3) := by decide +kernel
theorem dX10_publish_166 : decode cX10_publish 166 = .ok (.goto (-63), 3) := by decide +kernel
theorem dX10_publish_169 : decode cX10_publish 169 = .ok (.aload_n 0, 1) := by decide +kernel
theorem dX10_publish_170 : decode cX10_publish 170 = .ok (.dup, 1) := by decide +kernel
theorem dX10_publish_171 : decode cX10_publish 171 = .ok (.getfield 146, 3) := by decide +kernel
theorem dX10_publish_174 : decode cX10_publish 174 = .ok (.iconst 1, 1) := by decide +kernel
theorem dX10_publish_175 : decode cX10_publish 175 = .ok (.iadd, 1) := by decide +kernel
theorem dX10_publish_176 : decode cX10_publish 176 = .ok (.putfield 146, 3) := by decide +kernel
theorem dX10_publish_179 : decode cX10_publish 179 = .ok (.iload_n 2, 1) := by decide +kernel
theorem dX10_publish_180 : decode cX10_publish 180 = .ok (.ireturn, 1) := by decide +kernel
theorem dX10_find_0 : decode cX10_find 0 = .ok (.iconst 0, 1) := by decide +kernel
theorem dX10_find_1 : decode cX10_find 1 = .ok (.istore_n 3, 1) := by decide +kernel
theorem dX10_find_2 : decode cX10_find 2 = .ok (.iload_n 3, 1) := by decide +kernel
theorem dX10_find_3 : decode cX10_find 3 = .ok (.aload_n 0, 1) := by decide +kernel
theorem dX10_find_4 : decode cX10_find 4 = .ok (.getfield 146, 3) := by decide +kernel
theorem dX10_find_7 : decode cX10_find 7 = .ok (.if_icmp .ge 31, 3) := by decide +kernel
theorem dX10_find_10 : decode cX10_find 10 = .ok (.aload_n 0, 1) := by decide +kernel
theorem dX10_find_11 : decode cX10_find 11 = .ok (.getfield 61, 3) := by decide +kernel
theorem dX10_find_14 : decode cX10_find 14 = .ok (.iload_n 3, 1) := by decide +kernel
theorem dX10_find_15 : decode cX10_find 15 = .ok (.iaload, 1) := by decide +kernel
theorem dX10_find_16 : decode cX10_find 16 = .ok (.iload_n 1, 1) := by decide +kernel
theorem dX10_find_17 : decode cX10_find 17 = .ok (.if_icmp .ne 15, 3) := by decide +kernel
theorem dX10_find_20 : decode cX10_find 20 = .ok (.aload_n 0, 1) := by decide +kernel
theorem dX10_find_21 : decode cX10_find 21 = .ok (.getfield 64, 3) := by decide +kernel
theorem dX10_find_24 : decode cX10_find 24 = .ok (.iload_n 3, 1) := by decide +kernel
theorem dX10_find_25 : decode cX10_find 25 = .ok (.iaload, 1) := by decide +kernel
theorem dX10_find_26 : decode cX10_find 26 = .ok (.iload_n 2, 1) := by decide +kernel
theorem dX10_find_27 : decode cX10_find 27 = .ok (.if_icmp .ne 5, 3) := by decide +kernel
theorem dX10_find_30 : decode cX10_find 30 = .ok (.iload_n 3, 1) := by decide +kernel
theorem dX10_find_31 : decode cX10_find 31 = .ok (.ireturn, 1) := by decide +kernel
theorem dX10_find_32 : decode cX10_find 32 = .ok (.iinc 3 1, 3) := by decide +kernel
theorem dX10_find_35 : decode cX10_find 35 = .ok (.goto (-33), 3) := by decide +kernel
theorem dX10_find_38 : decode cX10_find 38 = .ok (.iconst (-1), 1) := by decide +kernel
theorem dX10_find_39 : decode cX10_find 39 = .ok (.ireturn, 1) := by decide +kernel
theorem dX10_stale_0 : decode cX10_stale 0 = .ok (.iconst 0, 1) := by decide +kernel
theorem dX10_stale_1 : decode cX10_stale 1 = .ok (.istore_n 2, 1) := by decide +kernel
theorem dX10_stale_2 : decode cX10_stale 2 = .ok (.iconst 0, 1) := by decide +kernel
theorem dX10_stale_3 : decode cX10_stale 3 = .ok (.istore_n 3, 1) := by decide +kernel
theorem dX10_stale_4 : decode cX10_stale 4 = .ok (.iload_n 3, 1) := by decide +kernel
theorem dX10_stale_5 : decode cX10_stale 5 = .ok (.bipush 6, 2) := by decide +kernel
theorem dX10_stale_7 : decode cX10_stale 7 = .ok (.if_icmp .ge 65, 3) := by decide +kernel
theorem dX10_stale_10 : decode cX10_stale 10 = .ok (.aload_n 0, 1) := by decide +kernel
theorem dX10_stale_11 : decode cX10_stale 11 = .ok (.getfield 76, 3) := by decide +kernel
theorem dX10_stale_14 : decode cX10_stale 14 = .ok (.iload_n 1, 1) := by decide +kernel
theorem dX10_stale_15 : decode cX10_stale 15 = .ok (.aaload, 1) := by decide +kernel
theorem dX10_stale_16 : decode cX10_stale 16 = .ok (.iload_n 3, 1) := by decide +kernel
theorem dX10_stale_17 : decode cX10_stale 17 = .ok (.iaload, 1) := by decide +kernel
theorem dX10_stale_18 : decode cX10_stale 18 = .ok (.ifCond .ne 7, 3) := by decide +kernel
theorem dX10_stale_21 : decode cX10_stale 21 = .ok (.iconst (-1), 1) := by decide +kernel
theorem dX10_stale_22 : decode cX10_stale 22 = .ok (.goto 16, 3) := by decide +kernel
theorem dX10_stale_25 : decode cX10_stale 25 = .ok (.aload_n 0, 1) := by decide +kernel
theorem dX10_stale_26 : decode cX10_stale 26 = .ok (.iload_n 3, 1) := by decide +kernel
theorem dX10_stale_27 : decode cX10_stale 27 = .ok (.aload_n 0, 1) := by decide +kernel
theorem dX10_stale_28 : decode cX10_stale 28 = .ok (.getfield 76, 3) := by decide +kernel
theorem dX10_stale_31 : decode cX10_stale 31 = .ok (.iload_n 1, 1) := by decide +kernel
theorem dX10_stale_32 : decode cX10_stale 32 = .ok (.aaload, 1) := by decide +kernel
theorem dX10_stale_33 : decode cX10_stale 33 = .ok (.iload_n 3, 1) := by decide +kernel
theorem dX10_stale_34 : decode cX10_stale 34 = .ok (.iaload, 1) := by decide +kernel
theorem dX10_stale_35 : decode cX10_stale 35 = .ok (.invokevirtual 206, 3) := by decide +kernel
theorem dX10_stale_38 : decode cX10_stale 38 = .ok (.istore 4, 2) := by decide +kernel
theorem dX10_stale_40 : decode cX10_stale 40 = .ok (.iload_n 2, 1) := by decide +kernel
theorem dX10_stale_41 : decode cX10_stale 41 = .ok (.ifCond .ne 19, 3) := by decide +kernel
theorem dX10_stale_44 : decode cX10_stale 44 = .ok (.iload 4, 2) := by decide +kernel
theorem dX10_stale_46 : decode cX10_stale 46 = .ok (.iconst (-1), 1) := by decide +kernel
theorem dX10_stale_47 : decode cX10_stale 47 = .ok (.if_icmp .eq 17, 3) := by decide +kernel
theorem dX10_stale_50 : decode cX10_stale 50 = .ok (.aload_n 0, 1) := by decide +kernel
theorem dX10_stale_51 : decode cX10_stale 51 = .ok (.getfield 79, 3) := by decide +kernel
theorem dX10_stale_54 : decode cX10_stale 54 = .ok (.iload 4, 2) := by decide +kernel
theorem dX10_stale_56 : decode cX10_stale 56 = .ok (.baload, 1) := by decide +kernel
theorem dX10_stale_57 : decode cX10_stale 57 = .ok (.ifCond .eq 7, 3) := by decide +kernel
theorem dX10_stale_60 : decode cX10_stale 60 = .ok (.iconst 1, 1) := by decide +kernel
theorem dX10_stale_61 : decode cX10_stale 61 = .ok (.goto 4, 3) := by decide +kernel
theorem dX10_stale_64 : decode cX10_stale 64 = .ok (.iconst 0, 1) := by decide +kernel
theorem dX10_stale_65 : decode cX10_stale 65 = .ok (.istore_n 2, 1) := by decide +kernel
theorem dX10_stale_66 : decode cX10_stale 66 = .ok (.iinc 3 1, 3) := by decide +kernel
theorem dX10_stale_69 : decode cX10_stale 69 = .ok (.goto (-65), 3) := by decide +kernel
theorem dX10_stale_72 : decode cX10_stale 72 = .ok (.iload_n 2, 1) := by decide +kernel
theorem dX10_stale_73 : decode cX10_stale 73 = .ok (.ifCond .eq 16, 3) := by decide +kernel
theorem dX10_stale_76 : decode cX10_stale 76 = .ok (.aload_n 0, 1) := by decide +kernel
theorem dX10_stale_77 : decode cX10_stale 77 = .ok (.getfield 79, 3) := by decide +kernel
theorem dX10_stale_80 : decode cX10_stale 80 = .ok (.iload_n 1, 1) := by decide +kernel
theorem dX10_stale_81 : decode cX10_stale 81 = .ok (.baload, 1) := by decide +kernel
theorem dX10_stale_82 : decode cX10_stale 82 = .ok (.ifCond .ne 7, 3) := by decide +kernel
theorem dX10_stale_85 : decode cX10_stale 85 = .ok (.iconst 1, 1) := by decide +kernel
theorem dX10_stale_86 : decode cX10_stale 86 = .ok (.goto 4, 3) := by decide +kernel
theorem dX10_stale_89 : decode cX10_stale 89 = .ok (.iconst 0, 1) := by decide +kernel
theorem dX10_stale_90 : decode cX10_stale 90 = .ok (.ireturn, 1) := by decide +kernel
theorem dX10_yank_0 : decode cX10_yank 0 = .ok (.aload_n 0, 1) := by decide +kernel
theorem dX10_yank_1 : decode cX10_yank 1 = .ok (.iload_n 1, 1) := by decide +kernel
theorem dX10_yank_2 : decode cX10_yank 2 = .ok (.invokevirtual 123, 3) := by decide +kernel
theorem dX10_yank_5 : decode cX10_yank 5 = .ok (.ifCond .eq 5, 3) := by decide +kernel
theorem dX10_yank_8 : decode cX10_yank 8 = .ok (.iconst 0, 1) := by decide +kernel
theorem dX10_yank_9 : decode cX10_yank 9 = .ok (.ireturn, 1) := by decide +kernel
theorem dX10_yank_10 : decode cX10_yank 10 = .ok (.aload_n 0, 1) := by decide +kernel
theorem dX10_yank_11 : decode cX10_yank 11 = .ok (.iload_n 1, 1) := by decide +kernel
theorem dX10_yank_12 : decode cX10_yank 12 = .ok (.iload_n 2, 1) := by decide +kernel
theorem dX10_yank_13 : decode cX10_yank 13 = .ok (.invokevirtual 206, 3) := by decide +kernel
theorem dX10_yank_16 : decode cX10_yank 16 = .ok (.istore_n 3, 1) := by decide +kernel
theorem dX10_yank_17 : decode cX10_yank 17 = .ok (.aload_n 0, 1) := by decide +kernel
theorem dX10_yank_18 : decode cX10_yank 18 = .ok (.iload_n 3, 1) := by decide +kernel
theorem dX10_yank_19 : decode cX10_yank 19 = .ok (.iconst (-1), 1) := by decide +kernel
theorem dX10_yank_20 : decode cX10_yank 20 = .ok (.if_icmp .ne 7, 3) := by decide +kernel
theorem dX10_yank_23 : decode cX10_yank 23 = .ok (.iconst 2, 1) := by decide +kernel
theorem dX10_yank_24 : decode cX10_yank 24 = .ok (.goto 17, 3) := by decide +kernel
theorem dX10_yank_27 : decode cX10_yank 27 = .ok (.aload_n 0, 1) := by decide +kernel
theorem dX10_yank_28 : decode cX10_yank 28 = .ok (.getfield 79, 3) := by decide +kernel
theorem dX10_yank_31 : decode cX10_yank 31 = .ok (.iload_n 3, 1) := by decide +kernel
theorem dX10_yank_32 : decode cX10_yank 32 = .ok (.baload, 1) := by decide +kernel
theorem dX10_yank_33 : decode cX10_yank 33 = .ok (.ifCond .eq 7, 3) := by decide +kernel
theorem dX10_yank_36 : decode cX10_yank 36 = .ok (.iconst 3, 1) := by decide +kernel
theorem dX10_yank_37 : decode cX10_yank 37 = .ok (.goto 4, 3) := by decide +kernel
theorem dX10_yank_40 : decode cX10_yank 40 = .ok (.iconst 0, 1) := by decide +kernel
theorem dX10_yank_41 : decode cX10_yank 41 = .ok (.putfield 109, 3) := by decide +kernel
theorem dX10_yank_44 : decode cX10_yank 44 = .ok (.aload_n 0, 1) := by decide +kernel
theorem dX10_yank_45 : decode cX10_yank 45 = .ok (.getfield 109, 3) := by decide +kernel
theorem dX10_yank_48 : decode cX10_yank 48 = .ok (.ifCond .le 5, 3) := by decide +kernel
theorem dX10_yank_51 : decode cX10_yank 51 = .ok (.iconst 0, 1) := by decide +kernel
theorem dX10_yank_52 : decode cX10_yank 52 = .ok (.ireturn, 1) := by decide +kernel
theorem dX10_yank_53 : decode cX10_yank 53 = .ok (.aload_n 0, 1) := by decide +kernel
theorem dX10_yank_54 : decode cX10_yank 54 = .ok (.getfield 79, 3) := by decide +kernel
theorem dX10_yank_57 : decode cX10_yank 57 = .ok (.iload_n 3, 1) := by decide +kernel
theorem dX10_yank_58 : decode cX10_yank 58 = .ok (.iconst 1, 1) := by decide +kernel
theorem dX10_yank_59 : decode cX10_yank 59 = .ok (.bastore, 1) := by decide +kernel
theorem dX10_yank_60 : decode cX10_yank 60 = .ok (.iconst 0, 1) := by decide +kernel
theorem dX10_yank_61 : decode cX10_yank 61 = .ok (.istore 4, 2) := by decide +kernel
theorem dX10_yank_63 : decode cX10_yank 63 = .ok (.iconst 0, 1) := by decide +kernel
theorem dX10_yank_64 : decode cX10_yank 64 = .ok (.istore 5, 2) := by decide +kernel
theorem dX10_yank_66 : decode cX10_yank 66 = .ok (.iload 5, 2) := by decide +kernel
theorem dX10_yank_68 : decode cX10_yank 68 = .ok (.aload_n 0, 1) := by decide +kernel
theorem dX10_yank_69 : decode cX10_yank 69 = .ok (.getfield 146, 3) := by decide +kernel
theorem dX10_yank_72 : decode cX10_yank 72 = .ok (.if_icmp .ge 28, 3) := by decide +kernel
theorem dX10_yank_75 : decode cX10_yank 75 = .ok (.iload 4, 2) := by decide +kernel
theorem dX10_yank_77 : decode cX10_yank 77 = .ok (.aload_n 0, 1) := by decide +kernel
theorem dX10_yank_78 : decode cX10_yank 78 = .ok (.iload 5, 2) := by decide +kernel
theorem dX10_yank_80 : decode cX10_yank 80 = .ok (.invokevirtual 209, 3) := by decide +kernel
theorem dX10_yank_83 : decode cX10_yank 83 = .ok (.ifCond .eq 7, 3) := by decide +kernel
theorem dX10_yank_86 : decode cX10_yank 86 = .ok (.iconst 1, 1) := by decide +kernel
theorem dX10_yank_87 : decode cX10_yank 87 = .ok (.goto 4, 3) := by decide +kernel
theorem dX10_yank_90 : decode cX10_yank 90 = .ok (.iconst 0, 1) := by decide +kernel
theorem dX10_yank_91 : decode cX10_yank 91 = .ok (.iadd, 1) := by decide +kernel
theorem dX10_yank_92 : decode cX10_yank 92 = .ok (.istore 4, 2) := by decide +kernel
theorem dX10_yank_94 : decode cX10_yank 94 = .ok (.iinc 5 1, 3) := by decide +kernel
theorem dX10_yank_97 : decode cX10_yank 97 = .ok (.goto (-31), 3) := by decide +kernel
theorem dX10_yank_100 : decode cX10_yank 100 = .ok (.iload 4, 2) := by decide +kernel
theorem dX10_yank_102 : decode cX10_yank 102 = .ok (.ireturn, 1) := by decide +kernel
theorem dX10_isStale_0 : decode cX10_isStale 0 = .ok (.aload_n 0, 1) := by decide +kernel
theorem dX10_isStale_1 : decode cX10_isStale 1 = .ok (.iload_n 1, 1) := by decide +kernel
theorem dX10_isStale_2 : decode cX10_isStale 2 = .ok (.invokevirtual 123, 3) := by decide +kernel
theorem dX10_isStale_5 : decode cX10_isStale 5 = .ok (.ifCond .eq 5, 3) := by decide +kernel
theorem dX10_isStale_8 : decode cX10_isStale 8 = .ok (.iconst 0, 1) := by decide +kernel
theorem dX10_isStale_9 : decode cX10_isStale 9 = .ok (.ireturn, 1) := by decide +kernel
theorem dX10_isStale_10 : decode cX10_isStale 10 = .ok (.aload_n 0, 1) := by decide +kernel
theorem dX10_isStale_11 : decode cX10_isStale 11 = .ok (.iload_n 1, 1) := by decide +kernel
theorem dX10_isStale_12 : decode cX10_isStale 12 = .ok (.iload_n 2, 1) := by decide +kernel
theorem dX10_isStale_13 : decode cX10_isStale 13 = .ok (.invokevirtual 206, 3) := by decide +kernel
theorem dX10_isStale_16 : decode cX10_isStale 16 = .ok (.istore_n 3, 1) := by decide +kernel
theorem dX10_isStale_17 : decode cX10_isStale 17 = .ok (.aload_n 0, 1) := by decide +kernel
theorem dX10_isStale_18 : decode cX10_isStale 18 = .ok (.iload_n 3, 1) := by decide +kernel
theorem dX10_isStale_19 : decode cX10_isStale 19 = .ok (.iconst (-1), 1) := by decide +kernel
theorem dX10_isStale_20 : decode cX10_isStale 20 = .ok (.if_icmp .ne 7, 3) := by decide +kernel
theorem dX10_isStale_23 : decode cX10_isStale 23 = .ok (.iconst 2, 1) := by decide +kernel
theorem dX10_isStale_24 : decode cX10_isStale 24 = .ok (.goto 4, 3) := by decide +kernel
theorem dX10_isStale_27 : decode cX10_isStale 27 = .ok (.iconst 0, 1) := by decide +kernel
theorem dX10_isStale_28 : decode cX10_isStale 28 = .ok (.putfield 109, 3) := by decide +kernel
theorem dX10_isStale_31 : decode cX10_isStale 31 = .ok (.aload_n 0, 1) := by decide +kernel
theorem dX10_isStale_32 : decode cX10_isStale 32 = .ok (.getfield 109, 3) := by decide +kernel
theorem dX10_isStale_35 : decode cX10_isStale 35 = .ok (.ifCond .ne 15, 3) := by decide +kernel
theorem dX10_isStale_38 : decode cX10_isStale 38 = .ok (.aload_n 0, 1) := by decide +kernel
theorem dX10_isStale_39 : decode cX10_isStale 39 = .ok (.iload_n 3, 1) := by decide +kernel
theorem dX10_isStale_40 : decode cX10_isStale 40 = .ok (.invokevirtual 209, 3) := by decide +kernel
theorem dX10_isStale_43 : decode cX10_isStale 43 = .ok (.ifCond .eq 7, 3) := by decide +kernel
theorem dX10_isStale_46 : decode cX10_isStale 46 = .ok (.iconst 1, 1) := by decide +kernel
theorem dX10_isStale_47 : decode cX10_isStale 47 = .ok (.goto 4, 3) := by decide +kernel
theorem dX10_isStale_50 : decode cX10_isStale 50 = .ok (.iconst 0, 1) := by decide +kernel
theorem dX10_isStale_51 : decode cX10_isStale 51 = .ok (.ireturn, 1) := by decide +kernel
theorem dX10_relock_0 : decode cX10_relock 0 = .ok (.aload_n 0, 1) := by decide +kernel
theorem dX10_relock_1 : decode cX10_relock 1 = .ok (.iload_n 1, 1) := by decide +kernel
theorem dX10_relock_2 : decode cX10_relock 2 = .ok (.invokevirtual 123, 3) := by decide +kernel
theorem dX10_relock_5 : decode cX10_relock 5 = .ok (.ifCond .eq 5, 3) := by decide +kernel
theorem dX10_relock_8 : decode cX10_relock 8 = .ok (.iconst 0, 1) := by decide +kernel
theorem dX10_relock_9 : decode cX10_relock 9 = .ok (.ireturn, 1) := by decide +kernel
theorem dX10_relock_10 : decode cX10_relock 10 = .ok (.aload_n 0, 1) := by decide +kernel
theorem dX10_relock_11 : decode cX10_relock 11 = .ok (.iload_n 1, 1) := by decide +kernel
theorem dX10_relock_12 : decode cX10_relock 12 = .ok (.iload_n 2, 1) := by decide +kernel
theorem dX10_relock_13 : decode cX10_relock 13 = .ok (.invokevirtual 206, 3) := by decide +kernel
theorem dX10_relock_16 : decode cX10_relock 16 = .ok (.istore_n 3, 1) := by decide +kernel
theorem dX10_relock_17 : decode cX10_relock 17 = .ok (.aload_n 0, 1) := by decide +kernel
theorem dX10_relock_18 : decode cX10_relock 18 = .ok (.iload_n 3, 1) := by decide +kernel
theorem dX10_relock_19 : decode cX10_relock 19 = .ok (.iconst (-1), 1) := by decide +kernel
theorem dX10_relock_20 : decode cX10_relock 20 = .ok (.if_icmp .ne 7, 3) := by decide +kernel
theorem dX10_relock_23 : decode cX10_relock 23 = .ok (.iconst 2, 1) := by decide +kernel
theorem dX10_relock_24 : decode cX10_relock 24 = .ok (.goto 17, 3) := by decide +kernel
theorem dX10_relock_27 : decode cX10_relock 27 = .ok (.aload_n 0, 1) := by decide +kernel
theorem dX10_relock_28 : decode cX10_relock 28 = .ok (.getfield 79, 3) := by decide +kernel
theorem dX10_relock_31 : decode cX10_relock 31 = .ok (.iload_n 3, 1) := by decide +kernel
theorem dX10_relock_32 : decode cX10_relock 32 = .ok (.baload, 1) := by decide +kernel
theorem dX10_relock_33 : decode cX10_relock 33 = .ok (.ifCond .eq 7, 3) := by decide +kernel
theorem dX10_relock_36 : decode cX10_relock 36 = .ok (.iconst 3, 1) := by decide +kernel
theorem dX10_relock_37 : decode cX10_relock 37 = .ok (.goto 4, 3) := by decide +kernel
theorem dX10_relock_40 : decode cX10_relock 40 = .ok (.iconst 0, 1) := by decide +kernel
theorem dX10_relock_41 : decode cX10_relock 41 = .ok (.putfield 109, 3) := by decide +kernel
theorem dX10_relock_44 : decode cX10_relock 44 = .ok (.aload_n 0, 1) := by decide +kernel
theorem dX10_relock_45 : decode cX10_relock 45 = .ok (.getfield 109, 3) := by decide +kernel
theorem dX10_relock_48 : decode cX10_relock 48 = .ok (.ifCond .le 5, 3) := by decide +kernel
theorem dX10_relock_51 : decode cX10_relock 51 = .ok (.iconst 0, 1) := by decide +kernel
theorem dX10_relock_52 : decode cX10_relock 52 = .ok (.ireturn, 1) := by decide +kernel
theorem dX10_relock_53 : decode cX10_relock 53 = .ok (.iconst 0, 1) := by decide +kernel
theorem dX10_relock_54 : decode cX10_relock 54 = .ok (.istore 4, 2) := by decide +kernel
theorem dX10_relock_56 : decode cX10_relock 56 = .ok (.iload 4, 2) := by decide +kernel
theorem dX10_relock_58 : decode cX10_relock 58 = .ok (.bipush 6, 2) := by decide +kernel
theorem dX10_relock_60 : decode cX10_relock 60 = .ok (.if_icmp .ge 17, 3) := by decide +kernel
theorem dX10_relock_63 : decode cX10_relock 63 = .ok (.aload_n 0, 1) := by decide +kernel
theorem dX10_relock_64 : decode cX10_relock 64 = .ok (.getfield 106, 3) := by decide +kernel
theorem dX10_relock_67 : decode cX10_relock 67 = .ok (.iload 4, 2) := by decide +kernel
theorem dX10_relock_69 : decode cX10_relock 69 = .ok (.iconst (-1), 1) := by decide +kernel
theorem dX10_relock_70 : decode cX10_relock 70 = .ok (.iastore, 1) := by decide +kernel
theorem dX10_relock_71 : decode cX10_relock 71 = .ok (.iinc 4 1, 3) := by decide +kernel
theorem dX10_relock_74 : decode cX10_relock 74 = .ok (.goto (-18), 3) := by decide +kernel
