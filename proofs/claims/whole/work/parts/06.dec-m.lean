theorem d_Md_init_0 : decode c_Md_init 0 = .ok (.aload_n 0, 1) := by decide +kernel
theorem d_Md_init_1 : decode c_Md_init 1 = .ok (.invokespecial 1, 3) := by decide +kernel
theorem d_Md_init_4 : decode c_Md_init 4 = .ok (.aload_n 0, 1) := by decide +kernel
theorem d_Md_init_5 : decode c_Md_init 5 = .ok (.bipush 40, 2) := by decide +kernel
theorem d_Md_init_7 : decode c_Md_init 7 = .ok (.newarray .int, 2) := by decide +kernel
theorem d_Md_init_9 : decode c_Md_init 9 = .ok (.putfield 7, 3) := by decide +kernel
theorem d_Md_init_12 : decode c_Md_init 12 = .ok (.aload_n 0, 1) := by decide +kernel
theorem d_Md_init_13 : decode c_Md_init 13 = .ok (.bipush 10, 2) := by decide +kernel
theorem d_Md_init_15 : decode c_Md_init 15 = .ok (.newarray .int, 2) := by decide +kernel
theorem d_Md_init_17 : decode c_Md_init 17 = .ok (.putfield 13, 3) := by decide +kernel
theorem d_Md_init_20 : decode c_Md_init 20 = .ok (.aload_n 0, 1) := by decide +kernel
theorem d_Md_init_21 : decode c_Md_init 21 = .ok (.bipush 60, 2) := by decide +kernel
theorem d_Md_init_23 : decode c_Md_init 23 = .ok (.newarray .int, 2) := by decide +kernel
theorem d_Md_init_25 : decode c_Md_init 25 = .ok (.putfield 16, 3) := by decide +kernel
theorem d_Md_init_28 : decode c_Md_init 28 = .ok (.aload_n 0, 1) := by decide +kernel
theorem d_Md_init_29 : decode c_Md_init 29 = .ok (.bipush 41, 2) := by decide +kernel
theorem d_Md_init_31 : decode c_Md_init 31 = .ok (.newarray .long, 2) := by decide +kernel
theorem d_Md_init_33 : decode c_Md_init 33 = .ok (.putfield 19, 3) := by decide +kernel
theorem d_Md_init_36 : decode c_Md_init 36 = .ok (.aload_n 0, 1) := by decide +kernel
theorem d_Md_init_37 : decode c_Md_init 37 = .ok (.bipush 12, 2) := by decide +kernel
theorem d_Md_init_39 : decode c_Md_init 39 = .ok (.newarray .int, 2) := by decide +kernel
theorem d_Md_init_41 : decode c_Md_init 41 = .ok (.putfield 23, 3) := by decide +kernel
theorem d_Md_init_44 : decode c_Md_init 44 = .ok (.aload_n 0, 1) := by decide +kernel
theorem d_Md_init_45 : decode c_Md_init 45 = .ok (.bipush 12, 2) := by decide +kernel
theorem d_Md_init_47 : decode c_Md_init 47 = .ok (.newarray .int, 2) := by decide +kernel
theorem d_Md_init_49 : decode c_Md_init 49 = .ok (.putfield 26, 3) := by decide +kernel
theorem d_Md_init_52 : decode c_Md_init 52 = .ok (.aload_n 0, 1) := by decide +kernel
theorem d_Md_init_53 : decode c_Md_init 53 = .ok (.bipush 12, 2) := by decide +kernel
theorem d_Md_init_55 : decode c_Md_init 55 = .ok (.newarray .int, 2) := by decide +kernel
theorem d_Md_init_57 : decode c_Md_init 57 = .ok (.putfield 29, 3) := by decide +kernel
theorem d_Md_init_60 : decode c_Md_init 60 = .ok (.aload_n 0, 1) := by decide +kernel
theorem d_Md_init_61 : decode c_Md_init 61 = .ok (.bipush 72, 2) := by decide +kernel
theorem d_Md_init_63 : decode c_Md_init 63 = .ok (.newarray .long, 2) := by decide +kernel
theorem d_Md_init_65 : decode c_Md_init 65 = .ok (.putfield 32, 3) := by decide +kernel
theorem d_Md_init_68 : decode c_Md_init 68 = .ok (.aload_n 0, 1) := by decide +kernel
theorem d_Md_init_69 : decode c_Md_init 69 = .ok (.bipush 12, 2) := by decide +kernel
theorem d_Md_init_71 : decode c_Md_init 71 = .ok (.newarray .boolean, 2) := by decide +kernel
theorem d_Md_init_73 : decode c_Md_init 73 = .ok (.putfield 35, 3) := by decide +kernel
theorem d_Md_init_76 : decode c_Md_init 76 = .ok (.aload_n 0, 1) := by decide +kernel
theorem d_Md_init_77 : decode c_Md_init 77 = .ok (.bipush 12, 2) := by decide +kernel
theorem d_Md_init_79 : decode c_Md_init 79 = .ok (.newarray .long, 2) := by decide +kernel
theorem d_Md_init_81 : decode c_Md_init 81 = .ok (.putfield 39, 3) := by decide +kernel
theorem d_Md_init_84 : decode c_Md_init 84 = .ok (.aload_n 0, 1) := by decide +kernel
theorem d_Md_init_85 : decode c_Md_init 85 = .ok (.bipush 12, 2) := by decide +kernel
theorem d_Md_init_87 : decode c_Md_init 87 = .ok (.newarray .long, 2) := by decide +kernel
theorem d_Md_init_89 : decode c_Md_init 89 = .ok (.putfield 42, 3) := by decide +kernel
theorem d_Md_init_92 : decode c_Md_init 92 = .ok (.aload_n 0, 1) := by decide +kernel
theorem d_Md_init_93 : decode c_Md_init 93 = .ok (.bipush 12, 2) := by decide +kernel
theorem d_Md_init_95 : decode c_Md_init 95 = .ok (.newarray .long, 2) := by decide +kernel
theorem d_Md_init_97 : decode c_Md_init 97 = .ok (.putfield 45, 3) := by decide +kernel
theorem d_Md_init_100 : decode c_Md_init 100 = .ok (.aload_n 0, 1) := by decide +kernel
theorem d_Md_init_101 : decode c_Md_init 101 = .ok (.bipush 41, 2) := by decide +kernel
theorem d_Md_init_103 : decode c_Md_init 103 = .ok (.newarray .int, 2) := by decide +kernel
theorem d_Md_init_105 : decode c_Md_init 105 = .ok (.putfield 48, 3) := by decide +kernel
theorem d_Md_init_108 : decode c_Md_init 108 = .ok (.aload_n 0, 1) := by decide +kernel
theorem d_Md_init_109 : decode c_Md_init 109 = .ok (.bipush 123, 2) := by decide +kernel
theorem d_Md_init_111 : decode c_Md_init 111 = .ok (.newarray .long, 2) := by decide +kernel
theorem d_Md_init_113 : decode c_Md_init 113 = .ok (.putfield 51, 3) := by decide +kernel
theorem d_Md_init_116 : decode c_Md_init 116 = .ok (.aload_n 0, 1) := by decide +kernel
theorem d_Md_init_117 : decode c_Md_init 117 = .ok (.bipush 123, 2) := by decide +kernel
theorem d_Md_init_119 : decode c_Md_init 119 = .ok (.newarray .int, 2) := by decide +kernel
theorem d_Md_init_121 : decode c_Md_init 121 = .ok (.putfield 54, 3) := by decide +kernel
theorem d_Md_init_124 : decode c_Md_init 124 = .ok (.aload_n 0, 1) := by decide +kernel
theorem d_Md_init_125 : decode c_Md_init 125 = .ok (.iconst 3, 1) := by decide +kernel
theorem d_Md_init_126 : decode c_Md_init 126 = .ok (.newarray .int, 2) := by decide +kernel
theorem d_Md_init_128 : decode c_Md_init 128 = .ok (.putfield 57, 3) := by decide +kernel
theorem d_Md_init_131 : decode c_Md_init 131 = .ok (.aload_n 0, 1) := by decide +kernel
theorem d_Md_init_132 : decode c_Md_init 132 = .ok (.bipush 60, 2) := by decide +kernel
theorem d_Md_init_134 : decode c_Md_init 134 = .ok (.newarray .int, 2) := by decide +kernel
theorem d_Md_init_136 : decode c_Md_init 136 = .ok (.putfield 60, 3) := by decide +kernel
theorem d_Md_init_139 : decode c_Md_init 139 = .ok (.aload_n 0, 1) := by decide +kernel
theorem d_Md_init_140 : decode c_Md_init 140 = .ok (.bipush 60, 2) := by decide +kernel
theorem d_Md_init_142 : decode c_Md_init 142 = .ok (.newarray .long, 2) := by decide +kernel
theorem d_Md_init_144 : decode c_Md_init 144 = .ok (.putfield 63, 3) := by decide +kernel
theorem d_Md_init_147 : decode c_Md_init 147 = .ok (.aload_n 0, 1) := by decide +kernel
theorem d_Md_init_148 : decode c_Md_init 148 = .ok (.bipush 9, 2) := by decide +kernel
theorem d_Md_init_150 : decode c_Md_init 150 = .ok (.newarray .int, 2) := by decide +kernel
theorem d_Md_init_152 : decode c_Md_init 152 = .ok (.putfield 66, 3) := by decide +kernel
theorem d_Md_init_155 : decode c_Md_init 155 = .ok (.aload_n 0, 1) := by decide +kernel
theorem d_Md_init_156 : decode c_Md_init 156 = .ok (.bipush 9, 2) := by decide +kernel
theorem d_Md_init_158 : decode c_Md_init 158 = .ok (.newarray .int, 2) := by decide +kernel
theorem d_Md_init_160 : decode c_Md_init 160 = .ok (.putfield 69, 3) := by decide +kernel
theorem d_Md_init_163 : decode c_Md_init 163 = .ok (.aload_n 0, 1) := by decide +kernel
theorem d_Md_init_164 : decode c_Md_init 164 = .ok (.bipush 9, 2) := by decide +kernel
theorem d_Md_init_166 : decode c_Md_init 166 = .ok (.newarray .int, 2) := by decide +kernel
theorem d_Md_init_168 : decode c_Md_init 168 = .ok (.putfield 72, 3) := by decide +kernel
theorem d_Md_init_171 : decode c_Md_init 171 = .ok (.aload_n 0, 1) := by decide +kernel
theorem d_Md_init_172 : decode c_Md_init 172 = .ok (.bipush 9, 2) := by decide +kernel
theorem d_Md_init_174 : decode c_Md_init 174 = .ok (.newarray .int, 2) := by decide +kernel
theorem d_Md_init_176 : decode c_Md_init 176 = .ok (.putfield 75, 3) := by decide +kernel
theorem d_Md_init_179 : decode c_Md_init 179 = .ok (.aload_n 0, 1) := by decide +kernel
theorem d_Md_init_180 : decode c_Md_init 180 = .ok (.bipush 9, 2) := by decide +kernel
theorem d_Md_init_182 : decode c_Md_init 182 = .ok (.newarray .int, 2) := by decide +kernel
theorem d_Md_init_184 : decode c_Md_init 184 = .ok (.putfield 78, 3) := by decide +kernel
theorem d_Md_init_187 : decode c_Md_init 187 = .ok (.aload_n 0, 1) := by decide +kernel
theorem d_Md_init_188 : decode c_Md_init 188 = .ok (.bipush 60, 2) := by decide +kernel
theorem d_Md_init_190 : decode c_Md_init 190 = .ok (.newarray .int, 2) := by decide +kernel
theorem d_Md_init_192 : decode c_Md_init 192 = .ok (.putfield 81, 3) := by decide +kernel
theorem d_Md_init_195 : decode c_Md_init 195 = .ok (.aload_n 0, 1) := by decide +kernel
theorem d_Md_init_196 : decode c_Md_init 196 = .ok (.bipush 60, 2) := by decide +kernel
theorem d_Md_init_198 : decode c_Md_init 198 = .ok (.newarray .long, 2) := by decide +kernel
theorem d_Md_init_200 : decode c_Md_init 200 = .ok (.putfield 84, 3) := by decide +kernel
theorem d_Md_init_203 : decode c_Md_init 203 = .ok (.aload_n 0, 1) := by decide +kernel
theorem d_Md_init_204 : decode c_Md_init 204 = .ok (.bipush 60, 2) := by decide +kernel
theorem d_Md_init_206 : decode c_Md_init 206 = .ok (.newarray .int, 2) := by decide +kernel
theorem d_Md_init_208 : decode c_Md_init 208 = .ok (.putfield 87, 3) := by decide +kernel
theorem d_Md_init_211 : decode c_Md_init 211 = .ok (.aload_n 0, 1) := by decide +kernel
theorem d_Md_init_212 : decode c_Md_init 212 = .ok (.sipush 3600, 3) := by decide +kernel
theorem d_Md_init_215 : decode c_Md_init 215 = .ok (.newarray .int, 2) := by decide +kernel
theorem d_Md_init_217 : decode c_Md_init 217 = .ok (.putfield 90, 3) := by decide +kernel
theorem d_Md_init_220 : decode c_Md_init 220 = .ok (.aload_n 0, 1) := by decide +kernel
theorem d_Md_init_221 : decode c_Md_init 221 = .ok (.bipush 60, 2) := by decide +kernel
theorem d_Md_init_223 : decode c_Md_init 223 = .ok (.newarray .long, 2) := by decide +kernel
theorem d_Md_init_225 : decode c_Md_init 225 = .ok (.putfield 93, 3) := by decide +kernel
theorem d_Md_init_228 : decode c_Md_init 228 = .ok (.aload_n 0, 1) := by decide +kernel
theorem d_Md_init_229 : decode c_Md_init 229 = .ok (.bipush 12, 2) := by decide +kernel
theorem d_Md_init_231 : decode c_Md_init 231 = .ok (.newarray .long, 2) := by decide +kernel
theorem d_Md_init_233 : decode c_Md_init 233 = .ok (.putfield 96, 3) := by decide +kernel
theorem d_Md_init_236 : decode c_Md_init 236 = .ok (.aload_n 0, 1) := by decide +kernel
theorem d_Md_init_237 : decode c_Md_init 237 = .ok (.bipush 12, 2) := by decide +kernel
theorem d_Md_init_239 : decode c_Md_init 239 = .ok (.newarray .long, 2) := by decide +kernel
theorem d_Md_init_241 : decode c_Md_init 241 = .ok (.putfield 99, 3) := by decide +kernel
theorem d_Md_init_244 : decode c_Md_init 244 = .ok (.aload_n 0, 1) := by decide +kernel
theorem d_Md_init_245 : decode c_Md_init 245 = .ok (.bipush 12, 2) := by decide +kernel
theorem d_Md_init_247 : decode c_Md_init 247 = .ok (.newarray .boolean, 2) := by decide +kernel
theorem d_Md_init_249 : decode c_Md_init 249 = .ok (.putfield 102, 3) := by decide +kernel
theorem d_Md_init_252 : decode c_Md_init 252 = .ok (.aload_n 0, 1) := by decide +kernel
theorem d_Md_init_253 : decode c_Md_init 253 = .ok (.bipush 12, 2) := by decide +kernel
theorem d_Md_init_255 : decode c_Md_init 255 = .ok (.newarray .long, 2) := by decide +kernel
theorem d_Md_init_257 : decode c_Md_init 257 = .ok (.putfield 105, 3) := by decide +kernel
theorem d_Md_init_260 : decode c_Md_init 260 = .ok (.aload_n 0, 1) := by decide +kernel
theorem d_Md_init_261 : decode c_Md_init 261 = .ok (.bipush 12, 2) := by decide +kernel
theorem d_Md_init_263 : decode c_Md_init 263 = .ok (.newarray .long, 2) := by decide +kernel
theorem d_Md_init_265 : decode c_Md_init 265 = .ok (.putfield 108, 3) := by decide +kernel
theorem d_Md_init_268 : decode c_Md_init 268 = .ok (.aload_n 0, 1) := by decide +kernel
theorem d_Md_init_269 : decode c_Md_init 269 = .ok (.bipush 12, 2) := by decide +kernel
theorem d_Md_init_271 : decode c_Md_init 271 = .ok (.newarray .long, 2) := by decide +kernel
theorem d_Md_init_273 : decode c_Md_init 273 = .ok (.putfield 111, 3) := by decide +kernel
theorem d_Md_init_276 : decode c_Md_init 276 = .ok (.aload_n 0, 1) := by decide +kernel
theorem d_Md_init_277 : decode c_Md_init 277 = .ok (.bipush 12, 2) := by decide +kernel
theorem d_Md_init_279 : decode c_Md_init 279 = .ok (.newarray .long, 2) := by decide +kernel
theorem d_Md_init_281 : decode c_Md_init 281 = .ok (.putfield 114, 3) := by decide +kernel
theorem d_Md_init_284 : decode c_Md_init 284 = .ok (.aload_n 0, 1) := by decide +kernel
theorem d_Md_init_285 : decode c_Md_init 285 = .ok (.bipush 40, 2) := by decide +kernel
theorem d_Md_init_287 : decode c_Md_init 287 = .ok (.newarray .int, 2) := by decide +kernel
theorem d_Md_init_289 : decode c_Md_init 289 = .ok (.putfield 117, 3) := by decide +kernel
theorem d_Md_init_292 : decode c_Md_init 292 = .ok (.return_, 1) := by decide +kernel
theorem d_Md_isIn_0 : decode c_Md_isIn 0 = .ok (.lload_n 0, 1) := by decide +kernel
theorem d_Md_isIn_1 : decode c_Md_isIn 1 = .ok (.lload_n 2, 1) := by decide +kernel
theorem d_Md_isIn_2 : decode c_Md_isIn 2 = .ok (.lcmp, 1) := by decide +kernel
theorem d_Md_isIn_3 : decode c_Md_isIn 3 = .ok (.ifCond .lt 14, 3) := by decide +kernel
theorem d_Md_isIn_6 : decode c_Md_isIn 6 = .ok (.lload_n 0, 1) := by decide +kernel
theorem d_Md_isIn_7 : decode c_Md_isIn 7 = .ok (.lload 4, 2) := by decide +kernel
theorem d_Md_isIn_9 : decode c_Md_isIn 9 = .ok (.lcmp, 1) := by decide +kernel
theorem d_Md_isIn_10 : decode c_Md_isIn 10 = .ok (.ifCond .gt 7, 3) := by decide +kernel
theorem d_Md_isIn_13 : decode c_Md_isIn 13 = .ok (.iconst 1, 1) := by decide +kernel
theorem d_Md_isIn_14 : decode c_Md_isIn 14 = .ok (.goto 4, 3) := by decide +kernel
theorem d_Md_isIn_17 : decode c_Md_isIn 17 = .ok (.iconst 0, 1) := by decide +kernel
theorem d_Md_isIn_18 : decode c_Md_isIn 18 = .ok (.ireturn, 1) := by decide +kernel
theorem d_Md_isLine_0 : decode c_Md_isLine 0 = .ok (.iload_n 1, 1) := by decide +kernel
theorem d_Md_isLine_1 : decode c_Md_isLine 1 = .ok (.ifCond .lt 15, 3) := by decide +kernel
theorem d_Md_isLine_4 : decode c_Md_isLine 4 = .ok (.iload_n 1, 1) := by decide +kernel
theorem d_Md_isLine_5 : decode c_Md_isLine 5 = .ok (.aload_n 0, 1) := by decide +kernel
theorem d_Md_isLine_6 : decode c_Md_isLine 6 = .ok (.getfield 120, 3) := by decide +kernel
theorem d_Md_isLine_9 : decode c_Md_isLine 9 = .ok (.if_icmp .ge 7, 3) := by decide +kernel
theorem d_Md_isLine_12 : decode c_Md_isLine 12 = .ok (.iconst 1, 1) := by decide +kernel
theorem d_Md_isLine_13 : decode c_Md_isLine 13 = .ok (.goto 4, 3) := by decide +kernel
theorem d_Md_isLine_16 : decode c_Md_isLine 16 = .ok (.iconst 0, 1) := by decide +kernel
theorem d_Md_isLine_17 : decode c_Md_isLine 17 = .ok (.ireturn, 1) := by decide +kernel
theorem d_Md_unit_0 : decode c_Md_unit 0 = .ok (.iload_n 1, 1) := by decide +kernel
theorem d_Md_unit_1 : decode c_Md_unit 1 = .ok (.i2l, 1) := by decide +kernel
theorem d_Md_unit_2 : decode c_Md_unit 2 = .ok (.ldc2_w 124, 3) := by decide +kernel
theorem d_Md_unit_5 : decode c_Md_unit 5 = .ok (.ldc2_w 126, 3) := by decide +kernel
theorem d_Md_unit_8 : decode c_Md_unit 8 = .ok (.invokestatic 128, 3) := by decide +kernel
theorem d_Md_unit_11 : decode c_Md_unit 11 = .ok (.ifCond .eq 12, 3) := by decide +kernel
theorem d_Md_unit_14 : decode c_Md_unit 14 = .ok (.aload_n 0, 1) := by decide +kernel
theorem d_Md_unit_15 : decode c_Md_unit 15 = .ok (.getfield 132, 3) := by decide +kernel
theorem d_Md_unit_18 : decode c_Md_unit 18 = .ok (.bipush 40, 2) := by decide +kernel
theorem d_Md_unit_20 : decode c_Md_unit 20 = .ok (.if_icmp .ne 5, 3) := by decide +kernel
theorem d_Md_unit_23 : decode c_Md_unit 23 = .ok (.iconst 0, 1) := by decide +kernel
theorem d_Md_unit_24 : decode c_Md_unit 24 = .ok (.ireturn, 1) := by decide +kernel
theorem d_Md_unit_25 : decode c_Md_unit 25 = .ok (.aload_n 0, 1) := by decide +kernel
theorem d_Md_unit_26 : decode c_Md_unit 26 = .ok (.getfield 7, 3) := by decide +kernel
theorem d_Md_unit_29 : decode c_Md_unit 29 = .ok (.aload_n 0, 1) := by decide +kernel
theorem d_Md_unit_30 : decode c_Md_unit 30 = .ok (.getfield 132, 3) := by decide +kernel
theorem d_Md_unit_33 : decode c_Md_unit 33 = .ok (.iload_n 1, 1) := by decide +kernel
theorem d_Md_unit_34 : decode c_Md_unit 34 = .ok (.iastore, 1) := by decide +kernel
theorem d_Md_unit_35 : decode c_Md_unit 35 = .ok (.aload_n 0, 1) := by decide +kernel
theorem d_Md_unit_36 : decode c_Md_unit 36 = .ok (.dup, 1) := by decide +kernel
theorem d_Md_unit_37 : decode c_Md_unit 37 = .ok (.getfield 132, 3) := by decide +kernel
theorem d_Md_unit_40 : decode c_Md_unit 40 = .ok (.iconst 1, 1) := by decide +kernel
theorem d_Md_unit_41 : decode c_Md_unit 41 = .ok (.iadd, 1) := by decide +kernel
theorem d_Md_unit_42 : decode c_Md_unit 42 = .ok (.putfield 132, 3) := by decide +kernel
theorem d_Md_unit_45 : decode c_Md_unit 45 = .ok (.iconst 1, 1) := by decide +kernel
theorem d_Md_unit_46 : decode c_Md_unit 46 = .ok (.ireturn, 1) := by decide +kernel
theorem d_Md_bendOf_0 : decode c_Md_bendOf 0 = .ok (.iload_n 0, 1) := by decide +kernel
theorem d_Md_bendOf_1 : decode c_Md_bendOf 1 = .ok (.bipush 76, 2) := by decide +kernel
theorem d_Md_bendOf_3 : decode c_Md_bendOf 3 = .ok (.if_icmp .ne 7, 3) := by decide +kernel
theorem d_Md_bendOf_6 : decode c_Md_bendOf 6 = .ok (.iconst 1, 1) := by decide +kernel
theorem d_Md_bendOf_7 : decode c_Md_bendOf 7 = .ok (.goto 24, 3) := by decide +kernel
theorem d_Md_bendOf_10 : decode c_Md_bendOf 10 = .ok (.iload_n 0, 1) := by decide +kernel
theorem d_Md_bendOf_11 : decode c_Md_bendOf 11 = .ok (.bipush 82, 2) := by decide +kernel
theorem d_Md_bendOf_13 : decode c_Md_bendOf 13 = .ok (.if_icmp .ne 7, 3) := by decide +kernel
theorem d_Md_bendOf_16 : decode c_Md_bendOf 16 = .ok (.iconst 2, 1) := by decide +kernel
theorem d_Md_bendOf_17 : decode c_Md_bendOf 17 = .ok (.goto 14, 3) := by decide +kernel
theorem d_Md_bendOf_20 : decode c_Md_bendOf 20 = .ok (.iload_n 0, 1) := by decide +kernel
theorem d_Md_bendOf_21 : decode c_Md_bendOf 21 = .ok (.bipush 85, 2) := by decide +kernel
theorem d_Md_bendOf_23 : decode c_Md_bendOf 23 = .ok (.if_icmp .ne 7, 3) := by decide +kernel
theorem d_Md_bendOf_26 : decode c_Md_bendOf 26 = .ok (.iconst 3, 1) := by decide +kernel
theorem d_Md_bendOf_27 : decode c_Md_bendOf 27 = .ok (.goto 4, 3) := by decide +kernel
theorem d_Md_bendOf_30 : decode c_Md_bendOf 30 = .ok (.iconst 0, 1) := by decide +kernel
theorem d_Md_bendOf_31 : decode c_Md_bendOf 31 = .ok (.ireturn, 1) := by decide +kernel
theorem d_Md_shape_0 : decode c_Md_shape 0 = .ok (.aload_n 0, 1) := by decide +kernel
theorem d_Md_shape_1 : decode c_Md_shape 1 = .ok (.getfield 132, 3) := by decide +kernel
theorem d_Md_shape_4 : decode c_Md_shape 4 = .ok (.istore_n 1, 1) := by decide +kernel
theorem d_Md_shape_5 : decode c_Md_shape 5 = .ok (.aload_n 0, 1) := by decide +kernel
theorem d_Md_shape_6 : decode c_Md_shape 6 = .ok (.iconst 0, 1) := by decide +kernel
theorem d_Md_shape_7 : decode c_Md_shape 7 = .ok (.putfield 132, 3) := by decide +kernel
theorem d_Md_shape_10 : decode c_Md_shape 10 = .ok (.iconst 0, 1) := by decide +kernel
theorem d_Md_shape_11 : decode c_Md_shape 11 = .ok (.istore_n 2, 1) := by decide +kernel
theorem d_Md_shape_12 : decode c_Md_shape 12 = .ok (.iconst 1, 1) := by decide +kernel
theorem d_Md_shape_13 : decode c_Md_shape 13 = .ok (.istore_n 3, 1) := by decide +kernel
theorem d_Md_shape_14 : decode c_Md_shape 14 = .ok (.iload_n 2, 1) := by decide +kernel
theorem d_Md_shape_15 : decode c_Md_shape 15 = .ok (.iload_n 1, 1) := by decide +kernel
theorem d_Md_shape_16 : decode c_Md_shape 16 = .ok (.if_icmp .ge 77, 3) := by decide +kernel
theorem d_Md_shape_19 : decode c_Md_shape 19 = .ok (.iload_n 3, 1) := by decide +kernel
theorem d_Md_shape_20 : decode c_Md_shape 20 = .ok (.ifCond .eq 73, 3) := by decide +kernel
theorem d_Md_shape_23 : decode c_Md_shape 23 = .ok (.iload_n 2, 1) := by decide +kernel
theorem d_Md_shape_24 : decode c_Md_shape 24 = .ok (.iconst 2, 1) := by decide +kernel
theorem d_Md_shape_25 : decode c_Md_shape 25 = .ok (.irem, 1) := by decide +kernel
theorem d_Md_shape_26 : decode c_Md_shape 26 = .ok (.ifCond .ne 34, 3) := by decide +kernel
theorem d_Md_shape_29 : decode c_Md_shape 29 = .ok (.iload_n 2, 1) := by decide +kernel
theorem d_Md_shape_30 : decode c_Md_shape 30 = .ok (.iconst 2, 1) := by decide +kernel
theorem d_Md_shape_31 : decode c_Md_shape 31 = .ok (.idiv, 1) := by decide +kernel
theorem d_Md_shape_32 : decode c_Md_shape 32 = .ok (.bipush 6, 2) := by decide +kernel
theorem d_Md_shape_34 : decode c_Md_shape 34 = .ok (.if_icmp .ge 22, 3) := by decide +kernel
theorem d_Md_shape_37 : decode c_Md_shape 37 = .ok (.aload_n 0, 1) := by decide +kernel
theorem d_Md_shape_38 : decode c_Md_shape 38 = .ok (.getfield 7, 3) := by decide +kernel
theorem d_Md_shape_41 : decode c_Md_shape 41 = .ok (.iload_n 2, 1) := by decide +kernel
theorem d_Md_shape_42 : decode c_Md_shape 42 = .ok (.iaload, 1) := by decide +kernel
theorem d_Md_shape_43 : decode c_Md_shape 43 = .ok (.bipush 65, 2) := by decide +kernel
theorem d_Md_shape_45 : decode c_Md_shape 45 = .ok (.iload_n 2, 1) := by decide +kernel
theorem d_Md_shape_46 : decode c_Md_shape 46 = .ok (.iconst 2, 1) := by decide +kernel
theorem d_Md_shape_47 : decode c_Md_shape 47 = .ok (.idiv, 1) := by decide +kernel
theorem d_Md_shape_48 : decode c_Md_shape 48 = .ok (.iadd, 1) := by decide +kernel
theorem d_Md_shape_49 : decode c_Md_shape 49 = .ok (.if_icmp .ne 7, 3) := by decide +kernel
theorem d_Md_shape_52 : decode c_Md_shape 52 = .ok (.iconst 1, 1) := by decide +kernel
theorem d_Md_shape_53 : decode c_Md_shape 53 = .ok (.goto 24, 3) := by decide +kernel
theorem d_Md_shape_56 : decode c_Md_shape 56 = .ok (.iconst 0, 1) := by decide +kernel
theorem d_Md_shape_57 : decode c_Md_shape 57 = .ok (.goto 20, 3) := by decide +kernel
theorem d_Md_shape_60 : decode c_Md_shape 60 = .ok (.aload_n 0, 1) := by decide +kernel
theorem d_Md_shape_61 : decode c_Md_shape 61 = .ok (.getfield 7, 3) := by decide +kernel
theorem d_Md_shape_64 : decode c_Md_shape 64 = .ok (.iload_n 2, 1) := by decide +kernel
theorem d_Md_shape_65 : decode c_Md_shape 65 = .ok (.iaload, 1) := by decide +kernel
theorem d_Md_shape_66 : decode c_Md_shape 66 = .ok (.invokestatic 135, 3) := by decide +kernel
theorem d_Md_shape_69 : decode c_Md_shape 69 = .ok (.ifCond .le 7, 3) := by decide +kernel
theorem d_Md_shape_72 : decode c_Md_shape 72 = .ok (.iconst 1, 1) := by decide +kernel
theorem d_Md_shape_73 : decode c_Md_shape 73 = .ok (.goto 4, 3) := by decide +kernel
theorem d_Md_shape_76 : decode c_Md_shape 76 = .ok (.iconst 0, 1) := by decide +kernel
theorem d_Md_shape_77 : decode c_Md_shape 77 = .ok (.istore_n 3, 1) := by decide +kernel
theorem d_Md_shape_78 : decode c_Md_shape 78 = .ok (.iload_n 2, 1) := by decide +kernel
theorem d_Md_shape_79 : decode c_Md_shape 79 = .ok (.iload_n 3, 1) := by decide +kernel
theorem d_Md_shape_80 : decode c_Md_shape 80 = .ok (.ifCond .eq 7, 3) := by decide +kernel
theorem d_Md_shape_83 : decode c_Md_shape 83 = .ok (.iconst 1, 1) := by decide +kernel
theorem d_Md_shape_84 : decode c_Md_shape 84 = .ok (.goto 4, 3) := by decide +kernel
theorem d_Md_shape_87 : decode c_Md_shape 87 = .ok (.iconst 0, 1) := by decide +kernel
theorem d_Md_shape_88 : decode c_Md_shape 88 = .ok (.iadd, 1) := by decide +kernel
theorem d_Md_shape_89 : decode c_Md_shape 89 = .ok (.istore_n 2, 1) := by decide +kernel
theorem d_Md_shape_90 : decode c_Md_shape 90 = .ok (.goto (-76), 3) := by decide +kernel
theorem d_Md_shape_93 : decode c_Md_shape 93 = .ok (.iload_n 3, 1) := by decide +kernel
theorem d_Md_shape_94 : decode c_Md_shape 94 = .ok (.ifCond .eq 18, 3) := by decide +kernel
theorem d_Md_shape_97 : decode c_Md_shape 97 = .ok (.iload_n 1, 1) := by decide +kernel
theorem d_Md_shape_98 : decode c_Md_shape 98 = .ok (.iconst 2, 1) := by decide +kernel
theorem d_Md_shape_99 : decode c_Md_shape 99 = .ok (.irem, 1) := by decide +kernel
theorem d_Md_shape_100 : decode c_Md_shape 100 = .ok (.ifCond .eq 12, 3) := by decide +kernel
theorem d_Md_shape_103 : decode c_Md_shape 103 = .ok (.aload_n 0, 1) := by decide +kernel
theorem d_Md_shape_104 : decode c_Md_shape 104 = .ok (.getfield 139, 3) := by decide +kernel
theorem d_Md_shape_107 : decode c_Md_shape 107 = .ok (.bipush 10, 2) := by decide +kernel
theorem d_Md_shape_109 : decode c_Md_shape 109 = .ok (.if_icmp .ne 7, 3) := by decide +kernel
theorem d_Md_shape_112 : decode c_Md_shape 112 = .ok (.iconst (-1), 1) := by decide +kernel
theorem d_Md_shape_113 : decode c_Md_shape 113 = .ok (.iload_n 2, 1) := by decide +kernel
theorem d_Md_shape_114 : decode c_Md_shape 114 = .ok (.isub, 1) := by decide +kernel
theorem d_Md_shape_115 : decode c_Md_shape 115 = .ok (.ireturn, 1) := by decide +kernel
theorem d_Md_shape_116 : decode c_Md_shape 116 = .ok (.aload_n 0, 1) := by decide +kernel
theorem d_Md_shape_117 : decode c_Md_shape 117 = .ok (.getfield 13, 3) := by decide +kernel
theorem d_Md_shape_120 : decode c_Md_shape 120 = .ok (.aload_n 0, 1) := by decide +kernel
theorem d_Md_shape_121 : decode c_Md_shape 121 = .ok (.getfield 139, 3) := by decide +kernel
theorem d_Md_shape_124 : decode c_Md_shape 124 = .ok (.iload_n 1, 1) := by decide +kernel
theorem d_Md_shape_125 : decode c_Md_shape 125 = .ok (.iconst 1, 1) := by decide +kernel
theorem d_Md_shape_126 : decode c_Md_shape 126 = .ok (.iadd, 1) := by decide +kernel
theorem d_Md_shape_127 : decode c_Md_shape 127 = .ok (.iconst 2, 1) := by decide +kernel
theorem d_Md_shape_128 : decode c_Md_shape 128 = .ok (.idiv, 1) := by decide +kernel
theorem d_Md_shape_129 : decode c_Md_shape 129 = .ok (.iastore, 1) := by decide +kernel
theorem d_Md_shape_130 : decode c_Md_shape 130 = .ok (.iconst 1, 1) := by decide +kernel
theorem d_Md_shape_131 : decode c_Md_shape 131 = .ok (.istore 4, 2) := by decide +kernel
theorem d_Md_shape_133 : decode c_Md_shape 133 = .ok (.iload 4, 2) := by decide +kernel
theorem d_Md_shape_135 : decode c_Md_shape 135 = .ok (.iload_n 1, 1) := by decide +kernel
theorem d_Md_shape_136 : decode c_Md_shape 136 = .ok (.if_icmp .ge 36, 3) := by decide +kernel
theorem d_Md_shape_139 : decode c_Md_shape 139 = .ok (.aload_n 0, 1) := by decide +kernel
theorem d_Md_shape_140 : decode c_Md_shape 140 = .ok (.getfield 16, 3) := by decide +kernel
theorem d_Md_shape_143 : decode c_Md_shape 143 = .ok (.bipush 6, 2) := by decide +kernel
theorem d_Md_shape_145 : decode c_Md_shape 145 = .ok (.aload_n 0, 1) := by decide +kernel
theorem d_Md_shape_146 : decode c_Md_shape 146 = .ok (.getfield 139, 3) := by decide +kernel
theorem d_Md_shape_149 : decode c_Md_shape 149 = .ok (.imul, 1) := by decide +kernel
theorem d_Md_shape_150 : decode c_Md_shape 150 = .ok (.iload 4, 2) := by decide +kernel
theorem d_Md_shape_152 : decode c_Md_shape 152 = .ok (.iconst 2, 1) := by decide +kernel
theorem d_Md_shape_153 : decode c_Md_shape 153 = .ok (.idiv, 1) := by decide +kernel
theorem d_Md_shape_154 : decode c_Md_shape 154 = .ok (.iadd, 1) := by decide +kernel
theorem d_Md_shape_155 : decode c_Md_shape 155 = .ok (.aload_n 0, 1) := by decide +kernel
theorem d_Md_shape_156 : decode c_Md_shape 156 = .ok (.getfield 7, 3) := by decide +kernel
theorem d_Md_shape_159 : decode c_Md_shape 159 = .ok (.iload 4, 2) := by decide +kernel
theorem d_Md_shape_161 : decode c_Md_shape 161 = .ok (.iaload, 1) := by decide +kernel
theorem d_Md_shape_162 : decode c_Md_shape 162 = .ok (.invokestatic 135, 3) := by decide +kernel
theorem d_Md_shape_165 : decode c_Md_shape 165 = .ok (.iastore, 1) := by decide +kernel
theorem d_Md_shape_166 : decode c_Md_shape 166 = .ok (.iinc 4 2, 3) := by decide +kernel
theorem d_Md_shape_169 : decode c_Md_shape 169 = .ok (.goto (-36), 3) := by decide +kernel
theorem d_Md_shape_172 : decode c_Md_shape 172 = .ok (.aload_n 0, 1) := by decide +kernel
theorem d_Md_shape_173 : decode c_Md_shape 173 = .ok (.dup, 1) := by decide +kernel
theorem d_Md_shape_174 : decode c_Md_shape 174 = .ok (.getfield 139, 3) := by decide +kernel
theorem d_Md_shape_177 : decode c_Md_shape 177 = .ok (.iconst 1, 1) := by decide +kernel
theorem d_Md_shape_178 : decode c_Md_shape 178 = .ok (.iadd, 1) := by decide +kernel
theorem d_Md_shape_179 : decode c_Md_shape 179 = .ok (.putfield 139, 3) := by decide +kernel
theorem d_Md_shape_182 : decode c_Md_shape 182 = .ok (.aload_n 0, 1) := by decide +kernel
theorem d_Md_shape_183 : decode c_Md_shape 183 = .ok (.getfield 139, 3) := by decide +kernel
theorem d_Md_shape_186 : decode c_Md_shape 186 = .ok (.iconst 1, 1) := by decide +kernel
theorem d_Md_shape_187 : decode c_Md_shape 187 = .ok (.isub, 1) := by decide +kernel
theorem d_Md_shape_188 : decode c_Md_shape 188 = .ok (.ireturn, 1) := by decide +kernel
theorem d_Md_rule_0 : decode c_Md_rule 0 = .ok (.iload_n 1, 1) := by decide +kernel
theorem d_Md_rule_1 : decode c_Md_rule 1 = .ok (.i2l, 1) := by decide +kernel
theorem d_Md_rule_2 : decode c_Md_rule 2 = .ok (.ldc2_w 142, 3) := by decide +kernel
theorem d_Md_rule_5 : decode c_Md_rule 5 = .ok (.ldc2_w 144, 3) := by decide +kernel
theorem d_Md_rule_8 : decode c_Md_rule 8 = .ok (.invokestatic 128, 3) := by decide +kernel
theorem d_Md_rule_11 : decode c_Md_rule 11 = .ok (.ifCond .eq 14, 3) := by decide +kernel
theorem d_Md_rule_14 : decode c_Md_rule 14 = .ok (.lload_n 2, 1) := by decide +kernel
theorem d_Md_rule_15 : decode c_Md_rule 15 = .ok (.lconst 0, 1) := by decide +kernel
theorem d_Md_rule_16 : decode c_Md_rule 16 = .ok (.ldc2_w 146, 3) := by decide +kernel
theorem d_Md_rule_19 : decode c_Md_rule 19 = .ok (.invokestatic 128, 3) := by decide +kernel
theorem d_Md_rule_22 : decode c_Md_rule 22 = .ok (.ifCond .ne 5, 3) := by decide +kernel
theorem d_Md_rule_25 : decode c_Md_rule 25 = .ok (.iconst 0, 1) := by decide +kernel
theorem d_Md_rule_26 : decode c_Md_rule 26 = .ok (.ireturn, 1) := by decide +kernel
theorem d_Md_rule_27 : decode c_Md_rule 27 = .ok (.aload_n 0, 1) := by decide +kernel
theorem d_Md_rule_28 : decode c_Md_rule 28 = .ok (.getfield 19, 3) := by decide +kernel
theorem d_Md_rule_31 : decode c_Md_rule 31 = .ok (.iload_n 1, 1) := by decide +kernel
theorem d_Md_rule_32 : decode c_Md_rule 32 = .ok (.lload_n 2, 1) := by decide +kernel
theorem d_Md_rule_33 : decode c_Md_rule 33 = .ok (.lastore, 1) := by decide +kernel
theorem d_Md_rule_34 : decode c_Md_rule 34 = .ok (.aload_n 0, 1) := by decide +kernel
theorem d_Md_rule_35 : decode c_Md_rule 35 = .ok (.iconst 0, 1) := by decide +kernel
theorem d_Md_rule_36 : decode c_Md_rule 36 = .ok (.putfield 148, 3) := by decide +kernel
theorem d_Md_rule_39 : decode c_Md_rule 39 = .ok (.iconst 1, 1) := by decide +kernel
theorem d_Md_rule_40 : decode c_Md_rule 40 = .ok (.ireturn, 1) := by decide +kernel
theorem d_Md_bar_0 : decode c_Md_bar 0 = .ok (.iload_n 1, 1) := by decide +kernel
theorem d_Md_bar_1 : decode c_Md_bar 1 = .ok (.ifCond .lt 46, 3) := by decide +kernel
theorem d_Md_bar_4 : decode c_Md_bar 4 = .ok (.iload_n 1, 1) := by decide +kernel
theorem d_Md_bar_5 : decode c_Md_bar 5 = .ok (.aload_n 0, 1) := by decide +kernel
theorem d_Md_bar_6 : decode c_Md_bar 6 = .ok (.getfield 139, 3) := by decide +kernel
theorem d_Md_bar_9 : decode c_Md_bar 9 = .ok (.if_icmp .ge 38, 3) := by decide +kernel
theorem d_Md_bar_12 : decode c_Md_bar 12 = .ok (.iload_n 2, 1) := by decide +kernel
theorem d_Md_bar_13 : decode c_Md_bar 13 = .ok (.i2l, 1) := by decide +kernel
theorem d_Md_bar_14 : decode c_Md_bar 14 = .ok (.ldc2_w 142, 3) := by decide +kernel
theorem d_Md_bar_17 : decode c_Md_bar 17 = .ok (.ldc2_w 144, 3) := by decide +kernel
theorem d_Md_bar_20 : decode c_Md_bar 20 = .ok (.invokestatic 128, 3) := by decide +kernel
theorem d_Md_bar_23 : decode c_Md_bar 23 = .ok (.ifCond .eq 24, 3) := by decide +kernel
theorem d_Md_bar_26 : decode c_Md_bar 26 = .ok (.iload_n 3, 1) := by decide +kernel
theorem d_Md_bar_27 : decode c_Md_bar 27 = .ok (.i2l, 1) := by decide +kernel
theorem d_Md_bar_28 : decode c_Md_bar 28 = .ok (.lconst 1, 1) := by decide +kernel
theorem d_Md_bar_29 : decode c_Md_bar 29 = .ok (.ldc2_w 152, 3) := by decide +kernel
theorem d_Md_bar_32 : decode c_Md_bar 32 = .ok (.invokestatic 128, 3) := by decide +kernel
theorem d_Md_bar_35 : decode c_Md_bar 35 = .ok (.ifCond .eq 12, 3) := by decide +kernel
theorem d_Md_bar_38 : decode c_Md_bar 38 = .ok (.aload_n 0, 1) := by decide +kernel
theorem d_Md_bar_39 : decode c_Md_bar 39 = .ok (.getfield 120, 3) := by decide +kernel
theorem d_Md_bar_42 : decode c_Md_bar 42 = .ok (.bipush 12, 2) := by decide +kernel
theorem d_Md_bar_44 : decode c_Md_bar 44 = .ok (.if_icmp .ne 5, 3) := by decide +kernel
theorem d_Md_bar_47 : decode c_Md_bar 47 = .ok (.iconst (-1), 1) := by decide +kernel
theorem d_Md_bar_48 : decode c_Md_bar 48 = .ok (.ireturn, 1) := by decide +kernel
theorem d_Md_bar_49 : decode c_Md_bar 49 = .ok (.aload_n 0, 1) := by decide +kernel
theorem d_Md_bar_50 : decode c_Md_bar 50 = .ok (.getfield 23, 3) := by decide +kernel
theorem d_Md_bar_53 : decode c_Md_bar 53 = .ok (.aload_n 0, 1) := by decide +kernel
theorem d_Md_bar_54 : decode c_Md_bar 54 = .ok (.getfield 120, 3) := by decide +kernel
theorem d_Md_bar_57 : decode c_Md_bar 57 = .ok (.iload_n 1, 1) := by decide +kernel
theorem d_Md_bar_58 : decode c_Md_bar 58 = .ok (.iastore, 1) := by decide +kernel
theorem d_Md_bar_59 : decode c_Md_bar 59 = .ok (.aload_n 0, 1) := by decide +kernel
theorem d_Md_bar_60 : decode c_Md_bar 60 = .ok (.getfield 26, 3) := by decide +kernel
theorem d_Md_bar_63 : decode c_Md_bar 63 = .ok (.aload_n 0, 1) := by decide +kernel
theorem d_Md_bar_64 : decode c_Md_bar 64 = .ok (.getfield 120, 3) := by decide +kernel
theorem d_Md_bar_67 : decode c_Md_bar 67 = .ok (.iload_n 2, 1) := by decide +kernel
theorem d_Md_bar_68 : decode c_Md_bar 68 = .ok (.iastore, 1) := by decide +kernel
theorem d_Md_bar_69 : decode c_Md_bar 69 = .ok (.aload_n 0, 1) := by decide +kernel
theorem d_Md_bar_70 : decode c_Md_bar 70 = .ok (.getfield 29, 3) := by decide +kernel
theorem d_Md_bar_73 : decode c_Md_bar 73 = .ok (.aload_n 0, 1) := by decide +kernel
theorem d_Md_bar_74 : decode c_Md_bar 74 = .ok (.getfield 120, 3) := by decide +kernel
theorem d_Md_bar_77 : decode c_Md_bar 77 = .ok (.iload_n 3, 1) := by decide +kernel
theorem d_Md_bar_78 : decode c_Md_bar 78 = .ok (.iastore, 1) := by decide +kernel
theorem d_Md_bar_79 : decode c_Md_bar 79 = .ok (.aload_n 0, 1) := by decide +kernel
theorem d_Md_bar_80 : decode c_Md_bar 80 = .ok (.dup, 1) := by decide +kernel
theorem d_Md_bar_81 : decode c_Md_bar 81 = .ok (.getfield 120, 3) := by decide +kernel
theorem d_Md_bar_84 : decode c_Md_bar 84 = .ok (.iconst 1, 1) := by decide +kernel
theorem d_Md_bar_85 : decode c_Md_bar 85 = .ok (.iadd, 1) := by decide +kernel
theorem d_Md_bar_86 : decode c_Md_bar 86 = .ok (.putfield 120, 3) := by decide +kernel
theorem d_Md_bar_89 : decode c_Md_bar 89 = .ok (.aload_n 0, 1) := by decide +kernel
theorem d_Md_bar_90 : decode c_Md_bar 90 = .ok (.iconst 0, 1) := by decide +kernel
theorem d_Md_bar_91 : decode c_Md_bar 91 = .ok (.putfield 148, 3) := by decide +kernel
theorem d_Md_bar_94 : decode c_Md_bar 94 = .ok (.aload_n 0, 1) := by decide +kernel
theorem d_Md_bar_95 : decode c_Md_bar 95 = .ok (.getfield 120, 3) := by decide +kernel
theorem d_Md_bar_98 : decode c_Md_bar 98 = .ok (.iconst 1, 1) := by decide +kernel
theorem d_Md_bar_99 : decode c_Md_bar 99 = .ok (.isub, 1) := by decide +kernel
theorem d_Md_bar_100 : decode c_Md_bar 100 = .ok (.ireturn, 1) := by decide +kernel
theorem d_Md_leg_0 : decode c_Md_leg 0 = .ok (.aload_n 0, 1) := by decide +kernel
theorem d_Md_leg_1 : decode c_Md_leg 1 = .ok (.iload_n 1, 1) := by decide +kernel
theorem d_Md_leg_2 : decode c_Md_leg 2 = .ok (.invokevirtual 154, 3) := by decide +kernel
theorem d_Md_leg_5 : decode c_Md_leg 5 = .ok (.ifCond .eq 33, 3) := by decide +kernel
theorem d_Md_leg_8 : decode c_Md_leg 8 = .ok (.iload_n 2, 1) := by decide +kernel
theorem d_Md_leg_9 : decode c_Md_leg 9 = .ok (.ifCond .lt 29, 3) := by decide +kernel
theorem d_Md_leg_12 : decode c_Md_leg 12 = .ok (.iload_n 2, 1) := by decide +kernel
theorem d_Md_leg_13 : decode c_Md_leg 13 = .ok (.aload_n 0, 1) := by decide +kernel
theorem d_Md_leg_14 : decode c_Md_leg 14 = .ok (.getfield 13, 3) := by decide +kernel
theorem d_Md_leg_17 : decode c_Md_leg 17 = .ok (.aload_n 0, 1) := by decide +kernel
theorem d_Md_leg_18 : decode c_Md_leg 18 = .ok (.getfield 23, 3) := by decide +kernel
theorem d_Md_leg_21 : decode c_Md_leg 21 = .ok (.iload_n 1, 1) := by decide +kernel
theorem d_Md_leg_22 : decode c_Md_leg 22 = .ok (.iaload, 1) := by decide +kernel
theorem d_Md_leg_23 : decode c_Md_leg 23 = .ok (.iaload, 1) := by decide +kernel
theorem d_Md_leg_24 : decode c_Md_leg 24 = .ok (.if_icmp .ge 14, 3) := by decide +kernel
theorem d_Md_leg_27 : decode c_Md_leg 27 = .ok (.lload_n 3, 1) := by decide +kernel
theorem d_Md_leg_28 : decode c_Md_leg 28 = .ok (.lconst 1, 1) := by decide +kernel
theorem d_Md_leg_29 : decode c_Md_leg 29 = .ok (.ldc2_w 158, 3) := by decide +kernel
theorem d_Md_leg_32 : decode c_Md_leg 32 = .ok (.invokestatic 128, 3) := by decide +kernel
theorem d_Md_leg_35 : decode c_Md_leg 35 = .ok (.ifCond .ne 5, 3) := by decide +kernel
theorem d_Md_leg_38 : decode c_Md_leg 38 = .ok (.iconst 0, 1) := by decide +kernel
theorem d_Md_leg_39 : decode c_Md_leg 39 = .ok (.ireturn, 1) := by decide +kernel
theorem d_Md_leg_40 : decode c_Md_leg 40 = .ok (.aload_n 0, 1) := by decide +kernel
theorem d_Md_leg_41 : decode c_Md_leg 41 = .ok (.getfield 32, 3) := by decide +kernel
theorem d_Md_leg_44 : decode c_Md_leg 44 = .ok (.bipush 6, 2) := by decide +kernel
theorem d_Md_leg_46 : decode c_Md_leg 46 = .ok (.iload_n 1, 1) := by decide +kernel
theorem d_Md_leg_47 : decode c_Md_leg 47 = .ok (.imul, 1) := by decide +kernel
theorem d_Md_leg_48 : decode c_Md_leg 48 = .ok (.iload_n 2, 1) := by decide +kernel
theorem d_Md_leg_49 : decode c_Md_leg 49 = .ok (.iadd, 1) := by decide +kernel
theorem d_Md_leg_50 : decode c_Md_leg 50 = .ok (.lload_n 3, 1) := by decide +kernel
theorem d_Md_leg_51 : decode c_Md_leg 51 = .ok (.lastore, 1) := by decide +kernel
theorem d_Md_leg_52 : decode c_Md_leg 52 = .ok (.aload_n 0, 1) := by decide +kernel
theorem d_Md_leg_53 : decode c_Md_leg 53 = .ok (.iconst 0, 1) := by decide +kernel
theorem d_Md_leg_54 : decode c_Md_leg 54 = .ok (.putfield 148, 3) := by decide +kernel
theorem d_Md_leg_57 : decode c_Md_leg 57 = .ok (.iconst 1, 1) := by decide +kernel
theorem d_Md_leg_58 : decode c_Md_leg 58 = .ok (.ireturn, 1) := by decide +kernel
theorem d_Md_stock_0 : decode c_Md_stock 0 = .ok (.iload_n 1, 1) := by decide +kernel
theorem d_Md_stock_1 : decode c_Md_stock 1 = .ok (.i2l, 1) := by decide +kernel
theorem d_Md_stock_2 : decode c_Md_stock 2 = .ok (.ldc2_w 142, 3) := by decide +kernel
theorem d_Md_stock_5 : decode c_Md_stock 5 = .ok (.ldc2_w 144, 3) := by decide +kernel
theorem d_Md_stock_8 : decode c_Md_stock 8 = .ok (.invokestatic 128, 3) := by decide +kernel
theorem d_Md_stock_11 : decode c_Md_stock 11 = .ok (.ifCond .eq 37, 3) := by decide +kernel
theorem d_Md_stock_14 : decode c_Md_stock 14 = .ok (.lload_n 2, 1) := by decide +kernel
theorem d_Md_stock_15 : decode c_Md_stock 15 = .ok (.lconst 1, 1) := by decide +kernel
theorem d_Md_stock_16 : decode c_Md_stock 16 = .ok (.ldc2_w 160, 3) := by decide +kernel
theorem d_Md_stock_19 : decode c_Md_stock 19 = .ok (.invokestatic 128, 3) := by decide +kernel
theorem d_Md_stock_22 : decode c_Md_stock 22 = .ok (.ifCond .eq 26, 3) := by decide +kernel
theorem d_Md_stock_25 : decode c_Md_stock 25 = .ok (.iload 4, 2) := by decide +kernel
theorem d_Md_stock_27 : decode c_Md_stock 27 = .ok (.i2l, 1) := by decide +kernel
theorem d_Md_stock_28 : decode c_Md_stock 28 = .ok (.lconst 0, 1) := by decide +kernel
theorem d_Md_stock_29 : decode c_Md_stock 29 = .ok (.ldc2_w 162, 3) := by decide +kernel
theorem d_Md_stock_32 : decode c_Md_stock 32 = .ok (.invokestatic 128, 3) := by decide +kernel
theorem d_Md_stock_35 : decode c_Md_stock 35 = .ok (.ifCond .eq 13, 3) := by decide +kernel
theorem d_Md_stock_38 : decode c_Md_stock 38 = .ok (.aload_n 0, 1) := by decide +kernel
theorem d_Md_stock_39 : decode c_Md_stock 39 = .ok (.getfield 48, 3) := by decide +kernel
theorem d_Md_stock_42 : decode c_Md_stock 42 = .ok (.iload_n 1, 1) := by decide +kernel
theorem d_Md_stock_43 : decode c_Md_stock 43 = .ok (.iaload, 1) := by decide +kernel
theorem d_Md_stock_44 : decode c_Md_stock 44 = .ok (.iconst 3, 1) := by decide +kernel
theorem d_Md_stock_45 : decode c_Md_stock 45 = .ok (.if_icmp .ne 5, 3) := by decide +kernel
theorem d_Md_stock_48 : decode c_Md_stock 48 = .ok (.iconst 0, 1) := by decide +kernel
theorem d_Md_stock_49 : decode c_Md_stock 49 = .ok (.ireturn, 1) := by decide +kernel
theorem d_Md_stock_50 : decode c_Md_stock 50 = .ok (.aload_n 0, 1) := by decide +kernel
theorem d_Md_stock_51 : decode c_Md_stock 51 = .ok (.getfield 51, 3) := by decide +kernel
theorem d_Md_stock_54 : decode c_Md_stock 54 = .ok (.iconst 3, 1) := by decide +kernel
theorem d_Md_stock_55 : decode c_Md_stock 55 = .ok (.iload_n 1, 1) := by decide +kernel
theorem d_Md_stock_56 : decode c_Md_stock 56 = .ok (.imul, 1) := by decide +kernel
theorem d_Md_stock_57 : decode c_Md_stock 57 = .ok (.aload_n 0, 1) := by decide +kernel
theorem d_Md_stock_58 : decode c_Md_stock 58 = .ok (.getfield 48, 3) := by decide +kernel
theorem d_Md_stock_61 : decode c_Md_stock 61 = .ok (.iload_n 1, 1) := by decide +kernel
theorem d_Md_stock_62 : decode c_Md_stock 62 = .ok (.iaload, 1) := by decide +kernel
theorem d_Md_stock_63 : decode c_Md_stock 63 = .ok (.iadd, 1) := by decide +kernel
theorem d_Md_stock_64 : decode c_Md_stock 64 = .ok (.lload_n 2, 1) := by decide +kernel
theorem d_Md_stock_65 : decode c_Md_stock 65 = .ok (.lastore, 1) := by decide +kernel
theorem d_Md_stock_66 : decode c_Md_stock 66 = .ok (.aload_n 0, 1) := by decide +kernel
theorem d_Md_stock_67 : decode c_Md_stock 67 = .ok (.getfield 54, 3) := by decide +kernel
theorem d_Md_stock_70 : decode c_Md_stock 70 = .ok (.iconst 3, 1) := by decide +kernel
theorem d_Md_stock_71 : decode c_Md_stock 71 = .ok (.iload_n 1, 1) := by decide +kernel
theorem d_Md_stock_72 : decode c_Md_stock 72 = .ok (.imul, 1) := by decide +kernel
theorem d_Md_stock_73 : decode c_Md_stock 73 = .ok (.aload_n 0, 1) := by decide +kernel
theorem d_Md_stock_74 : decode c_Md_stock 74 = .ok (.getfield 48, 3) := by decide +kernel
theorem d_Md_stock_77 : decode c_Md_stock 77 = .ok (.iload_n 1, 1) := by decide +kernel
theorem d_Md_stock_78 : decode c_Md_stock 78 = .ok (.iaload, 1) := by decide +kernel
theorem d_Md_stock_79 : decode c_Md_stock 79 = .ok (.iadd, 1) := by decide +kernel
theorem d_Md_stock_80 : decode c_Md_stock 80 = .ok (.iload 4, 2) := by decide +kernel
theorem d_Md_stock_82 : decode c_Md_stock 82 = .ok (.iastore, 1) := by decide +kernel
theorem d_Md_stock_83 : decode c_Md_stock 83 = .ok (.aload_n 0, 1) := by decide +kernel
theorem d_Md_stock_84 : decode c_Md_stock 84 = .ok (.getfield 48, 3) := by decide +kernel
theorem d_Md_stock_87 : decode c_Md_stock 87 = .ok (.iload_n 1, 1) := by decide +kernel
theorem d_Md_stock_88 : decode c_Md_stock 88 = .ok (.dup2, 1) := by decide +kernel
theorem d_Md_stock_89 : decode c_Md_stock 89 = .ok (.iaload, 1) := by decide +kernel
theorem d_Md_stock_90 : decode c_Md_stock 90 = .ok (.iconst 1, 1) := by decide +kernel
theorem d_Md_stock_91 : decode c_Md_stock 91 = .ok (.iadd, 1) := by decide +kernel
theorem d_Md_stock_92 : decode c_Md_stock 92 = .ok (.iastore, 1) := by decide +kernel
theorem d_Md_stock_93 : decode c_Md_stock 93 = .ok (.aload_n 0, 1) := by decide +kernel
theorem d_Md_stock_94 : decode c_Md_stock 94 = .ok (.iconst 0, 1) := by decide +kernel
theorem d_Md_stock_95 : decode c_Md_stock 95 = .ok (.putfield 148, 3) := by decide +kernel
theorem d_Md_stock_98 : decode c_Md_stock 98 = .ok (.iconst 1, 1) := by decide +kernel
theorem d_Md_stock_99 : decode c_Md_stock 99 = .ok (.ireturn, 1) := by decide +kernel
theorem d_Md_sumOf_0 : decode c_Md_sumOf 0 = .ok (.lconst 0, 1) := by decide +kernel
theorem d_Md_sumOf_1 : decode c_Md_sumOf 1 = .ok (.lstore_n 2, 1) := by decide +kernel
theorem d_Md_sumOf_2 : decode c_Md_sumOf 2 = .ok (.iconst 0, 1) := by decide +kernel
theorem d_Md_sumOf_3 : decode c_Md_sumOf 3 = .ok (.istore 4, 2) := by decide +kernel
theorem d_Md_sumOf_5 : decode c_Md_sumOf 5 = .ok (.iload 4, 2) := by decide +kernel
theorem d_Md_sumOf_7 : decode c_Md_sumOf 7 = .ok (.bipush 6, 2) := by decide +kernel
theorem d_Md_sumOf_9 : decode c_Md_sumOf 9 = .ok (.if_icmp .ge 24, 3) := by decide +kernel
theorem d_Md_sumOf_12 : decode c_Md_sumOf 12 = .ok (.lload_n 2, 1) := by decide +kernel
theorem d_Md_sumOf_13 : decode c_Md_sumOf 13 = .ok (.aload_n 0, 1) := by decide +kernel
theorem d_Md_sumOf_14 : decode c_Md_sumOf 14 = .ok (.getfield 32, 3) := by decide +kernel
theorem d_Md_sumOf_17 : decode c_Md_sumOf 17 = .ok (.bipush 6, 2) := by decide +kernel
theorem d_Md_sumOf_19 : decode c_Md_sumOf 19 = .ok (.iload_n 1, 1) := by decide +kernel
theorem d_Md_sumOf_20 : decode c_Md_sumOf 20 = .ok (.imul, 1) := by decide +kernel
theorem d_Md_sumOf_21 : decode c_Md_sumOf 21 = .ok (.iload 4, 2) := by decide +kernel
theorem d_Md_sumOf_23 : decode c_Md_sumOf 23 = .ok (.iadd, 1) := by decide +kernel
theorem d_Md_sumOf_24 : decode c_Md_sumOf 24 = .ok (.laload, 1) := by decide +kernel
theorem d_Md_sumOf_25 : decode c_Md_sumOf 25 = .ok (.ladd, 1) := by decide +kernel
theorem d_Md_sumOf_26 : decode c_Md_sumOf 26 = .ok (.lstore_n 2, 1) := by decide +kernel
theorem d_Md_sumOf_27 : decode c_Md_sumOf 27 = .ok (.iinc 4 1, 3) := by decide +kernel
theorem d_Md_sumOf_30 : decode c_Md_sumOf 30 = .ok (.goto (-25), 3) := by decide +kernel
theorem d_Md_sumOf_33 : decode c_Md_sumOf 33 = .ok (.lload_n 2, 1) := by decide +kernel
theorem d_Md_sumOf_34 : decode c_Md_sumOf 34 = .ok (.lreturn, 1) := by decide +kernel
theorem d_Md_lengthOf_0 : decode c_Md_lengthOf 0 = .ok (.aload_n 0, 1) := by decide +kernel
theorem d_Md_lengthOf_1 : decode c_Md_lengthOf 1 = .ok (.iload_n 1, 1) := by decide +kernel
theorem d_Md_lengthOf_2 : decode c_Md_lengthOf 2 = .ok (.invokevirtual 164, 3) := by decide +kernel
theorem d_Md_lengthOf_5 : decode c_Md_lengthOf 5 = .ok (.lstore_n 2, 1) := by decide +kernel
theorem d_Md_lengthOf_6 : decode c_Md_lengthOf 6 = .ok (.iconst 0, 1) := by decide +kernel
theorem d_Md_lengthOf_7 : decode c_Md_lengthOf 7 = .ok (.istore 4, 2) := by decide +kernel
theorem d_Md_lengthOf_9 : decode c_Md_lengthOf 9 = .ok (.iload 4, 2) := by decide +kernel
theorem d_Md_lengthOf_11 : decode c_Md_lengthOf 11 = .ok (.iconst 1, 1) := by decide +kernel
theorem d_Md_lengthOf_12 : decode c_Md_lengthOf 12 = .ok (.iadd, 1) := by decide +kernel
theorem d_Md_lengthOf_13 : decode c_Md_lengthOf 13 = .ok (.aload_n 0, 1) := by decide +kernel
theorem d_Md_lengthOf_14 : decode c_Md_lengthOf 14 = .ok (.getfield 13, 3) := by decide +kernel
theorem d_Md_lengthOf_17 : decode c_Md_lengthOf 17 = .ok (.aload_n 0, 1) := by decide +kernel
theorem d_Md_lengthOf_18 : decode c_Md_lengthOf 18 = .ok (.getfield 23, 3) := by decide +kernel
theorem d_Md_lengthOf_21 : decode c_Md_lengthOf 21 = .ok (.iload_n 1, 1) := by decide +kernel
theorem d_Md_lengthOf_22 : decode c_Md_lengthOf 22 = .ok (.iaload, 1) := by decide +kernel
theorem d_Md_lengthOf_23 : decode c_Md_lengthOf 23 = .ok (.iaload, 1) := by decide +kernel
theorem d_Md_lengthOf_24 : decode c_Md_lengthOf 24 = .ok (.if_icmp .ge 56, 3) := by decide +kernel
theorem d_Md_lengthOf_27 : decode c_Md_lengthOf 27 = .ok (.aload_n 0, 1) := by decide +kernel
theorem d_Md_lengthOf_28 : decode c_Md_lengthOf 28 = .ok (.getfield 16, 3) := by decide +kernel
theorem d_Md_lengthOf_31 : decode c_Md_lengthOf 31 = .ok (.bipush 6, 2) := by decide +kernel
theorem d_Md_lengthOf_33 : decode c_Md_lengthOf 33 = .ok (.aload_n 0, 1) := by decide +kernel
theorem d_Md_lengthOf_34 : decode c_Md_lengthOf 34 = .ok (.getfield 23, 3) := by decide +kernel
theorem d_Md_lengthOf_37 : decode c_Md_lengthOf 37 = .ok (.iload_n 1, 1) := by decide +kernel
theorem d_Md_lengthOf_38 : decode c_Md_lengthOf 38 = .ok (.iaload, 1) := by decide +kernel
theorem d_Md_lengthOf_39 : decode c_Md_lengthOf 39 = .ok (.imul, 1) := by decide +kernel
theorem d_Md_lengthOf_40 : decode c_Md_lengthOf 40 = .ok (.iload 4, 2) := by decide +kernel
theorem d_Md_lengthOf_42 : decode c_Md_lengthOf 42 = .ok (.iadd, 1) := by decide +kernel
theorem d_Md_lengthOf_43 : decode c_Md_lengthOf 43 = .ok (.iaload, 1) := by decide +kernel
theorem d_Md_lengthOf_44 : decode c_Md_lengthOf 44 = .ok (.istore 5, 2) := by decide +kernel
theorem d_Md_lengthOf_46 : decode c_Md_lengthOf 46 = .ok (.lload_n 2, 1) := by decide +kernel
theorem d_Md_lengthOf_47 : decode c_Md_lengthOf 47 = .ok (.aload_n 0, 1) := by decide +kernel
theorem d_Md_lengthOf_48 : decode c_Md_lengthOf 48 = .ok (.getfield 19, 3) := by decide +kernel
theorem d_Md_lengthOf_51 : decode c_Md_lengthOf 51 = .ok (.aload_n 0, 1) := by decide +kernel
theorem d_Md_lengthOf_52 : decode c_Md_lengthOf 52 = .ok (.getfield 26, 3) := by decide +kernel
theorem d_Md_lengthOf_55 : decode c_Md_lengthOf 55 = .ok (.iload_n 1, 1) := by decide +kernel
theorem d_Md_lengthOf_56 : decode c_Md_lengthOf 56 = .ok (.iaload, 1) := by decide +kernel
theorem d_Md_lengthOf_57 : decode c_Md_lengthOf 57 = .ok (.laload, 1) := by decide +kernel
theorem d_Md_lengthOf_58 : decode c_Md_lengthOf 58 = .ok (.iload 5, 2) := by decide +kernel
theorem d_Md_lengthOf_60 : decode c_Md_lengthOf 60 = .ok (.iconst 3, 1) := by decide +kernel
theorem d_Md_lengthOf_61 : decode c_Md_lengthOf 61 = .ok (.if_icmp .ne 9, 3) := by decide +kernel
theorem d_Md_lengthOf_64 : decode c_Md_lengthOf 64 = .ok (.ldc2_w 168, 3) := by decide +kernel
theorem d_Md_lengthOf_67 : decode c_Md_lengthOf 67 = .ok (.goto 4, 3) := by decide +kernel
theorem d_Md_lengthOf_70 : decode c_Md_lengthOf 70 = .ok (.lconst 1, 1) := by decide +kernel
theorem d_Md_lengthOf_71 : decode c_Md_lengthOf 71 = .ok (.lmul, 1) := by decide +kernel
theorem d_Md_lengthOf_72 : decode c_Md_lengthOf 72 = .ok (.lsub, 1) := by decide +kernel
theorem d_Md_lengthOf_73 : decode c_Md_lengthOf 73 = .ok (.lstore_n 2, 1) := by decide +kernel
theorem d_Md_lengthOf_74 : decode c_Md_lengthOf 74 = .ok (.iinc 4 1, 3) := by decide +kernel
theorem d_Md_lengthOf_77 : decode c_Md_lengthOf 77 = .ok (.goto (-68), 3) := by decide +kernel
theorem d_Md_lengthOf_80 : decode c_Md_lengthOf 80 = .ok (.lload_n 2, 1) := by decide +kernel
theorem d_Md_lengthOf_81 : decode c_Md_lengthOf 81 = .ok (.lconst 0, 1) := by decide +kernel
theorem d_Md_lengthOf_82 : decode c_Md_lengthOf 82 = .ok (.lcmp, 1) := by decide +kernel
theorem d_Md_lengthOf_83 : decode c_Md_lengthOf 83 = .ok (.ifCond .ge 7, 3) := by decide +kernel
theorem d_Md_lengthOf_86 : decode c_Md_lengthOf 86 = .ok (.lconst 0, 1) := by decide +kernel
theorem d_Md_lengthOf_87 : decode c_Md_lengthOf 87 = .ok (.goto 4, 3) := by decide +kernel
theorem d_Md_lengthOf_90 : decode c_Md_lengthOf 90 = .ok (.lload_n 2, 1) := by decide +kernel
theorem d_Md_lengthOf_91 : decode c_Md_lengthOf 91 = .ok (.lreturn, 1) := by decide +kernel
theorem d_Md_length_0 : decode c_Md_length 0 = .ok (.aload_n 0, 1) := by decide +kernel
theorem d_Md_length_1 : decode c_Md_length 1 = .ok (.iload_n 1, 1) := by decide +kernel
theorem d_Md_length_2 : decode c_Md_length 2 = .ok (.invokevirtual 154, 3) := by decide +kernel
theorem d_Md_length_5 : decode c_Md_length 5 = .ok (.ifCond .eq 12, 3) := by decide +kernel
theorem d_Md_length_8 : decode c_Md_length 8 = .ok (.iload_n 2, 1) := by decide +kernel
theorem d_Md_length_9 : decode c_Md_length 9 = .ok (.ifCond .lt 8, 3) := by decide +kernel
theorem d_Md_length_12 : decode c_Md_length 12 = .ok (.iload_n 2, 1) := by decide +kernel
theorem d_Md_length_13 : decode c_Md_length 13 = .ok (.iconst 4, 1) := by decide +kernel
theorem d_Md_length_14 : decode c_Md_length 14 = .ok (.if_icmp .le 7, 3) := by decide +kernel
theorem d_Md_length_17 : decode c_Md_length 17 = .ok (.ldc2_w 170, 3) := by decide +kernel
theorem d_Md_length_20 : decode c_Md_length 20 = .ok (.lreturn, 1) := by decide +kernel
theorem d_Md_length_21 : decode c_Md_length 21 = .ok (.iload_n 2, 1) := by decide +kernel
theorem d_Md_length_22 : decode c_Md_length 22 = .ok (.ifCond .ne 11, 3) := by decide +kernel
theorem d_Md_length_25 : decode c_Md_length 25 = .ok (.aload_n 0, 1) := by decide +kernel
theorem d_Md_length_26 : decode c_Md_length 26 = .ok (.iload_n 1, 1) := by decide +kernel
theorem d_Md_length_27 : decode c_Md_length 27 = .ok (.invokevirtual 172, 3) := by decide +kernel
theorem d_Md_length_30 : decode c_Md_length 30 = .ok (.goto 53, 3) := by decide +kernel
theorem d_Md_length_33 : decode c_Md_length 33 = .ok (.iload_n 2, 1) := by decide +kernel
theorem d_Md_length_34 : decode c_Md_length 34 = .ok (.iconst 1, 1) := by decide +kernel
theorem d_Md_length_35 : decode c_Md_length 35 = .ok (.if_icmp .ne 13, 3) := by decide +kernel
theorem d_Md_length_38 : decode c_Md_length 38 = .ok (.aload_n 0, 1) := by decide +kernel
theorem d_Md_length_39 : decode c_Md_length 39 = .ok (.getfield 29, 3) := by decide +kernel
theorem d_Md_length_42 : decode c_Md_length 42 = .ok (.iload_n 1, 1) := by decide +kernel
theorem d_Md_length_43 : decode c_Md_length 43 = .ok (.iaload, 1) := by decide +kernel
theorem d_Md_length_44 : decode c_Md_length 44 = .ok (.i2l, 1) := by decide +kernel
theorem d_Md_length_45 : decode c_Md_length 45 = .ok (.goto 38, 3) := by decide +kernel
theorem d_Md_length_48 : decode c_Md_length 48 = .ok (.iload_n 2, 1) := by decide +kernel
theorem d_Md_length_49 : decode c_Md_length 49 = .ok (.iconst 2, 1) := by decide +kernel
theorem d_Md_length_50 : decode c_Md_length 50 = .ok (.if_icmp .ne 11, 3) := by decide +kernel
theorem d_Md_length_53 : decode c_Md_length 53 = .ok (.aload_n 0, 1) := by decide +kernel
theorem d_Md_length_54 : decode c_Md_length 54 = .ok (.iload_n 1, 1) := by decide +kernel
theorem d_Md_length_55 : decode c_Md_length 55 = .ok (.invokevirtual 164, 3) := by decide +kernel
theorem d_Md_length_58 : decode c_Md_length 58 = .ok (.goto 25, 3) := by decide +kernel
theorem d_Md_length_61 : decode c_Md_length 61 = .ok (.iload_n 2, 1) := by decide +kernel
theorem d_Md_length_62 : decode c_Md_length 62 = .ok (.iconst 3, 1) := by decide +kernel
theorem d_Md_length_63 : decode c_Md_length 63 = .ok (.if_icmp .ne 13, 3) := by decide +kernel
theorem d_Md_length_66 : decode c_Md_length 66 = .ok (.aload_n 0, 1) := by decide +kernel
theorem d_Md_length_67 : decode c_Md_length 67 = .ok (.getfield 26, 3) := by decide +kernel
theorem d_Md_length_70 : decode c_Md_length 70 = .ok (.iload_n 1, 1) := by decide +kernel
theorem d_Md_length_71 : decode c_Md_length 71 = .ok (.iaload, 1) := by decide +kernel
theorem d_Md_length_72 : decode c_Md_length 72 = .ok (.i2l, 1) := by decide +kernel
theorem d_Md_length_73 : decode c_Md_length 73 = .ok (.goto 10, 3) := by decide +kernel
theorem d_Md_length_76 : decode c_Md_length 76 = .ok (.aload_n 0, 1) := by decide +kernel
theorem d_Md_length_77 : decode c_Md_length 77 = .ok (.getfield 23, 3) := by decide +kernel
theorem d_Md_length_80 : decode c_Md_length 80 = .ok (.iload_n 1, 1) := by decide +kernel
theorem d_Md_length_81 : decode c_Md_length 81 = .ok (.iaload, 1) := by decide +kernel
theorem d_Md_length_82 : decode c_Md_length 82 = .ok (.i2l, 1) := by decide +kernel
theorem d_Md_length_83 : decode c_Md_length 83 = .ok (.lreturn, 1) := by decide +kernel
theorem d_Md_findPieces_0 : decode c_Md_findPieces 0 = .ok (.aload_n 0, 1) := by decide +kernel
theorem d_Md_findPieces_1 : decode c_Md_findPieces 1 = .ok (.iconst 0, 1) := by decide +kernel
theorem d_Md_findPieces_2 : decode c_Md_findPieces 2 = .ok (.putfield 175, 3) := by decide +kernel
theorem d_Md_findPieces_5 : decode c_Md_findPieces 5 = .ok (.iconst 0, 1) := by decide +kernel
theorem d_Md_findPieces_6 : decode c_Md_findPieces 6 = .ok (.istore_n 2, 1) := by decide +kernel
theorem d_Md_findPieces_7 : decode c_Md_findPieces 7 = .ok (.iload_n 2, 1) := by decide +kernel
theorem d_Md_findPieces_8 : decode c_Md_findPieces 8 = .ok (.aload_n 0, 1) := by decide +kernel
theorem d_Md_findPieces_9 : decode c_Md_findPieces 9 = .ok (.getfield 120, 3) := by decide +kernel
theorem d_Md_findPieces_12 : decode c_Md_findPieces 12 = .ok (.if_icmp .ge 134, 3) := by decide +kernel
theorem d_Md_findPieces_15 : decode c_Md_findPieces 15 = .ok (.iconst 0, 1) := by decide +kernel
theorem d_Md_findPieces_16 : decode c_Md_findPieces 16 = .ok (.istore_n 3, 1) := by decide +kernel
theorem d_Md_findPieces_17 : decode c_Md_findPieces 17 = .ok (.iload_n 3, 1) := by decide +kernel
theorem d_Md_findPieces_18 : decode c_Md_findPieces 18 = .ok (.aload_n 0, 1) := by decide +kernel
theorem d_Md_findPieces_19 : decode c_Md_findPieces 19 = .ok (.getfield 29, 3) := by decide +kernel
theorem d_Md_findPieces_22 : decode c_Md_findPieces 22 = .ok (.iload_n 2, 1) := by decide +kernel
theorem d_Md_findPieces_23 : decode c_Md_findPieces 23 = .ok (.iaload, 1) := by decide +kernel
theorem d_Md_findPieces_24 : decode c_Md_findPieces 24 = .ok (.if_icmp .ge 116, 3) := by decide +kernel
theorem d_Md_findPieces_27 : decode c_Md_findPieces 27 = .ok (.aload_n 0, 1) := by decide +kernel
theorem d_Md_findPieces_28 : decode c_Md_findPieces 28 = .ok (.getfield 26, 3) := by decide +kernel
theorem d_Md_findPieces_31 : decode c_Md_findPieces 31 = .ok (.iload_n 2, 1) := by decide +kernel
theorem d_Md_findPieces_32 : decode c_Md_findPieces 32 = .ok (.iaload, 1) := by decide +kernel
theorem d_Md_findPieces_33 : decode c_Md_findPieces 33 = .ok (.iload_n 1, 1) := by decide +kernel
theorem d_Md_findPieces_34 : decode c_Md_findPieces 34 = .ok (.if_icmp .ne 106, 3) := by decide +kernel
theorem d_Md_findPieces_37 : decode c_Md_findPieces 37 = .ok (.aload_n 0, 1) := by decide +kernel
theorem d_Md_findPieces_38 : decode c_Md_findPieces 38 = .ok (.getfield 175, 3) := by decide +kernel
theorem d_Md_findPieces_41 : decode c_Md_findPieces 41 = .ok (.istore 4, 2) := by decide +kernel
theorem d_Md_findPieces_43 : decode c_Md_findPieces 43 = .ok (.iload 4, 2) := by decide +kernel
theorem d_Md_findPieces_45 : decode c_Md_findPieces 45 = .ok (.ifCond .le 59, 3) := by decide +kernel
theorem d_Md_findPieces_48 : decode c_Md_findPieces 48 = .ok (.aload_n 0, 1) := by decide +kernel
theorem d_Md_findPieces_49 : decode c_Md_findPieces 49 = .ok (.getfield 63, 3) := by decide +kernel
theorem d_Md_findPieces_52 : decode c_Md_findPieces 52 = .ok (.iload 4, 2) := by decide +kernel
theorem d_Md_findPieces_54 : decode c_Md_findPieces 54 = .ok (.iconst 1, 1) := by decide +kernel
theorem d_Md_findPieces_55 : decode c_Md_findPieces 55 = .ok (.isub, 1) := by decide +kernel
theorem d_Md_findPieces_56 : decode c_Md_findPieces 56 = .ok (.laload, 1) := by decide +kernel
theorem d_Md_findPieces_57 : decode c_Md_findPieces 57 = .ok (.aload_n 0, 1) := by decide +kernel
theorem d_Md_findPieces_58 : decode c_Md_findPieces 58 = .ok (.iload_n 2, 1) := by decide +kernel
theorem d_Md_findPieces_59 : decode c_Md_findPieces 59 = .ok (.invokevirtual 172, 3) := by decide +kernel
theorem d_Md_findPieces_62 : decode c_Md_findPieces 62 = .ok (.lcmp, 1) := by decide +kernel
theorem d_Md_findPieces_63 : decode c_Md_findPieces 63 = .ok (.ifCond .ge 41, 3) := by decide +kernel
theorem d_Md_findPieces_66 : decode c_Md_findPieces 66 = .ok (.aload_n 0, 1) := by decide +kernel
theorem d_Md_findPieces_67 : decode c_Md_findPieces 67 = .ok (.getfield 63, 3) := by decide +kernel
theorem d_Md_findPieces_70 : decode c_Md_findPieces 70 = .ok (.iload 4, 2) := by decide +kernel
theorem d_Md_findPieces_72 : decode c_Md_findPieces 72 = .ok (.aload_n 0, 1) := by decide +kernel
theorem d_Md_findPieces_73 : decode c_Md_findPieces 73 = .ok (.getfield 63, 3) := by decide +kernel
theorem d_Md_findPieces_76 : decode c_Md_findPieces 76 = .ok (.iload 4, 2) := by decide +kernel
theorem d_Md_findPieces_78 : decode c_Md_findPieces 78 = .ok (.iconst 1, 1) := by decide +kernel
theorem d_Md_findPieces_79 : decode c_Md_findPieces 79 = .ok (.isub, 1) := by decide +kernel
theorem d_Md_findPieces_80 : decode c_Md_findPieces 80 = .ok (.laload, 1) := by decide +kernel
theorem d_Md_findPieces_81 : decode c_Md_findPieces 81 = .ok (.lastore, 1) := by decide +kernel
theorem d_Md_findPieces_82 : decode c_Md_findPieces 82 = .ok (.aload_n 0, 1) := by decide +kernel
theorem d_Md_findPieces_83 : decode c_Md_findPieces 83 = .ok (.getfield 60, 3) := by decide +kernel
theorem d_Md_findPieces_86 : decode c_Md_findPieces 86 = .ok (.iload 4, 2) := by decide +kernel
theorem d_Md_findPieces_88 : decode c_Md_findPieces 88 = .ok (.aload_n 0, 1) := by decide +kernel
theorem d_Md_findPieces_89 : decode c_Md_findPieces 89 = .ok (.getfield 60, 3) := by decide +kernel
theorem d_Md_findPieces_92 : decode c_Md_findPieces 92 = .ok (.iload 4, 2) := by decide +kernel
theorem d_Md_findPieces_94 : decode c_Md_findPieces 94 = .ok (.iconst 1, 1) := by decide +kernel
theorem d_Md_findPieces_95 : decode c_Md_findPieces 95 = .ok (.isub, 1) := by decide +kernel
theorem d_Md_findPieces_96 : decode c_Md_findPieces 96 = .ok (.iaload, 1) := by decide +kernel
theorem d_Md_findPieces_97 : decode c_Md_findPieces 97 = .ok (.iastore, 1) := by decide +kernel
theorem d_Md_findPieces_98 : decode c_Md_findPieces 98 = .ok (.iinc 4 (-1), 3) := by decide +kernel
theorem d_Md_findPieces_101 : decode c_Md_findPieces 101 = .ok (.goto (-58), 3) := by decide +kernel
theorem d_Md_findPieces_104 : decode c_Md_findPieces 104 = .ok (.aload_n 0, 1) := by decide +kernel
theorem d_Md_findPieces_105 : decode c_Md_findPieces 105 = .ok (.getfield 63, 3) := by decide +kernel
theorem d_Md_findPieces_108 : decode c_Md_findPieces 108 = .ok (.iload 4, 2) := by decide +kernel
theorem d_Md_findPieces_110 : decode c_Md_findPieces 110 = .ok (.aload_n 0, 1) := by decide +kernel
theorem d_Md_findPieces_111 : decode c_Md_findPieces 111 = .ok (.iload_n 2, 1) := by decide +kernel
theorem d_Md_findPieces_112 : decode c_Md_findPieces 112 = .ok (.invokevirtual 172, 3) := by decide +kernel
theorem d_Md_findPieces_115 : decode c_Md_findPieces 115 = .ok (.lastore, 1) := by decide +kernel
theorem d_Md_findPieces_116 : decode c_Md_findPieces 116 = .ok (.aload_n 0, 1) := by decide +kernel
theorem d_Md_findPieces_117 : decode c_Md_findPieces 117 = .ok (.getfield 60, 3) := by decide +kernel
theorem d_Md_findPieces_120 : decode c_Md_findPieces 120 = .ok (.iload 4, 2) := by decide +kernel
theorem d_Md_findPieces_122 : decode c_Md_findPieces 122 = .ok (.iload_n 2, 1) := by decide +kernel
theorem d_Md_findPieces_123 : decode c_Md_findPieces 123 = .ok (.iastore, 1) := by decide +kernel
theorem d_Md_findPieces_124 : decode c_Md_findPieces 124 = .ok (.aload_n 0, 1) := by decide +kernel
theorem d_Md_findPieces_125 : decode c_Md_findPieces 125 = .ok (.dup, 1) := by decide +kernel
theorem d_Md_findPieces_126 : decode c_Md_findPieces 126 = .ok (.getfield 175, 3) := by decide +kernel
theorem d_Md_findPieces_129 : decode c_Md_findPieces 129 = .ok (.iconst 1, 1) := by decide +kernel
theorem d_Md_findPieces_130 : decode c_Md_findPieces 130 = .ok (.iadd, 1) := by decide +kernel
theorem d_Md_findPieces_131 : decode c_Md_findPieces 131 = .ok (.putfield 175, 3) := by decide +kernel
theorem d_Md_findPieces_134 : decode c_Md_findPieces 134 = .ok (.iinc 3 1, 3) := by decide +kernel
theorem d_Md_findPieces_137 : decode c_Md_findPieces 137 = .ok (.goto (-120), 3) := by decide +kernel
theorem d_Md_findPieces_140 : decode c_Md_findPieces 140 = .ok (.iinc 2 1, 3) := by decide +kernel
theorem d_Md_findPieces_143 : decode c_Md_findPieces 143 = .ok (.goto (-136), 3) := by decide +kernel
theorem d_Md_findPieces_146 : decode c_Md_findPieces 146 = .ok (.return_, 1) := by decide +kernel
theorem d_Md_openBar_0 : decode c_Md_openBar 0 = .ok (.aload_n 0, 1) := by decide +kernel
theorem d_Md_openBar_1 : decode c_Md_openBar 1 = .ok (.getfield 81, 3) := by decide +kernel
theorem d_Md_openBar_4 : decode c_Md_openBar 4 = .ok (.aload_n 0, 1) := by decide +kernel
theorem d_Md_openBar_5 : decode c_Md_openBar 5 = .ok (.getfield 178, 3) := by decide +kernel
theorem d_Md_openBar_8 : decode c_Md_openBar 8 = .ok (.iload_n 1, 1) := by decide +kernel
theorem d_Md_openBar_9 : decode c_Md_openBar 9 = .ok (.iastore, 1) := by decide +kernel
theorem d_Md_openBar_10 : decode c_Md_openBar 10 = .ok (.aload_n 0, 1) := by decide +kernel
theorem d_Md_openBar_11 : decode c_Md_openBar 11 = .ok (.getfield 84, 3) := by decide +kernel
theorem d_Md_openBar_14 : decode c_Md_openBar 14 = .ok (.aload_n 0, 1) := by decide +kernel
theorem d_Md_openBar_15 : decode c_Md_openBar 15 = .ok (.getfield 178, 3) := by decide +kernel
theorem d_Md_openBar_18 : decode c_Md_openBar 18 = .ok (.aload_n 0, 1) := by decide +kernel
theorem d_Md_openBar_19 : decode c_Md_openBar 19 = .ok (.getfield 51, 3) := by decide +kernel
theorem d_Md_openBar_22 : decode c_Md_openBar 22 = .ok (.iconst 3, 1) := by decide +kernel
theorem d_Md_openBar_23 : decode c_Md_openBar 23 = .ok (.iload_n 1, 1) := by decide +kernel
theorem d_Md_openBar_24 : decode c_Md_openBar 24 = .ok (.imul, 1) := by decide +kernel
theorem d_Md_openBar_25 : decode c_Md_openBar 25 = .ok (.iload_n 2, 1) := by decide +kernel
theorem d_Md_openBar_26 : decode c_Md_openBar 26 = .ok (.iadd, 1) := by decide +kernel
theorem d_Md_openBar_27 : decode c_Md_openBar 27 = .ok (.laload, 1) := by decide +kernel
theorem d_Md_openBar_28 : decode c_Md_openBar 28 = .ok (.lastore, 1) := by decide +kernel
theorem d_Md_openBar_29 : decode c_Md_openBar 29 = .ok (.aload_n 0, 1) := by decide +kernel
theorem d_Md_openBar_30 : decode c_Md_openBar 30 = .ok (.getfield 93, 3) := by decide +kernel
theorem d_Md_openBar_33 : decode c_Md_openBar 33 = .ok (.aload_n 0, 1) := by decide +kernel
theorem d_Md_openBar_34 : decode c_Md_openBar 34 = .ok (.getfield 178, 3) := by decide +kernel
theorem d_Md_openBar_37 : decode c_Md_openBar 37 = .ok (.aload_n 0, 1) := by decide +kernel
theorem d_Md_openBar_38 : decode c_Md_openBar 38 = .ok (.getfield 84, 3) := by decide +kernel
theorem d_Md_openBar_41 : decode c_Md_openBar 41 = .ok (.aload_n 0, 1) := by decide +kernel
theorem d_Md_openBar_42 : decode c_Md_openBar 42 = .ok (.getfield 178, 3) := by decide +kernel
theorem d_Md_openBar_45 : decode c_Md_openBar 45 = .ok (.laload, 1) := by decide +kernel
theorem d_Md_openBar_46 : decode c_Md_openBar 46 = .ok (.lastore, 1) := by decide +kernel
theorem d_Md_openBar_47 : decode c_Md_openBar 47 = .ok (.aload_n 0, 1) := by decide +kernel
theorem d_Md_openBar_48 : decode c_Md_openBar 48 = .ok (.getfield 87, 3) := by decide +kernel
theorem d_Md_openBar_51 : decode c_Md_openBar 51 = .ok (.aload_n 0, 1) := by decide +kernel
theorem d_Md_openBar_52 : decode c_Md_openBar 52 = .ok (.getfield 178, 3) := by decide +kernel
theorem d_Md_openBar_55 : decode c_Md_openBar 55 = .ok (.iconst 0, 1) := by decide +kernel
theorem d_Md_openBar_56 : decode c_Md_openBar 56 = .ok (.iastore, 1) := by decide +kernel
theorem d_Md_openBar_57 : decode c_Md_openBar 57 = .ok (.aload_n 0, 1) := by decide +kernel
theorem d_Md_openBar_58 : decode c_Md_openBar 58 = .ok (.dup, 1) := by decide +kernel
theorem d_Md_openBar_59 : decode c_Md_openBar 59 = .ok (.getfield 178, 3) := by decide +kernel
theorem d_Md_openBar_62 : decode c_Md_openBar 62 = .ok (.iconst 1, 1) := by decide +kernel
theorem d_Md_openBar_63 : decode c_Md_openBar 63 = .ok (.iadd, 1) := by decide +kernel
theorem d_Md_openBar_64 : decode c_Md_openBar 64 = .ok (.putfield 178, 3) := by decide +kernel
theorem d_Md_openBar_67 : decode c_Md_openBar 67 = .ok (.aload_n 0, 1) := by decide +kernel
theorem d_Md_openBar_68 : decode c_Md_openBar 68 = .ok (.getfield 57, 3) := by decide +kernel
theorem d_Md_openBar_71 : decode c_Md_openBar 71 = .ok (.iload_n 2, 1) := by decide +kernel
theorem d_Md_openBar_72 : decode c_Md_openBar 72 = .ok (.dup2, 1) := by decide +kernel
theorem d_Md_openBar_73 : decode c_Md_openBar 73 = .ok (.iaload, 1) := by decide +kernel
theorem d_Md_openBar_74 : decode c_Md_openBar 74 = .ok (.iconst 1, 1) := by decide +kernel
theorem d_Md_openBar_75 : decode c_Md_openBar 75 = .ok (.isub, 1) := by decide +kernel
theorem d_Md_openBar_76 : decode c_Md_openBar 76 = .ok (.iastore, 1) := by decide +kernel
theorem d_Md_openBar_77 : decode c_Md_openBar 77 = .ok (.return_, 1) := by decide +kernel
theorem d_Md_put_0 : decode c_Md_put 0 = .ok (.aload_n 0, 1) := by decide +kernel
theorem d_Md_put_1 : decode c_Md_put 1 = .ok (.getfield 90, 3) := by decide +kernel
theorem d_Md_put_4 : decode c_Md_put 4 = .ok (.bipush 60, 2) := by decide +kernel
theorem d_Md_put_6 : decode c_Md_put 6 = .ok (.iload_n 1, 1) := by decide +kernel
theorem d_Md_put_7 : decode c_Md_put 7 = .ok (.imul, 1) := by decide +kernel
theorem d_Md_put_8 : decode c_Md_put 8 = .ok (.aload_n 0, 1) := by decide +kernel
theorem d_Md_put_9 : decode c_Md_put 9 = .ok (.getfield 87, 3) := by decide +kernel
theorem d_Md_put_12 : decode c_Md_put 12 = .ok (.iload_n 1, 1) := by decide +kernel
theorem d_Md_put_13 : decode c_Md_put 13 = .ok (.iaload, 1) := by decide +kernel
theorem d_Md_put_14 : decode c_Md_put 14 = .ok (.iadd, 1) := by decide +kernel
theorem d_Md_put_15 : decode c_Md_put 15 = .ok (.aload_n 0, 1) := by decide +kernel
theorem d_Md_put_16 : decode c_Md_put 16 = .ok (.getfield 60, 3) := by decide +kernel
theorem d_Md_put_19 : decode c_Md_put 19 = .ok (.iload_n 2, 1) := by decide +kernel
theorem d_Md_put_20 : decode c_Md_put 20 = .ok (.iaload, 1) := by decide +kernel
theorem d_Md_put_21 : decode c_Md_put 21 = .ok (.iastore, 1) := by decide +kernel
theorem d_Md_put_22 : decode c_Md_put 22 = .ok (.aload_n 0, 1) := by decide +kernel
theorem d_Md_put_23 : decode c_Md_put 23 = .ok (.getfield 87, 3) := by decide +kernel
theorem d_Md_put_26 : decode c_Md_put 26 = .ok (.iload_n 1, 1) := by decide +kernel
theorem d_Md_put_27 : decode c_Md_put 27 = .ok (.dup2, 1) := by decide +kernel
theorem d_Md_put_28 : decode c_Md_put 28 = .ok (.iaload, 1) := by decide +kernel
theorem d_Md_put_29 : decode c_Md_put 29 = .ok (.iconst 1, 1) := by decide +kernel
theorem d_Md_put_30 : decode c_Md_put 30 = .ok (.iadd, 1) := by decide +kernel
theorem d_Md_put_31 : decode c_Md_put 31 = .ok (.iastore, 1) := by decide +kernel
theorem d_Md_put_32 : decode c_Md_put 32 = .ok (.aload_n 0, 1) := by decide +kernel
theorem d_Md_put_33 : decode c_Md_put 33 = .ok (.getfield 93, 3) := by decide +kernel
theorem d_Md_put_36 : decode c_Md_put 36 = .ok (.iload_n 1, 1) := by decide +kernel
theorem d_Md_put_37 : decode c_Md_put 37 = .ok (.dup2, 1) := by decide +kernel
theorem d_Md_put_38 : decode c_Md_put 38 = .ok (.laload, 1) := by decide +kernel
theorem d_Md_put_39 : decode c_Md_put 39 = .ok (.aload_n 0, 1) := by decide +kernel
theorem d_Md_put_40 : decode c_Md_put 40 = .ok (.getfield 63, 3) := by decide +kernel
theorem d_Md_put_43 : decode c_Md_put 43 = .ok (.iload_n 2, 1) := by decide +kernel
theorem d_Md_put_44 : decode c_Md_put 44 = .ok (.laload, 1) := by decide +kernel
theorem d_Md_put_45 : decode c_Md_put 45 = .ok (.lsub, 1) := by decide +kernel
theorem d_Md_put_46 : decode c_Md_put 46 = .ok (.lastore, 1) := by decide +kernel
theorem d_Md_put_47 : decode c_Md_put 47 = .ok (.return_, 1) := by decide +kernel
theorem d_Md_kindFor_0 : decode c_Md_kindFor 0 = .ok (.bipush (-2), 2) := by decide +kernel
theorem d_Md_kindFor_2 : decode c_Md_kindFor 2 = .ok (.istore 4, 2) := by decide +kernel
theorem d_Md_kindFor_4 : decode c_Md_kindFor 4 = .ok (.iconst 0, 1) := by decide +kernel
theorem d_Md_kindFor_5 : decode c_Md_kindFor 5 = .ok (.istore 5, 2) := by decide +kernel
theorem d_Md_kindFor_7 : decode c_Md_kindFor 7 = .ok (.iload 5, 2) := by decide +kernel
theorem d_Md_kindFor_9 : decode c_Md_kindFor 9 = .ok (.aload_n 0, 1) := by decide +kernel
theorem d_Md_kindFor_10 : decode c_Md_kindFor 10 = .ok (.getfield 48, 3) := by decide +kernel
theorem d_Md_kindFor_13 : decode c_Md_kindFor 13 = .ok (.iload_n 1, 1) := by decide +kernel
theorem d_Md_kindFor_14 : decode c_Md_kindFor 14 = .ok (.iaload, 1) := by decide +kernel
theorem d_Md_kindFor_15 : decode c_Md_kindFor 15 = .ok (.if_icmp .ge 67, 3) := by decide +kernel
theorem d_Md_kindFor_18 : decode c_Md_kindFor 18 = .ok (.aload_n 0, 1) := by decide +kernel
theorem d_Md_kindFor_19 : decode c_Md_kindFor 19 = .ok (.getfield 51, 3) := by decide +kernel
theorem d_Md_kindFor_22 : decode c_Md_kindFor 22 = .ok (.iconst 3, 1) := by decide +kernel
theorem d_Md_kindFor_23 : decode c_Md_kindFor 23 = .ok (.iload_n 1, 1) := by decide +kernel
theorem d_Md_kindFor_24 : decode c_Md_kindFor 24 = .ok (.imul, 1) := by decide +kernel
theorem d_Md_kindFor_25 : decode c_Md_kindFor 25 = .ok (.iload 5, 2) := by decide +kernel
theorem d_Md_kindFor_27 : decode c_Md_kindFor 27 = .ok (.iadd, 1) := by decide +kernel
theorem d_Md_kindFor_28 : decode c_Md_kindFor 28 = .ok (.laload, 1) := by decide +kernel
theorem d_Md_kindFor_29 : decode c_Md_kindFor 29 = .ok (.lstore 6, 2) := by decide +kernel
theorem d_Md_kindFor_31 : decode c_Md_kindFor 31 = .ok (.aload_n 0, 1) := by decide +kernel
theorem d_Md_kindFor_32 : decode c_Md_kindFor 32 = .ok (.getfield 57, 3) := by decide +kernel
theorem d_Md_kindFor_35 : decode c_Md_kindFor 35 = .ok (.iload 5, 2) := by decide +kernel
theorem d_Md_kindFor_37 : decode c_Md_kindFor 37 = .ok (.iaload, 1) := by decide +kernel
theorem d_Md_kindFor_38 : decode c_Md_kindFor 38 = .ok (.ifCond .le 38, 3) := by decide +kernel
theorem d_Md_kindFor_41 : decode c_Md_kindFor 41 = .ok (.lload 6, 2) := by decide +kernel
theorem d_Md_kindFor_43 : decode c_Md_kindFor 43 = .ok (.lload_n 2, 1) := by decide +kernel
theorem d_Md_kindFor_44 : decode c_Md_kindFor 44 = .ok (.lcmp, 1) := by decide +kernel
theorem d_Md_kindFor_45 : decode c_Md_kindFor 45 = .ok (.ifCond .lt 31, 3) := by decide +kernel
theorem d_Md_kindFor_48 : decode c_Md_kindFor 48 = .ok (.iload 4, 2) := by decide +kernel
theorem d_Md_kindFor_50 : decode c_Md_kindFor 50 = .ok (.bipush (-2), 2) := by decide +kernel
theorem d_Md_kindFor_52 : decode c_Md_kindFor 52 = .ok (.if_icmp .eq 20, 3) := by decide +kernel
theorem d_Md_kindFor_55 : decode c_Md_kindFor 55 = .ok (.lload 6, 2) := by decide +kernel
theorem d_Md_kindFor_57 : decode c_Md_kindFor 57 = .ok (.aload_n 0, 1) := by decide +kernel
theorem d_Md_kindFor_58 : decode c_Md_kindFor 58 = .ok (.getfield 51, 3) := by decide +kernel
theorem d_Md_kindFor_61 : decode c_Md_kindFor 61 = .ok (.iconst 3, 1) := by decide +kernel
theorem d_Md_kindFor_62 : decode c_Md_kindFor 62 = .ok (.iload_n 1, 1) := by decide +kernel
theorem d_Md_kindFor_63 : decode c_Md_kindFor 63 = .ok (.imul, 1) := by decide +kernel
theorem d_Md_kindFor_64 : decode c_Md_kindFor 64 = .ok (.iload 4, 2) := by decide +kernel
theorem d_Md_kindFor_66 : decode c_Md_kindFor 66 = .ok (.iadd, 1) := by decide +kernel
theorem d_Md_kindFor_67 : decode c_Md_kindFor 67 = .ok (.laload, 1) := by decide +kernel
theorem d_Md_kindFor_68 : decode c_Md_kindFor 68 = .ok (.lcmp, 1) := by decide +kernel
theorem d_Md_kindFor_69 : decode c_Md_kindFor 69 = .ok (.ifCond .ge 7, 3) := by decide +kernel
theorem d_Md_kindFor_72 : decode c_Md_kindFor 72 = .ok (.iload 5, 2) := by decide +kernel
theorem d_Md_kindFor_74 : decode c_Md_kindFor 74 = .ok (.istore 4, 2) := by decide +kernel
theorem d_Md_kindFor_76 : decode c_Md_kindFor 76 = .ok (.iinc 5 1, 3) := by decide +kernel
theorem d_Md_kindFor_79 : decode c_Md_kindFor 79 = .ok (.goto (-72), 3) := by decide +kernel
theorem d_Md_kindFor_82 : decode c_Md_kindFor 82 = .ok (.iload 4, 2) := by decide +kernel
theorem d_Md_kindFor_84 : decode c_Md_kindFor 84 = .ok (.ireturn, 1) := by decide +kernel
theorem d_Md_cutInTurn_0 : decode c_Md_cutInTurn 0 = .ok (.aload_n 0, 1) := by decide +kernel
theorem d_Md_cutInTurn_1 : decode c_Md_cutInTurn 1 = .ok (.getfield 178, 3) := by decide +kernel
theorem d_Md_cutInTurn_4 : decode c_Md_cutInTurn 4 = .ok (.istore_n 2, 1) := by decide +kernel
theorem d_Md_cutInTurn_5 : decode c_Md_cutInTurn 5 = .ok (.iconst 0, 1) := by decide +kernel
theorem d_Md_cutInTurn_6 : decode c_Md_cutInTurn 6 = .ok (.istore_n 3, 1) := by decide +kernel
theorem d_Md_cutInTurn_7 : decode c_Md_cutInTurn 7 = .ok (.iload_n 3, 1) := by decide +kernel
theorem d_Md_cutInTurn_8 : decode c_Md_cutInTurn 8 = .ok (.aload_n 0, 1) := by decide +kernel
theorem d_Md_cutInTurn_9 : decode c_Md_cutInTurn 9 = .ok (.getfield 175, 3) := by decide +kernel
theorem d_Md_cutInTurn_12 : decode c_Md_cutInTurn 12 = .ok (.if_icmp .ge 89, 3) := by decide +kernel
theorem d_Md_cutInTurn_15 : decode c_Md_cutInTurn 15 = .ok (.iload_n 2, 1) := by decide +kernel
theorem d_Md_cutInTurn_16 : decode c_Md_cutInTurn 16 = .ok (.istore 4, 2) := by decide +kernel
theorem d_Md_cutInTurn_18 : decode c_Md_cutInTurn 18 = .ok (.iload 4, 2) := by decide +kernel
theorem d_Md_cutInTurn_20 : decode c_Md_cutInTurn 20 = .ok (.aload_n 0, 1) := by decide +kernel
theorem d_Md_cutInTurn_21 : decode c_Md_cutInTurn 21 = .ok (.getfield 178, 3) := by decide +kernel
theorem d_Md_cutInTurn_24 : decode c_Md_cutInTurn 24 = .ok (.if_icmp .ge 26, 3) := by decide +kernel
theorem d_Md_cutInTurn_27 : decode c_Md_cutInTurn 27 = .ok (.aload_n 0, 1) := by decide +kernel
theorem d_Md_cutInTurn_28 : decode c_Md_cutInTurn 28 = .ok (.getfield 93, 3) := by decide +kernel
theorem d_Md_cutInTurn_31 : decode c_Md_cutInTurn 31 = .ok (.iload 4, 2) := by decide +kernel
theorem d_Md_cutInTurn_33 : decode c_Md_cutInTurn 33 = .ok (.laload, 1) := by decide +kernel
theorem d_Md_cutInTurn_34 : decode c_Md_cutInTurn 34 = .ok (.aload_n 0, 1) := by decide +kernel
theorem d_Md_cutInTurn_35 : decode c_Md_cutInTurn 35 = .ok (.getfield 63, 3) := by decide +kernel
theorem d_Md_cutInTurn_38 : decode c_Md_cutInTurn 38 = .ok (.iload_n 3, 1) := by decide +kernel
theorem d_Md_cutInTurn_39 : decode c_Md_cutInTurn 39 = .ok (.laload, 1) := by decide +kernel
theorem d_Md_cutInTurn_40 : decode c_Md_cutInTurn 40 = .ok (.lcmp, 1) := by decide +kernel
theorem d_Md_cutInTurn_41 : decode c_Md_cutInTurn 41 = .ok (.ifCond .ge 9, 3) := by decide +kernel
theorem d_Md_cutInTurn_44 : decode c_Md_cutInTurn 44 = .ok (.iinc 4 1, 3) := by decide +kernel
theorem d_Md_cutInTurn_47 : decode c_Md_cutInTurn 47 = .ok (.goto (-29), 3) := by decide +kernel
theorem d_Md_cutInTurn_50 : decode c_Md_cutInTurn 50 = .ok (.iload 4, 2) := by decide +kernel
theorem d_Md_cutInTurn_52 : decode c_Md_cutInTurn 52 = .ok (.aload_n 0, 1) := by decide +kernel
theorem d_Md_cutInTurn_53 : decode c_Md_cutInTurn 53 = .ok (.getfield 178, 3) := by decide +kernel
theorem d_Md_cutInTurn_56 : decode c_Md_cutInTurn 56 = .ok (.if_icmp .ne 32, 3) := by decide +kernel
theorem d_Md_cutInTurn_59 : decode c_Md_cutInTurn 59 = .ok (.aload_n 0, 1) := by decide +kernel
theorem d_Md_cutInTurn_60 : decode c_Md_cutInTurn 60 = .ok (.iload_n 1, 1) := by decide +kernel
theorem d_Md_cutInTurn_61 : decode c_Md_cutInTurn 61 = .ok (.aload_n 0, 1) := by decide +kernel
theorem d_Md_cutInTurn_62 : decode c_Md_cutInTurn 62 = .ok (.getfield 63, 3) := by decide +kernel
theorem d_Md_cutInTurn_65 : decode c_Md_cutInTurn 65 = .ok (.iload_n 3, 1) := by decide +kernel
theorem d_Md_cutInTurn_66 : decode c_Md_cutInTurn 66 = .ok (.laload, 1) := by decide +kernel
theorem d_Md_cutInTurn_67 : decode c_Md_cutInTurn 67 = .ok (.invokevirtual 181, 3) := by decide +kernel
theorem d_Md_cutInTurn_70 : decode c_Md_cutInTurn 70 = .ok (.istore 5, 2) := by decide +kernel
theorem d_Md_cutInTurn_72 : decode c_Md_cutInTurn 72 = .ok (.iload 5, 2) := by decide +kernel
theorem d_Md_cutInTurn_74 : decode c_Md_cutInTurn 74 = .ok (.bipush (-2), 2) := by decide +kernel
theorem d_Md_cutInTurn_76 : decode c_Md_cutInTurn 76 = .ok (.if_icmp .ne 5, 3) := by decide +kernel
theorem d_Md_cutInTurn_79 : decode c_Md_cutInTurn 79 = .ok (.iconst 0, 1) := by decide +kernel
theorem d_Md_cutInTurn_80 : decode c_Md_cutInTurn 80 = .ok (.ireturn, 1) := by decide +kernel
theorem d_Md_cutInTurn_81 : decode c_Md_cutInTurn 81 = .ok (.aload_n 0, 1) := by decide +kernel
theorem d_Md_cutInTurn_82 : decode c_Md_cutInTurn 82 = .ok (.iload_n 1, 1) := by decide +kernel
theorem d_Md_cutInTurn_83 : decode c_Md_cutInTurn 83 = .ok (.iload 5, 2) := by decide +kernel
theorem d_Md_cutInTurn_85 : decode c_Md_cutInTurn 85 = .ok (.invokevirtual 185, 3) := by decide +kernel
theorem d_Md_cutInTurn_88 : decode c_Md_cutInTurn 88 = .ok (.aload_n 0, 1) := by decide +kernel
theorem d_Md_cutInTurn_89 : decode c_Md_cutInTurn 89 = .ok (.iload 4, 2) := by decide +kernel
theorem d_Md_cutInTurn_91 : decode c_Md_cutInTurn 91 = .ok (.iload_n 3, 1) := by decide +kernel
theorem d_Md_cutInTurn_92 : decode c_Md_cutInTurn 92 = .ok (.invokevirtual 189, 3) := by decide +kernel
theorem d_Md_cutInTurn_95 : decode c_Md_cutInTurn 95 = .ok (.iinc 3 1, 3) := by decide +kernel
theorem d_Md_cutInTurn_98 : decode c_Md_cutInTurn 98 = .ok (.goto (-91), 3) := by decide +kernel
theorem d_Md_cutInTurn_101 : decode c_Md_cutInTurn 101 = .ok (.iconst 1, 1) := by decide +kernel
theorem d_Md_cutInTurn_102 : decode c_Md_cutInTurn 102 = .ok (.ireturn, 1) := by decide +kernel
theorem d_Md_lengthOfSet_0 : decode c_Md_lengthOfSet 0 = .ok (.lconst 0, 1) := by decide +kernel
theorem d_Md_lengthOfSet_1 : decode c_Md_lengthOfSet 1 = .ok (.lstore_n 2, 1) := by decide +kernel
theorem d_Md_lengthOfSet_2 : decode c_Md_lengthOfSet 2 = .ok (.iconst 0, 1) := by decide +kernel
theorem d_Md_lengthOfSet_3 : decode c_Md_lengthOfSet 3 = .ok (.istore 4, 2) := by decide +kernel
theorem d_Md_lengthOfSet_5 : decode c_Md_lengthOfSet 5 = .ok (.iload 4, 2) := by decide +kernel
theorem d_Md_lengthOfSet_7 : decode c_Md_lengthOfSet 7 = .ok (.aload_n 0, 1) := by decide +kernel
theorem d_Md_lengthOfSet_8 : decode c_Md_lengthOfSet 8 = .ok (.getfield 175, 3) := by decide +kernel
theorem d_Md_lengthOfSet_11 : decode c_Md_lengthOfSet 11 = .ok (.if_icmp .ge 40, 3) := by decide +kernel
theorem d_Md_lengthOfSet_14 : decode c_Md_lengthOfSet 14 = .ok (.lload_n 2, 1) := by decide +kernel
theorem d_Md_lengthOfSet_15 : decode c_Md_lengthOfSet 15 = .ok (.iload_n 1, 1) := by decide +kernel
theorem d_Md_lengthOfSet_16 : decode c_Md_lengthOfSet 16 = .ok (.aload_n 0, 1) := by decide +kernel
theorem d_Md_lengthOfSet_17 : decode c_Md_lengthOfSet 17 = .ok (.getfield 175, 3) := by decide +kernel
theorem d_Md_lengthOfSet_20 : decode c_Md_lengthOfSet 20 = .ok (.iconst 1, 1) := by decide +kernel
theorem d_Md_lengthOfSet_21 : decode c_Md_lengthOfSet 21 = .ok (.isub, 1) := by decide +kernel
theorem d_Md_lengthOfSet_22 : decode c_Md_lengthOfSet 22 = .ok (.iload 4, 2) := by decide +kernel
theorem d_Md_lengthOfSet_24 : decode c_Md_lengthOfSet 24 = .ok (.isub, 1) := by decide +kernel
theorem d_Md_lengthOfSet_25 : decode c_Md_lengthOfSet 25 = .ok (.ishr, 1) := by decide +kernel
theorem d_Md_lengthOfSet_26 : decode c_Md_lengthOfSet 26 = .ok (.iconst 1, 1) := by decide +kernel
theorem d_Md_lengthOfSet_27 : decode c_Md_lengthOfSet 27 = .ok (.iand, 1) := by decide +kernel
theorem d_Md_lengthOfSet_28 : decode c_Md_lengthOfSet 28 = .ok (.iconst 1, 1) := by decide +kernel
theorem d_Md_lengthOfSet_29 : decode c_Md_lengthOfSet 29 = .ok (.if_icmp .ne 13, 3) := by decide +kernel
theorem d_Md_lengthOfSet_32 : decode c_Md_lengthOfSet 32 = .ok (.aload_n 0, 1) := by decide +kernel
theorem d_Md_lengthOfSet_33 : decode c_Md_lengthOfSet 33 = .ok (.getfield 63, 3) := by decide +kernel
theorem d_Md_lengthOfSet_36 : decode c_Md_lengthOfSet 36 = .ok (.iload 4, 2) := by decide +kernel
theorem d_Md_lengthOfSet_38 : decode c_Md_lengthOfSet 38 = .ok (.laload, 1) := by decide +kernel
theorem d_Md_lengthOfSet_39 : decode c_Md_lengthOfSet 39 = .ok (.goto 4, 3) := by decide +kernel
theorem d_Md_lengthOfSet_42 : decode c_Md_lengthOfSet 42 = .ok (.lconst 0, 1) := by decide +kernel
theorem d_Md_lengthOfSet_43 : decode c_Md_lengthOfSet 43 = .ok (.ladd, 1) := by decide +kernel
theorem d_Md_lengthOfSet_44 : decode c_Md_lengthOfSet 44 = .ok (.lstore_n 2, 1) := by decide +kernel
theorem d_Md_lengthOfSet_45 : decode c_Md_lengthOfSet 45 = .ok (.iinc 4 1, 3) := by decide +kernel
theorem d_Md_lengthOfSet_48 : decode c_Md_lengthOfSet 48 = .ok (.goto (-43), 3) := by decide +kernel
theorem d_Md_lengthOfSet_51 : decode c_Md_lengthOfSet 51 = .ok (.lload_n 2, 1) := by decide +kernel
theorem d_Md_lengthOfSet_52 : decode c_Md_lengthOfSet 52 = .ok (.lreturn, 1) := by decide +kernel
theorem d_Md_firstOf_0 : decode c_Md_firstOf 0 = .ok (.iconst 1, 1) := by decide +kernel
theorem d_Md_firstOf_1 : decode c_Md_firstOf 1 = .ok (.aload_n 0, 1) := by decide +kernel
theorem d_Md_firstOf_2 : decode c_Md_firstOf 2 = .ok (.getfield 175, 3) := by decide +kernel
theorem d_Md_firstOf_5 : decode c_Md_firstOf 5 = .ok (.ishl, 1) := by decide +kernel
theorem d_Md_firstOf_6 : decode c_Md_firstOf 6 = .ok (.istore_n 2, 1) := by decide +kernel
theorem d_Md_firstOf_7 : decode c_Md_firstOf 7 = .ok (.iload_n 1, 1) := by decide +kernel
theorem d_Md_firstOf_8 : decode c_Md_firstOf 8 = .ok (.iload_n 2, 1) := by decide +kernel
theorem d_Md_firstOf_9 : decode c_Md_firstOf 9 = .ok (.iand, 1) := by decide +kernel
theorem d_Md_firstOf_10 : decode c_Md_firstOf 10 = .ok (.ifCond .ne 10, 3) := by decide +kernel
theorem d_Md_firstOf_13 : decode c_Md_firstOf 13 = .ok (.iload_n 2, 1) := by decide +kernel
theorem d_Md_firstOf_14 : decode c_Md_firstOf 14 = .ok (.iconst 1, 1) := by decide +kernel
theorem d_Md_firstOf_15 : decode c_Md_firstOf 15 = .ok (.ishr, 1) := by decide +kernel
theorem d_Md_firstOf_16 : decode c_Md_firstOf 16 = .ok (.istore_n 2, 1) := by decide +kernel
theorem d_Md_firstOf_17 : decode c_Md_firstOf 17 = .ok (.goto (-10), 3) := by decide +kernel
theorem d_Md_firstOf_20 : decode c_Md_firstOf 20 = .ok (.iload_n 2, 1) := by decide +kernel
theorem d_Md_firstOf_21 : decode c_Md_firstOf 21 = .ok (.ireturn, 1) := by decide +kernel
theorem d_Md_cutBest_0 : decode c_Md_cutBest 0 = .ok (.iconst 0, 1) := by decide +kernel
theorem d_Md_cutBest_1 : decode c_Md_cutBest 1 = .ok (.istore_n 2, 1) := by decide +kernel
theorem d_Md_cutBest_2 : decode c_Md_cutBest 2 = .ok (.ldc2_w 170, 3) := by decide +kernel
theorem d_Md_cutBest_5 : decode c_Md_cutBest 5 = .ok (.lstore_n 3, 1) := by decide +kernel
theorem d_Md_cutBest_6 : decode c_Md_cutBest 6 = .ok (.iconst 0, 1) := by decide +kernel
theorem d_Md_cutBest_7 : decode c_Md_cutBest 7 = .ok (.istore 5, 2) := by decide +kernel
theorem d_Md_cutBest_9 : decode c_Md_cutBest 9 = .ok (.lconst 0, 1) := by decide +kernel
theorem d_Md_cutBest_10 : decode c_Md_cutBest 10 = .ok (.lstore 6, 2) := by decide +kernel
theorem d_Md_cutBest_12 : decode c_Md_cutBest 12 = .ok (.aload_n 0, 1) := by decide +kernel
theorem d_Md_cutBest_13 : decode c_Md_cutBest 13 = .ok (.getfield 66, 3) := by decide +kernel
theorem d_Md_cutBest_16 : decode c_Md_cutBest 16 = .ok (.iconst 0, 1) := by decide +kernel
theorem d_Md_cutBest_17 : decode c_Md_cutBest 17 = .ok (.iconst 1, 1) := by decide +kernel
theorem d_Md_cutBest_18 : decode c_Md_cutBest 18 = .ok (.aload_n 0, 1) := by decide +kernel
theorem d_Md_cutBest_19 : decode c_Md_cutBest 19 = .ok (.getfield 175, 3) := by decide +kernel
theorem d_Md_cutBest_22 : decode c_Md_cutBest 22 = .ok (.ishl, 1) := by decide +kernel
theorem d_Md_cutBest_23 : decode c_Md_cutBest 23 = .ok (.iconst 1, 1) := by decide +kernel
theorem d_Md_cutBest_24 : decode c_Md_cutBest 24 = .ok (.isub, 1) := by decide +kernel
theorem d_Md_cutBest_25 : decode c_Md_cutBest 25 = .ok (.iastore, 1) := by decide +kernel
theorem d_Md_cutBest_26 : decode c_Md_cutBest 26 = .ok (.aload_n 0, 1) := by decide +kernel
theorem d_Md_cutBest_27 : decode c_Md_cutBest 27 = .ok (.getfield 69, 3) := by decide +kernel
theorem d_Md_cutBest_30 : decode c_Md_cutBest 30 = .ok (.iconst 0, 1) := by decide +kernel
theorem d_Md_cutBest_31 : decode c_Md_cutBest 31 = .ok (.iconst 0, 1) := by decide +kernel
theorem d_Md_cutBest_32 : decode c_Md_cutBest 32 = .ok (.iastore, 1) := by decide +kernel
theorem d_Md_cutBest_33 : decode c_Md_cutBest 33 = .ok (.aload_n 0, 1) := by decide +kernel
theorem d_Md_cutBest_34 : decode c_Md_cutBest 34 = .ok (.getfield 72, 3) := by decide +kernel
theorem d_Md_cutBest_37 : decode c_Md_cutBest 37 = .ok (.iconst 0, 1) := by decide +kernel
theorem d_Md_cutBest_38 : decode c_Md_cutBest 38 = .ok (.aload_n 0, 1) := by decide +kernel
theorem d_Md_cutBest_39 : decode c_Md_cutBest 39 = .ok (.getfield 66, 3) := by decide +kernel
theorem d_Md_cutBest_42 : decode c_Md_cutBest 42 = .ok (.iconst 0, 1) := by decide +kernel
theorem d_Md_cutBest_43 : decode c_Md_cutBest 43 = .ok (.iaload, 1) := by decide +kernel
theorem d_Md_cutBest_44 : decode c_Md_cutBest 44 = .ok (.iconst 1, 1) := by decide +kernel
theorem d_Md_cutBest_45 : decode c_Md_cutBest 45 = .ok (.iadd, 1) := by decide +kernel
theorem d_Md_cutBest_46 : decode c_Md_cutBest 46 = .ok (.iastore, 1) := by decide +kernel
theorem d_Md_cutBest_47 : decode c_Md_cutBest 47 = .ok (.iload 5, 2) := by decide +kernel
theorem d_Md_cutBest_49 : decode c_Md_cutBest 49 = .ok (.ifCond .lt 379, 3) := by decide +kernel
theorem d_Md_cutBest_52 : decode c_Md_cutBest 52 = .ok (.aload_n 0, 1) := by decide +kernel
theorem d_Md_cutBest_53 : decode c_Md_cutBest 53 = .ok (.getfield 69, 3) := by decide +kernel
theorem d_Md_cutBest_56 : decode c_Md_cutBest 56 = .ok (.iload 5, 2) := by decide +kernel
theorem d_Md_cutBest_58 : decode c_Md_cutBest 58 = .ok (.iaload, 1) := by decide +kernel
theorem d_Md_cutBest_59 : decode c_Md_cutBest 59 = .ok (.istore 8, 2) := by decide +kernel
theorem d_Md_cutBest_61 : decode c_Md_cutBest 61 = .ok (.iload 8, 2) := by decide +kernel
theorem d_Md_cutBest_63 : decode c_Md_cutBest 63 = .ok (.aload_n 0, 1) := by decide +kernel
theorem d_Md_cutBest_64 : decode c_Md_cutBest 64 = .ok (.getfield 48, 3) := by decide +kernel
theorem d_Md_cutBest_67 : decode c_Md_cutBest 67 = .ok (.iload_n 1, 1) := by decide +kernel
theorem d_Md_cutBest_68 : decode c_Md_cutBest 68 = .ok (.iaload, 1) := by decide +kernel
theorem d_Md_cutBest_69 : decode c_Md_cutBest 69 = .ok (.if_icmp .ne 51, 3) := by decide +kernel
theorem d_Md_cutBest_72 : decode c_Md_cutBest 72 = .ok (.iinc 5 (-1), 3) := by decide +kernel
theorem d_Md_cutBest_75 : decode c_Md_cutBest 75 = .ok (.iload 5, 2) := by decide +kernel
theorem d_Md_cutBest_77 : decode c_Md_cutBest 77 = .ok (.ifCond .lt (-30), 3) := by decide +kernel
theorem d_Md_cutBest_80 : decode c_Md_cutBest 80 = .ok (.aload_n 0, 1) := by decide +kernel
theorem d_Md_cutBest_81 : decode c_Md_cutBest 81 = .ok (.getfield 57, 3) := by decide +kernel
theorem d_Md_cutBest_84 : decode c_Md_cutBest 84 = .ok (.aload_n 0, 1) := by decide +kernel
theorem d_Md_cutBest_85 : decode c_Md_cutBest 85 = .ok (.getfield 69, 3) := by decide +kernel
theorem d_Md_cutBest_88 : decode c_Md_cutBest 88 = .ok (.iload 5, 2) := by decide +kernel
theorem d_Md_cutBest_90 : decode c_Md_cutBest 90 = .ok (.iaload, 1) := by decide +kernel
theorem d_Md_cutBest_91 : decode c_Md_cutBest 91 = .ok (.dup2, 1) := by decide +kernel
theorem d_Md_cutBest_92 : decode c_Md_cutBest 92 = .ok (.iaload, 1) := by decide +kernel
theorem d_Md_cutBest_93 : decode c_Md_cutBest 93 = .ok (.iconst 1, 1) := by decide +kernel
theorem d_Md_cutBest_94 : decode c_Md_cutBest 94 = .ok (.iadd, 1) := by decide +kernel
theorem d_Md_cutBest_95 : decode c_Md_cutBest 95 = .ok (.iastore, 1) := by decide +kernel
theorem d_Md_cutBest_96 : decode c_Md_cutBest 96 = .ok (.lload 6, 2) := by decide +kernel
theorem d_Md_cutBest_98 : decode c_Md_cutBest 98 = .ok (.aload_n 0, 1) := by decide +kernel
theorem d_Md_cutBest_99 : decode c_Md_cutBest 99 = .ok (.getfield 51, 3) := by decide +kernel
theorem d_Md_cutBest_102 : decode c_Md_cutBest 102 = .ok (.iconst 3, 1) := by decide +kernel
theorem d_Md_cutBest_103 : decode c_Md_cutBest 103 = .ok (.iload_n 1, 1) := by decide +kernel
theorem d_Md_cutBest_104 : decode c_Md_cutBest 104 = .ok (.imul, 1) := by decide +kernel
theorem d_Md_cutBest_105 : decode c_Md_cutBest 105 = .ok (.aload_n 0, 1) := by decide +kernel
theorem d_Md_cutBest_106 : decode c_Md_cutBest 106 = .ok (.getfield 69, 3) := by decide +kernel
theorem d_Md_cutBest_109 : decode c_Md_cutBest 109 = .ok (.iload 5, 2) := by decide +kernel
theorem d_Md_cutBest_111 : decode c_Md_cutBest 111 = .ok (.iaload, 1) := by decide +kernel
theorem d_Md_cutBest_112 : decode c_Md_cutBest 112 = .ok (.iadd, 1) := by decide +kernel
theorem d_Md_cutBest_113 : decode c_Md_cutBest 113 = .ok (.laload, 1) := by decide +kernel
theorem d_Md_cutBest_114 : decode c_Md_cutBest 114 = .ok (.lsub, 1) := by decide +kernel
theorem d_Md_cutBest_115 : decode c_Md_cutBest 115 = .ok (.lstore 6, 2) := by decide +kernel
theorem d_Md_cutBest_117 : decode c_Md_cutBest 117 = .ok (.goto (-70), 3) := by decide +kernel
theorem d_Md_cutBest_120 : decode c_Md_cutBest 120 = .ok (.aload_n 0, 1) := by decide +kernel
theorem d_Md_cutBest_121 : decode c_Md_cutBest 121 = .ok (.getfield 66, 3) := by decide +kernel
theorem d_Md_cutBest_124 : decode c_Md_cutBest 124 = .ok (.iload 5, 2) := by decide +kernel
theorem d_Md_cutBest_126 : decode c_Md_cutBest 126 = .ok (.iaload, 1) := by decide +kernel
theorem d_Md_cutBest_127 : decode c_Md_cutBest 127 = .ok (.istore 9, 2) := by decide +kernel
theorem d_Md_cutBest_129 : decode c_Md_cutBest 129 = .ok (.aload_n 0, 1) := by decide +kernel
theorem d_Md_cutBest_130 : decode c_Md_cutBest 130 = .ok (.iload 9, 2) := by decide +kernel
theorem d_Md_cutBest_132 : decode c_Md_cutBest 132 = .ok (.invokevirtual 192, 3) := by decide +kernel
theorem d_Md_cutBest_135 : decode c_Md_cutBest 135 = .ok (.istore 10, 2) := by decide +kernel
theorem d_Md_cutBest_137 : decode c_Md_cutBest 137 = .ok (.aload_n 0, 1) := by decide +kernel
theorem d_Md_cutBest_138 : decode c_Md_cutBest 138 = .ok (.getfield 72, 3) := by decide +kernel
theorem d_Md_cutBest_141 : decode c_Md_cutBest 141 = .ok (.iload 5, 2) := by decide +kernel
theorem d_Md_cutBest_143 : decode c_Md_cutBest 143 = .ok (.iaload, 1) := by decide +kernel
theorem d_Md_cutBest_144 : decode c_Md_cutBest 144 = .ok (.iload 9, 2) := by decide +kernel
theorem d_Md_cutBest_146 : decode c_Md_cutBest 146 = .ok (.if_icmp .le 8, 3) := by decide +kernel
theorem d_Md_cutBest_149 : decode c_Md_cutBest 149 = .ok (.iload 9, 2) := by decide +kernel
theorem d_Md_cutBest_151 : decode c_Md_cutBest 151 = .ok (.goto 15, 3) := by decide +kernel
theorem d_Md_cutBest_154 : decode c_Md_cutBest 154 = .ok (.aload_n 0, 1) := by decide +kernel
theorem d_Md_cutBest_155 : decode c_Md_cutBest 155 = .ok (.getfield 72, 3) := by decide +kernel
theorem d_Md_cutBest_158 : decode c_Md_cutBest 158 = .ok (.iload 5, 2) := by decide +kernel
theorem d_Md_cutBest_160 : decode c_Md_cutBest 160 = .ok (.iaload, 1) := by decide +kernel
theorem d_Md_cutBest_161 : decode c_Md_cutBest 161 = .ok (.iconst 1, 1) := by decide +kernel
theorem d_Md_cutBest_162 : decode c_Md_cutBest 162 = .ok (.isub, 1) := by decide +kernel
theorem d_Md_cutBest_163 : decode c_Md_cutBest 163 = .ok (.iload 9, 2) := by decide +kernel
theorem d_Md_cutBest_165 : decode c_Md_cutBest 165 = .ok (.iand, 1) := by decide +kernel
theorem d_Md_cutBest_166 : decode c_Md_cutBest 166 = .ok (.istore 11, 2) := by decide +kernel
theorem d_Md_cutBest_168 : decode c_Md_cutBest 168 = .ok (.iload 11, 2) := by decide +kernel
theorem d_Md_cutBest_170 : decode c_Md_cutBest 170 = .ok (.iload 10, 2) := by decide +kernel
theorem d_Md_cutBest_172 : decode c_Md_cutBest 172 = .ok (.iand, 1) := by decide +kernel
theorem d_Md_cutBest_173 : decode c_Md_cutBest 173 = .ok (.ifCond .ne 28, 3) := by decide +kernel
theorem d_Md_cutBest_176 : decode c_Md_cutBest 176 = .ok (.aload_n 0, 1) := by decide +kernel
theorem d_Md_cutBest_177 : decode c_Md_cutBest 177 = .ok (.getfield 69, 3) := by decide +kernel
theorem d_Md_cutBest_180 : decode c_Md_cutBest 180 = .ok (.iload 5, 2) := by decide +kernel
theorem d_Md_cutBest_182 : decode c_Md_cutBest 182 = .ok (.dup2, 1) := by decide +kernel
theorem d_Md_cutBest_183 : decode c_Md_cutBest 183 = .ok (.iaload, 1) := by decide +kernel
theorem d_Md_cutBest_184 : decode c_Md_cutBest 184 = .ok (.iconst 1, 1) := by decide +kernel
theorem d_Md_cutBest_185 : decode c_Md_cutBest 185 = .ok (.iadd, 1) := by decide +kernel
theorem d_Md_cutBest_186 : decode c_Md_cutBest 186 = .ok (.iastore, 1) := by decide +kernel
theorem d_Md_cutBest_187 : decode c_Md_cutBest 187 = .ok (.aload_n 0, 1) := by decide +kernel
theorem d_Md_cutBest_188 : decode c_Md_cutBest 188 = .ok (.getfield 72, 3) := by decide +kernel
theorem d_Md_cutBest_191 : decode c_Md_cutBest 191 = .ok (.iload 5, 2) := by decide +kernel
theorem d_Md_cutBest_193 : decode c_Md_cutBest 193 = .ok (.iload 9, 2) := by decide +kernel
theorem d_Md_cutBest_195 : decode c_Md_cutBest 195 = .ok (.iconst 1, 1) := by decide +kernel
theorem d_Md_cutBest_196 : decode c_Md_cutBest 196 = .ok (.iadd, 1) := by decide +kernel
theorem d_Md_cutBest_197 : decode c_Md_cutBest 197 = .ok (.iastore, 1) := by decide +kernel
theorem d_Md_cutBest_198 : decode c_Md_cutBest 198 = .ok (.goto (-151), 3) := by decide +kernel
theorem d_Md_cutBest_201 : decode c_Md_cutBest 201 = .ok (.aload_n 0, 1) := by decide +kernel
theorem d_Md_cutBest_202 : decode c_Md_cutBest 202 = .ok (.getfield 72, 3) := by decide +kernel
theorem d_Md_cutBest_205 : decode c_Md_cutBest 205 = .ok (.iload 5, 2) := by decide +kernel
theorem d_Md_cutBest_207 : decode c_Md_cutBest 207 = .ok (.iload 11, 2) := by decide +kernel
theorem d_Md_cutBest_209 : decode c_Md_cutBest 209 = .ok (.iastore, 1) := by decide +kernel
theorem d_Md_cutBest_210 : decode c_Md_cutBest 210 = .ok (.aload_n 0, 1) := by decide +kernel
theorem d_Md_cutBest_211 : decode c_Md_cutBest 211 = .ok (.getfield 51, 3) := by decide +kernel
theorem d_Md_cutBest_214 : decode c_Md_cutBest 214 = .ok (.iconst 3, 1) := by decide +kernel
theorem d_Md_cutBest_215 : decode c_Md_cutBest 215 = .ok (.iload_n 1, 1) := by decide +kernel
theorem d_Md_cutBest_216 : decode c_Md_cutBest 216 = .ok (.imul, 1) := by decide +kernel
theorem d_Md_cutBest_217 : decode c_Md_cutBest 217 = .ok (.iload 8, 2) := by decide +kernel
theorem d_Md_cutBest_219 : decode c_Md_cutBest 219 = .ok (.iadd, 1) := by decide +kernel
theorem d_Md_cutBest_220 : decode c_Md_cutBest 220 = .ok (.laload, 1) := by decide +kernel
theorem d_Md_cutBest_221 : decode c_Md_cutBest 221 = .ok (.lstore 12, 2) := by decide +kernel
theorem d_Md_cutBest_223 : decode c_Md_cutBest 223 = .ok (.lload_n 3, 1) := by decide +kernel
theorem d_Md_cutBest_224 : decode c_Md_cutBest 224 = .ok (.lconst 0, 1) := by decide +kernel
theorem d_Md_cutBest_225 : decode c_Md_cutBest 225 = .ok (.lcmp, 1) := by decide +kernel
theorem d_Md_cutBest_226 : decode c_Md_cutBest 226 = .ok (.ifCond .lt 42, 3) := by decide +kernel
theorem d_Md_cutBest_229 : decode c_Md_cutBest 229 = .ok (.lload 6, 2) := by decide +kernel
theorem d_Md_cutBest_231 : decode c_Md_cutBest 231 = .ok (.lload 12, 2) := by decide +kernel
theorem d_Md_cutBest_233 : decode c_Md_cutBest 233 = .ok (.ladd, 1) := by decide +kernel
theorem d_Md_cutBest_234 : decode c_Md_cutBest 234 = .ok (.lload_n 3, 1) := by decide +kernel
theorem d_Md_cutBest_235 : decode c_Md_cutBest 235 = .ok (.lcmp, 1) := by decide +kernel
theorem d_Md_cutBest_236 : decode c_Md_cutBest 236 = .ok (.ifCond .gt 28, 3) := by decide +kernel
theorem d_Md_cutBest_239 : decode c_Md_cutBest 239 = .ok (.lload 6, 2) := by decide +kernel
theorem d_Md_cutBest_241 : decode c_Md_cutBest 241 = .ok (.lload 12, 2) := by decide +kernel
theorem d_Md_cutBest_243 : decode c_Md_cutBest 243 = .ok (.ladd, 1) := by decide +kernel
theorem d_Md_cutBest_244 : decode c_Md_cutBest 244 = .ok (.lload_n 3, 1) := by decide +kernel
theorem d_Md_cutBest_245 : decode c_Md_cutBest 245 = .ok (.lcmp, 1) := by decide +kernel
theorem d_Md_cutBest_246 : decode c_Md_cutBest 246 = .ok (.ifCond .ne 22, 3) := by decide +kernel
theorem d_Md_cutBest_249 : decode c_Md_cutBest 249 = .ok (.iload 11, 2) := by decide +kernel
theorem d_Md_cutBest_251 : decode c_Md_cutBest 251 = .ok (.iload 9, 2) := by decide +kernel
theorem d_Md_cutBest_253 : decode c_Md_cutBest 253 = .ok (.if_icmp .ne 11, 3) := by decide +kernel
theorem d_Md_cutBest_256 : decode c_Md_cutBest 256 = .ok (.iload 5, 2) := by decide +kernel
theorem d_Md_cutBest_258 : decode c_Md_cutBest 258 = .ok (.iconst 1, 1) := by decide +kernel
theorem d_Md_cutBest_259 : decode c_Md_cutBest 259 = .ok (.iadd, 1) := by decide +kernel
theorem d_Md_cutBest_260 : decode c_Md_cutBest 260 = .ok (.iload_n 2, 1) := by decide +kernel
theorem d_Md_cutBest_261 : decode c_Md_cutBest 261 = .ok (.if_icmp .lt 7, 3) := by decide +kernel
theorem d_Md_cutBest_264 : decode c_Md_cutBest 264 = .ok (.iconst 1, 1) := by decide +kernel
theorem d_Md_cutBest_265 : decode c_Md_cutBest 265 = .ok (.goto 4, 3) := by decide +kernel
theorem d_Md_cutBest_268 : decode c_Md_cutBest 268 = .ok (.iconst 0, 1) := by decide +kernel
theorem d_Md_cutBest_269 : decode c_Md_cutBest 269 = .ok (.istore 14, 2) := by decide +kernel
theorem d_Md_cutBest_271 : decode c_Md_cutBest 271 = .ok (.aload_n 0, 1) := by decide +kernel
theorem d_Md_cutBest_272 : decode c_Md_cutBest 272 = .ok (.getfield 57, 3) := by decide +kernel
theorem d_Md_cutBest_275 : decode c_Md_cutBest 275 = .ok (.iload 8, 2) := by decide +kernel
theorem d_Md_cutBest_277 : decode c_Md_cutBest 277 = .ok (.iaload, 1) := by decide +kernel
theorem d_Md_cutBest_278 : decode c_Md_cutBest 278 = .ok (.ifCond .eq (-231), 3) := by decide +kernel
theorem d_Md_cutBest_281 : decode c_Md_cutBest 281 = .ok (.iload 14, 2) := by decide +kernel
theorem d_Md_cutBest_283 : decode c_Md_cutBest 283 = .ok (.ifCond .ne (-236), 3) := by decide +kernel
theorem d_Md_cutBest_286 : decode c_Md_cutBest 286 = .ok (.aload_n 0, 1) := by decide +kernel
theorem d_Md_cutBest_287 : decode c_Md_cutBest 287 = .ok (.iload 11, 2) := by decide +kernel
theorem d_Md_cutBest_289 : decode c_Md_cutBest 289 = .ok (.invokevirtual 195, 3) := by decide +kernel
theorem d_Md_cutBest_292 : decode c_Md_cutBest 292 = .ok (.lload 12, 2) := by decide +kernel
theorem d_Md_cutBest_294 : decode c_Md_cutBest 294 = .ok (.lcmp, 1) := by decide +kernel
theorem d_Md_cutBest_295 : decode c_Md_cutBest 295 = .ok (.ifCond .le 6, 3) := by decide +kernel
theorem d_Md_cutBest_298 : decode c_Md_cutBest 298 = .ok (.goto (-251), 3) := by decide +kernel
theorem d_Md_cutBest_301 : decode c_Md_cutBest 301 = .ok (.iload 11, 2) := by decide +kernel
theorem d_Md_cutBest_303 : decode c_Md_cutBest 303 = .ok (.iload 9, 2) := by decide +kernel
theorem d_Md_cutBest_305 : decode c_Md_cutBest 305 = .ok (.if_icmp .ne 61, 3) := by decide +kernel
theorem d_Md_cutBest_308 : decode c_Md_cutBest 308 = .ok (.lload 6, 2) := by decide +kernel
theorem d_Md_cutBest_310 : decode c_Md_cutBest 310 = .ok (.lload 12, 2) := by decide +kernel
theorem d_Md_cutBest_312 : decode c_Md_cutBest 312 = .ok (.ladd, 1) := by decide +kernel
theorem d_Md_cutBest_313 : decode c_Md_cutBest 313 = .ok (.lstore_n 3, 1) := by decide +kernel
theorem d_Md_cutBest_314 : decode c_Md_cutBest 314 = .ok (.iload 5, 2) := by decide +kernel
theorem d_Md_cutBest_316 : decode c_Md_cutBest 316 = .ok (.iconst 1, 1) := by decide +kernel
theorem d_Md_cutBest_317 : decode c_Md_cutBest 317 = .ok (.iadd, 1) := by decide +kernel
theorem d_Md_cutBest_318 : decode c_Md_cutBest 318 = .ok (.istore_n 2, 1) := by decide +kernel
theorem d_Md_cutBest_319 : decode c_Md_cutBest 319 = .ok (.iconst 0, 1) := by decide +kernel
theorem d_Md_cutBest_320 : decode c_Md_cutBest 320 = .ok (.istore 15, 2) := by decide +kernel
theorem d_Md_cutBest_322 : decode c_Md_cutBest 322 = .ok (.iload 15, 2) := by decide +kernel
theorem d_Md_cutBest_324 : decode c_Md_cutBest 324 = .ok (.iload 5, 2) := by decide +kernel
theorem d_Md_cutBest_326 : decode c_Md_cutBest 326 = .ok (.if_icmp .gt 37, 3) := by decide +kernel
theorem d_Md_cutBest_329 : decode c_Md_cutBest 329 = .ok (.aload_n 0, 1) := by decide +kernel
theorem d_Md_cutBest_330 : decode c_Md_cutBest 330 = .ok (.getfield 75, 3) := by decide +kernel
theorem d_Md_cutBest_333 : decode c_Md_cutBest 333 = .ok (.iload 15, 2) := by decide +kernel
theorem d_Md_cutBest_335 : decode c_Md_cutBest 335 = .ok (.aload_n 0, 1) := by decide +kernel
theorem d_Md_cutBest_336 : decode c_Md_cutBest 336 = .ok (.getfield 69, 3) := by decide +kernel
theorem d_Md_cutBest_339 : decode c_Md_cutBest 339 = .ok (.iload 15, 2) := by decide +kernel
theorem d_Md_cutBest_341 : decode c_Md_cutBest 341 = .ok (.iaload, 1) := by decide +kernel
theorem d_Md_cutBest_342 : decode c_Md_cutBest 342 = .ok (.iastore, 1) := by decide +kernel
theorem d_Md_cutBest_343 : decode c_Md_cutBest 343 = .ok (.aload_n 0, 1) := by decide +kernel
theorem d_Md_cutBest_344 : decode c_Md_cutBest 344 = .ok (.getfield 78, 3) := by decide +kernel
theorem d_Md_cutBest_347 : decode c_Md_cutBest 347 = .ok (.iload 15, 2) := by decide +kernel
theorem d_Md_cutBest_349 : decode c_Md_cutBest 349 = .ok (.aload_n 0, 1) := by decide +kernel
theorem d_Md_cutBest_350 : decode c_Md_cutBest 350 = .ok (.getfield 72, 3) := by decide +kernel
theorem d_Md_cutBest_353 : decode c_Md_cutBest 353 = .ok (.iload 15, 2) := by decide +kernel
theorem d_Md_cutBest_355 : decode c_Md_cutBest 355 = .ok (.iaload, 1) := by decide +kernel
theorem d_Md_cutBest_356 : decode c_Md_cutBest 356 = .ok (.iastore, 1) := by decide +kernel
theorem d_Md_cutBest_357 : decode c_Md_cutBest 357 = .ok (.iinc 15 1, 3) := by decide +kernel
theorem d_Md_cutBest_360 : decode c_Md_cutBest 360 = .ok (.goto (-38), 3) := by decide +kernel
theorem d_Md_cutBest_363 : decode c_Md_cutBest 363 = .ok (.goto (-316), 3) := by decide +kernel
theorem d_Md_cutBest_366 : decode c_Md_cutBest 366 = .ok (.aload_n 0, 1) := by decide +kernel
theorem d_Md_cutBest_367 : decode c_Md_cutBest 367 = .ok (.getfield 57, 3) := by decide +kernel
theorem d_Md_cutBest_370 : decode c_Md_cutBest 370 = .ok (.iload 8, 2) := by decide +kernel
theorem d_Md_cutBest_372 : decode c_Md_cutBest 372 = .ok (.dup2, 1) := by decide +kernel
theorem d_Md_cutBest_373 : decode c_Md_cutBest 373 = .ok (.iaload, 1) := by decide +kernel
theorem d_Md_cutBest_374 : decode c_Md_cutBest 374 = .ok (.iconst 1, 1) := by decide +kernel
theorem d_Md_cutBest_375 : decode c_Md_cutBest 375 = .ok (.isub, 1) := by decide +kernel
theorem d_Md_cutBest_376 : decode c_Md_cutBest 376 = .ok (.iastore, 1) := by decide +kernel
theorem d_Md_cutBest_377 : decode c_Md_cutBest 377 = .ok (.lload 6, 2) := by decide +kernel
theorem d_Md_cutBest_379 : decode c_Md_cutBest 379 = .ok (.lload 12, 2) := by decide +kernel
theorem d_Md_cutBest_381 : decode c_Md_cutBest 381 = .ok (.ladd, 1) := by decide +kernel
theorem d_Md_cutBest_382 : decode c_Md_cutBest 382 = .ok (.lstore 6, 2) := by decide +kernel
theorem d_Md_cutBest_384 : decode c_Md_cutBest 384 = .ok (.iinc 5 1, 3) := by decide +kernel
theorem d_Md_cutBest_387 : decode c_Md_cutBest 387 = .ok (.aload_n 0, 1) := by decide +kernel
theorem d_Md_cutBest_388 : decode c_Md_cutBest 388 = .ok (.getfield 66, 3) := by decide +kernel
theorem d_Md_cutBest_391 : decode c_Md_cutBest 391 = .ok (.iload 5, 2) := by decide +kernel
theorem d_Md_cutBest_393 : decode c_Md_cutBest 393 = .ok (.iload 9, 2) := by decide +kernel
theorem d_Md_cutBest_395 : decode c_Md_cutBest 395 = .ok (.iload 11, 2) := by decide +kernel
theorem d_Md_cutBest_397 : decode c_Md_cutBest 397 = .ok (.iconst (-1), 1) := by decide +kernel
theorem d_Md_cutBest_398 : decode c_Md_cutBest 398 = .ok (.ixor, 1) := by decide +kernel
theorem d_Md_cutBest_399 : decode c_Md_cutBest 399 = .ok (.iand, 1) := by decide +kernel
theorem d_Md_cutBest_400 : decode c_Md_cutBest 400 = .ok (.iastore, 1) := by decide +kernel
theorem d_Md_cutBest_401 : decode c_Md_cutBest 401 = .ok (.aload_n 0, 1) := by decide +kernel
theorem d_Md_cutBest_402 : decode c_Md_cutBest 402 = .ok (.getfield 69, 3) := by decide +kernel
theorem d_Md_cutBest_405 : decode c_Md_cutBest 405 = .ok (.iload 5, 2) := by decide +kernel
theorem d_Md_cutBest_407 : decode c_Md_cutBest 407 = .ok (.iconst 0, 1) := by decide +kernel
theorem d_Md_cutBest_408 : decode c_Md_cutBest 408 = .ok (.iastore, 1) := by decide +kernel
theorem d_Md_cutBest_409 : decode c_Md_cutBest 409 = .ok (.aload_n 0, 1) := by decide +kernel
theorem d_Md_cutBest_410 : decode c_Md_cutBest 410 = .ok (.getfield 72, 3) := by decide +kernel
theorem d_Md_cutBest_413 : decode c_Md_cutBest 413 = .ok (.iload 5, 2) := by decide +kernel
theorem d_Md_cutBest_415 : decode c_Md_cutBest 415 = .ok (.aload_n 0, 1) := by decide +kernel
theorem d_Md_cutBest_416 : decode c_Md_cutBest 416 = .ok (.getfield 66, 3) := by decide +kernel
theorem d_Md_cutBest_419 : decode c_Md_cutBest 419 = .ok (.iload 5, 2) := by decide +kernel
theorem d_Md_cutBest_421 : decode c_Md_cutBest 421 = .ok (.iaload, 1) := by decide +kernel
theorem d_Md_cutBest_422 : decode c_Md_cutBest 422 = .ok (.iconst 1, 1) := by decide +kernel
theorem d_Md_cutBest_423 : decode c_Md_cutBest 423 = .ok (.iadd, 1) := by decide +kernel
theorem d_Md_cutBest_424 : decode c_Md_cutBest 424 = .ok (.iastore, 1) := by decide +kernel
theorem d_Md_cutBest_425 : decode c_Md_cutBest 425 = .ok (.goto (-378), 3) := by decide +kernel
theorem d_Md_cutBest_428 : decode c_Md_cutBest 428 = .ok (.iconst 0, 1) := by decide +kernel
theorem d_Md_cutBest_429 : decode c_Md_cutBest 429 = .ok (.istore 8, 2) := by decide +kernel
theorem d_Md_cutBest_431 : decode c_Md_cutBest 431 = .ok (.iload 8, 2) := by decide +kernel
theorem d_Md_cutBest_433 : decode c_Md_cutBest 433 = .ok (.iload_n 2, 1) := by decide +kernel
theorem d_Md_cutBest_434 : decode c_Md_cutBest 434 = .ok (.if_icmp .ge 74, 3) := by decide +kernel
theorem d_Md_cutBest_437 : decode c_Md_cutBest 437 = .ok (.aload_n 0, 1) := by decide +kernel
theorem d_Md_cutBest_438 : decode c_Md_cutBest 438 = .ok (.iload_n 1, 1) := by decide +kernel
theorem d_Md_cutBest_439 : decode c_Md_cutBest 439 = .ok (.aload_n 0, 1) := by decide +kernel
theorem d_Md_cutBest_440 : decode c_Md_cutBest 440 = .ok (.getfield 75, 3) := by decide +kernel
theorem d_Md_cutBest_443 : decode c_Md_cutBest 443 = .ok (.iload 8, 2) := by decide +kernel
theorem d_Md_cutBest_445 : decode c_Md_cutBest 445 = .ok (.iaload, 1) := by decide +kernel
theorem d_Md_cutBest_446 : decode c_Md_cutBest 446 = .ok (.invokevirtual 185, 3) := by decide +kernel
theorem d_Md_cutBest_449 : decode c_Md_cutBest 449 = .ok (.iconst 0, 1) := by decide +kernel
theorem d_Md_cutBest_450 : decode c_Md_cutBest 450 = .ok (.istore 9, 2) := by decide +kernel
theorem d_Md_cutBest_452 : decode c_Md_cutBest 452 = .ok (.iload 9, 2) := by decide +kernel
theorem d_Md_cutBest_454 : decode c_Md_cutBest 454 = .ok (.aload_n 0, 1) := by decide +kernel
theorem d_Md_cutBest_455 : decode c_Md_cutBest 455 = .ok (.getfield 175, 3) := by decide +kernel
theorem d_Md_cutBest_458 : decode c_Md_cutBest 458 = .ok (.if_icmp .ge 44, 3) := by decide +kernel
theorem d_Md_cutBest_461 : decode c_Md_cutBest 461 = .ok (.aload_n 0, 1) := by decide +kernel
theorem d_Md_cutBest_462 : decode c_Md_cutBest 462 = .ok (.getfield 78, 3) := by decide +kernel
theorem d_Md_cutBest_465 : decode c_Md_cutBest 465 = .ok (.iload 8, 2) := by decide +kernel
theorem d_Md_cutBest_467 : decode c_Md_cutBest 467 = .ok (.iaload, 1) := by decide +kernel
theorem d_Md_cutBest_468 : decode c_Md_cutBest 468 = .ok (.aload_n 0, 1) := by decide +kernel
theorem d_Md_cutBest_469 : decode c_Md_cutBest 469 = .ok (.getfield 175, 3) := by decide +kernel
theorem d_Md_cutBest_472 : decode c_Md_cutBest 472 = .ok (.iconst 1, 1) := by decide +kernel
theorem d_Md_cutBest_473 : decode c_Md_cutBest 473 = .ok (.isub, 1) := by decide +kernel
theorem d_Md_cutBest_474 : decode c_Md_cutBest 474 = .ok (.iload 9, 2) := by decide +kernel
theorem d_Md_cutBest_476 : decode c_Md_cutBest 476 = .ok (.isub, 1) := by decide +kernel
theorem d_Md_cutBest_477 : decode c_Md_cutBest 477 = .ok (.ishr, 1) := by decide +kernel
theorem d_Md_cutBest_478 : decode c_Md_cutBest 478 = .ok (.iconst 1, 1) := by decide +kernel
theorem d_Md_cutBest_479 : decode c_Md_cutBest 479 = .ok (.iand, 1) := by decide +kernel
theorem d_Md_cutBest_480 : decode c_Md_cutBest 480 = .ok (.iconst 1, 1) := by decide +kernel
theorem d_Md_cutBest_481 : decode c_Md_cutBest 481 = .ok (.if_icmp .ne 15, 3) := by decide +kernel
theorem d_Md_cutBest_484 : decode c_Md_cutBest 484 = .ok (.aload_n 0, 1) := by decide +kernel
theorem d_Md_cutBest_485 : decode c_Md_cutBest 485 = .ok (.aload_n 0, 1) := by decide +kernel
theorem d_Md_cutBest_486 : decode c_Md_cutBest 486 = .ok (.getfield 178, 3) := by decide +kernel
theorem d_Md_cutBest_489 : decode c_Md_cutBest 489 = .ok (.iconst 1, 1) := by decide +kernel
theorem d_Md_cutBest_490 : decode c_Md_cutBest 490 = .ok (.isub, 1) := by decide +kernel
theorem d_Md_cutBest_491 : decode c_Md_cutBest 491 = .ok (.iload 9, 2) := by decide +kernel
theorem d_Md_cutBest_493 : decode c_Md_cutBest 493 = .ok (.invokevirtual 189, 3) := by decide +kernel
theorem d_Md_cutBest_496 : decode c_Md_cutBest 496 = .ok (.iinc 9 1, 3) := by decide +kernel
theorem d_Md_cutBest_499 : decode c_Md_cutBest 499 = .ok (.goto (-47), 3) := by decide +kernel
theorem d_Md_cutBest_502 : decode c_Md_cutBest 502 = .ok (.iinc 8 1, 3) := by decide +kernel
theorem d_Md_cutBest_505 : decode c_Md_cutBest 505 = .ok (.goto (-74), 3) := by decide +kernel
theorem d_Md_cutBest_508 : decode c_Md_cutBest 508 = .ok (.lload_n 3, 1) := by decide +kernel
theorem d_Md_cutBest_509 : decode c_Md_cutBest 509 = .ok (.lconst 0, 1) := by decide +kernel
theorem d_Md_cutBest_510 : decode c_Md_cutBest 510 = .ok (.lcmp, 1) := by decide +kernel
theorem d_Md_cutBest_511 : decode c_Md_cutBest 511 = .ok (.ifCond .lt 7, 3) := by decide +kernel
theorem d_Md_cutBest_514 : decode c_Md_cutBest 514 = .ok (.iconst 1, 1) := by decide +kernel
theorem d_Md_cutBest_515 : decode c_Md_cutBest 515 = .ok (.goto 4, 3) := by decide +kernel
theorem d_Md_cutBest_518 : decode c_Md_cutBest 518 = .ok (.iconst 0, 1) := by decide +kernel
theorem d_Md_cutBest_519 : decode c_Md_cutBest 519 = .ok (.ireturn, 1) := by decide +kernel
