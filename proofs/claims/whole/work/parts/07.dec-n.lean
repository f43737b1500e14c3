theorem d_Md_run_0 : decode c_Md_run 0 = .ok (.lload_n 1, 1) := by decide +kernel
theorem d_Md_run_1 : decode c_Md_run 1 = .ok (.lconst 0, 1) := by decide +kernel
theorem d_Md_run_2 : decode c_Md_run 2 = .ok (.ldc2_w 198, 3) := by decide +kernel
theorem d_Md_run_5 : decode c_Md_run 5 = .ok (.invokestatic 128, 3) := by decide +kernel
theorem d_Md_run_8 : decode c_Md_run 8 = .ok (.ifCond .ne 5, 3) := by decide +kernel
theorem d_Md_run_11 : decode c_Md_run 11 = .ok (.iconst (-1), 1) := by decide +kernel
theorem d_Md_run_12 : decode c_Md_run 12 = .ok (.ireturn, 1) := by decide +kernel
theorem d_Md_run_13 : decode c_Md_run 13 = .ok (.aload_n 0, 1) := by decide +kernel
theorem d_Md_run_14 : decode c_Md_run 14 = .ok (.iconst 0, 1) := by decide +kernel
theorem d_Md_run_15 : decode c_Md_run 15 = .ok (.putfield 148, 3) := by decide +kernel
theorem d_Md_run_18 : decode c_Md_run 18 = .ok (.aload_n 0, 1) := by decide +kernel
theorem d_Md_run_19 : decode c_Md_run 19 = .ok (.iconst 0, 1) := by decide +kernel
theorem d_Md_run_20 : decode c_Md_run 20 = .ok (.putfield 178, 3) := by decide +kernel
theorem d_Md_run_23 : decode c_Md_run 23 = .ok (.aload_n 0, 1) := by decide +kernel
theorem d_Md_run_24 : decode c_Md_run 24 = .ok (.iconst 0, 1) := by decide +kernel
theorem d_Md_run_25 : decode c_Md_run 25 = .ok (.putfield 200, 3) := by decide +kernel
theorem d_Md_run_28 : decode c_Md_run 28 = .ok (.aload_n 0, 1) := by decide +kernel
theorem d_Md_run_29 : decode c_Md_run 29 = .ok (.iconst 0, 1) := by decide +kernel
theorem d_Md_run_30 : decode c_Md_run 30 = .ok (.putfield 203, 3) := by decide +kernel
theorem d_Md_run_33 : decode c_Md_run 33 = .ok (.iconst 0, 1) := by decide +kernel
theorem d_Md_run_34 : decode c_Md_run 34 = .ok (.istore_n 3, 1) := by decide +kernel
theorem d_Md_run_35 : decode c_Md_run 35 = .ok (.iload_n 3, 1) := by decide +kernel
theorem d_Md_run_36 : decode c_Md_run 36 = .ok (.aload_n 0, 1) := by decide +kernel
theorem d_Md_run_37 : decode c_Md_run 37 = .ok (.getfield 120, 3) := by decide +kernel
theorem d_Md_run_40 : decode c_Md_run 40 = .ok (.if_icmp .ge 21, 3) := by decide +kernel
theorem d_Md_run_43 : decode c_Md_run 43 = .ok (.aload_n 0, 1) := by decide +kernel
theorem d_Md_run_44 : decode c_Md_run 44 = .ok (.iload_n 3, 1) := by decide +kernel
theorem d_Md_run_45 : decode c_Md_run 45 = .ok (.invokevirtual 172, 3) := by decide +kernel
theorem d_Md_run_48 : decode c_Md_run 48 = .ok (.lconst 0, 1) := by decide +kernel
theorem d_Md_run_49 : decode c_Md_run 49 = .ok (.lcmp, 1) := by decide +kernel
theorem d_Md_run_50 : decode c_Md_run 50 = .ok (.ifCond .ne 5, 3) := by decide +kernel
theorem d_Md_run_53 : decode c_Md_run 53 = .ok (.iconst (-1), 1) := by decide +kernel
theorem d_Md_run_54 : decode c_Md_run 54 = .ok (.ireturn, 1) := by decide +kernel
theorem d_Md_run_55 : decode c_Md_run 55 = .ok (.iinc 3 1, 3) := by decide +kernel
theorem d_Md_run_58 : decode c_Md_run 58 = .ok (.goto (-23), 3) := by decide +kernel
theorem d_Md_run_61 : decode c_Md_run 61 = .ok (.iconst 4, 1) := by decide +kernel
theorem d_Md_run_62 : decode c_Md_run 62 = .ok (.istore_n 3, 1) := by decide +kernel
theorem d_Md_run_63 : decode c_Md_run 63 = .ok (.iload_n 3, 1) := by decide +kernel
theorem d_Md_run_64 : decode c_Md_run 64 = .ok (.bipush 40, 2) := by decide +kernel
theorem d_Md_run_66 : decode c_Md_run 66 = .ok (.if_icmp .gt 134, 3) := by decide +kernel
theorem d_Md_run_69 : decode c_Md_run 69 = .ok (.aload_n 0, 1) := by decide +kernel
theorem d_Md_run_70 : decode c_Md_run 70 = .ok (.iload_n 3, 1) := by decide +kernel
theorem d_Md_run_71 : decode c_Md_run 71 = .ok (.invokevirtual 206, 3) := by decide +kernel
theorem d_Md_run_74 : decode c_Md_run 74 = .ok (.aload_n 0, 1) := by decide +kernel
theorem d_Md_run_75 : decode c_Md_run 75 = .ok (.getfield 175, 3) := by decide +kernel
theorem d_Md_run_78 : decode c_Md_run 78 = .ok (.ifCond .le 116, 3) := by decide +kernel
theorem d_Md_run_81 : decode c_Md_run 81 = .ok (.iconst 0, 1) := by decide +kernel
theorem d_Md_run_82 : decode c_Md_run 82 = .ok (.istore 4, 2) := by decide +kernel
theorem d_Md_run_84 : decode c_Md_run 84 = .ok (.iload 4, 2) := by decide +kernel
theorem d_Md_run_86 : decode c_Md_run 86 = .ok (.iconst 3, 1) := by decide +kernel
theorem d_Md_run_87 : decode c_Md_run 87 = .ok (.if_icmp .ge 42, 3) := by decide +kernel
theorem d_Md_run_90 : decode c_Md_run 90 = .ok (.aload_n 0, 1) := by decide +kernel
theorem d_Md_run_91 : decode c_Md_run 91 = .ok (.getfield 57, 3) := by decide +kernel
theorem d_Md_run_94 : decode c_Md_run 94 = .ok (.iload 4, 2) := by decide +kernel
theorem d_Md_run_96 : decode c_Md_run 96 = .ok (.iload 4, 2) := by decide +kernel
theorem d_Md_run_98 : decode c_Md_run 98 = .ok (.aload_n 0, 1) := by decide +kernel
theorem d_Md_run_99 : decode c_Md_run 99 = .ok (.getfield 48, 3) := by decide +kernel
theorem d_Md_run_102 : decode c_Md_run 102 = .ok (.iload_n 3, 1) := by decide +kernel
theorem d_Md_run_103 : decode c_Md_run 103 = .ok (.iaload, 1) := by decide +kernel
theorem d_Md_run_104 : decode c_Md_run 104 = .ok (.if_icmp .ge 17, 3) := by decide +kernel
theorem d_Md_run_107 : decode c_Md_run 107 = .ok (.aload_n 0, 1) := by decide +kernel
theorem d_Md_run_108 : decode c_Md_run 108 = .ok (.getfield 54, 3) := by decide +kernel
theorem d_Md_run_111 : decode c_Md_run 111 = .ok (.iconst 3, 1) := by decide +kernel
theorem d_Md_run_112 : decode c_Md_run 112 = .ok (.iload_n 3, 1) := by decide +kernel
theorem d_Md_run_113 : decode c_Md_run 113 = .ok (.imul, 1) := by decide +kernel
theorem d_Md_run_114 : decode c_Md_run 114 = .ok (.iload 4, 2) := by decide +kernel
theorem d_Md_run_116 : decode c_Md_run 116 = .ok (.iadd, 1) := by decide +kernel
theorem d_Md_run_117 : decode c_Md_run 117 = .ok (.iaload, 1) := by decide +kernel
theorem d_Md_run_118 : decode c_Md_run 118 = .ok (.goto 4, 3) := by decide +kernel
theorem d_Md_run_121 : decode c_Md_run 121 = .ok (.iconst 0, 1) := by decide +kernel
theorem d_Md_run_122 : decode c_Md_run 122 = .ok (.iastore, 1) := by decide +kernel
theorem d_Md_run_123 : decode c_Md_run 123 = .ok (.iinc 4 1, 3) := by decide +kernel
theorem d_Md_run_126 : decode c_Md_run 126 = .ok (.goto (-42), 3) := by decide +kernel
theorem d_Md_run_129 : decode c_Md_run 129 = .ok (.aload_n 0, 1) := by decide +kernel
theorem d_Md_run_130 : decode c_Md_run 130 = .ok (.dup, 1) := by decide +kernel
theorem d_Md_run_131 : decode c_Md_run 131 = .ok (.getfield 200, 3) := by decide +kernel
theorem d_Md_run_134 : decode c_Md_run 134 = .ok (.iconst 1, 1) := by decide +kernel
theorem d_Md_run_135 : decode c_Md_run 135 = .ok (.iadd, 1) := by decide +kernel
theorem d_Md_run_136 : decode c_Md_run 136 = .ok (.putfield 200, 3) := by decide +kernel
theorem d_Md_run_139 : decode c_Md_run 139 = .ok (.aload_n 0, 1) := by decide +kernel
theorem d_Md_run_140 : decode c_Md_run 140 = .ok (.dup, 1) := by decide +kernel
theorem d_Md_run_141 : decode c_Md_run 141 = .ok (.getfield 203, 3) := by decide +kernel
theorem d_Md_run_144 : decode c_Md_run 144 = .ok (.aload_n 0, 1) := by decide +kernel
theorem d_Md_run_145 : decode c_Md_run 145 = .ok (.getfield 175, 3) := by decide +kernel
theorem d_Md_run_148 : decode c_Md_run 148 = .ok (.i2l, 1) := by decide +kernel
theorem d_Md_run_149 : decode c_Md_run 149 = .ok (.lload_n 1, 1) := by decide +kernel
theorem d_Md_run_150 : decode c_Md_run 150 = .ok (.lcmp, 1) := by decide +kernel
theorem d_Md_run_151 : decode c_Md_run 151 = .ok (.ifCond .gt 7, 3) := by decide +kernel
theorem d_Md_run_154 : decode c_Md_run 154 = .ok (.iconst 1, 1) := by decide +kernel
theorem d_Md_run_155 : decode c_Md_run 155 = .ok (.goto 4, 3) := by decide +kernel
theorem d_Md_run_158 : decode c_Md_run 158 = .ok (.iconst 0, 1) := by decide +kernel
theorem d_Md_run_159 : decode c_Md_run 159 = .ok (.iadd, 1) := by decide +kernel
theorem d_Md_run_160 : decode c_Md_run 160 = .ok (.putfield 203, 3) := by decide +kernel
theorem d_Md_run_163 : decode c_Md_run 163 = .ok (.aload_n 0, 1) := by decide +kernel
theorem d_Md_run_164 : decode c_Md_run 164 = .ok (.getfield 175, 3) := by decide +kernel
theorem d_Md_run_167 : decode c_Md_run 167 = .ok (.i2l, 1) := by decide +kernel
theorem d_Md_run_168 : decode c_Md_run 168 = .ok (.lload_n 1, 1) := by decide +kernel
theorem d_Md_run_169 : decode c_Md_run 169 = .ok (.lcmp, 1) := by decide +kernel
theorem d_Md_run_170 : decode c_Md_run 170 = .ok (.ifCond .gt 14, 3) := by decide +kernel
theorem d_Md_run_173 : decode c_Md_run 173 = .ok (.aload_n 0, 1) := by decide +kernel
theorem d_Md_run_174 : decode c_Md_run 174 = .ok (.iload_n 3, 1) := by decide +kernel
theorem d_Md_run_175 : decode c_Md_run 175 = .ok (.invokevirtual 210, 3) := by decide +kernel
theorem d_Md_run_178 : decode c_Md_run 178 = .ok (.ifCond .ne 16, 3) := by decide +kernel
theorem d_Md_run_181 : decode c_Md_run 181 = .ok (.goto 11, 3) := by decide +kernel
theorem d_Md_run_184 : decode c_Md_run 184 = .ok (.aload_n 0, 1) := by decide +kernel
theorem d_Md_run_185 : decode c_Md_run 185 = .ok (.iload_n 3, 1) := by decide +kernel
theorem d_Md_run_186 : decode c_Md_run 186 = .ok (.invokevirtual 213, 3) := by decide +kernel
theorem d_Md_run_189 : decode c_Md_run 189 = .ok (.ifCond .ne 5, 3) := by decide +kernel
theorem d_Md_run_192 : decode c_Md_run 192 = .ok (.iconst (-1), 1) := by decide +kernel
theorem d_Md_run_193 : decode c_Md_run 193 = .ok (.ireturn, 1) := by decide +kernel
theorem d_Md_run_194 : decode c_Md_run 194 = .ok (.iinc 3 1, 3) := by decide +kernel
theorem d_Md_run_197 : decode c_Md_run 197 = .ok (.goto (-134), 3) := by decide +kernel
theorem d_Md_run_200 : decode c_Md_run 200 = .ok (.aload_n 0, 1) := by decide +kernel
theorem d_Md_run_201 : decode c_Md_run 201 = .ok (.iconst 1, 1) := by decide +kernel
theorem d_Md_run_202 : decode c_Md_run 202 = .ok (.putfield 148, 3) := by decide +kernel
theorem d_Md_run_205 : decode c_Md_run 205 = .ok (.aload_n 0, 1) := by decide +kernel
theorem d_Md_run_206 : decode c_Md_run 206 = .ok (.getfield 178, 3) := by decide +kernel
theorem d_Md_run_209 : decode c_Md_run 209 = .ok (.ireturn, 1) := by decide +kernel
theorem d_Md_piecesTogether_0 : decode c_Md_piecesTogether 0 = .ok (.lconst 0, 1) := by decide +kernel
theorem d_Md_piecesTogether_1 : decode c_Md_piecesTogether 1 = .ok (.lstore_n 1, 1) := by decide +kernel
theorem d_Md_piecesTogether_2 : decode c_Md_piecesTogether 2 = .ok (.iconst 0, 1) := by decide +kernel
theorem d_Md_piecesTogether_3 : decode c_Md_piecesTogether 3 = .ok (.istore_n 3, 1) := by decide +kernel
theorem d_Md_piecesTogether_4 : decode c_Md_piecesTogether 4 = .ok (.iload_n 3, 1) := by decide +kernel
theorem d_Md_piecesTogether_5 : decode c_Md_piecesTogether 5 = .ok (.aload_n 0, 1) := by decide +kernel
theorem d_Md_piecesTogether_6 : decode c_Md_piecesTogether 6 = .ok (.getfield 120, 3) := by decide +kernel
theorem d_Md_piecesTogether_9 : decode c_Md_piecesTogether 9 = .ok (.if_icmp .ge 25, 3) := by decide +kernel
theorem d_Md_piecesTogether_12 : decode c_Md_piecesTogether 12 = .ok (.lload_n 1, 1) := by decide +kernel
theorem d_Md_piecesTogether_13 : decode c_Md_piecesTogether 13 = .ok (.aload_n 0, 1) := by decide +kernel
theorem d_Md_piecesTogether_14 : decode c_Md_piecesTogether 14 = .ok (.getfield 29, 3) := by decide +kernel
theorem d_Md_piecesTogether_17 : decode c_Md_piecesTogether 17 = .ok (.iload_n 3, 1) := by decide +kernel
theorem d_Md_piecesTogether_18 : decode c_Md_piecesTogether 18 = .ok (.iaload, 1) := by decide +kernel
theorem d_Md_piecesTogether_19 : decode c_Md_piecesTogether 19 = .ok (.i2l, 1) := by decide +kernel
theorem d_Md_piecesTogether_20 : decode c_Md_piecesTogether 20 = .ok (.aload_n 0, 1) := by decide +kernel
theorem d_Md_piecesTogether_21 : decode c_Md_piecesTogether 21 = .ok (.iload_n 3, 1) := by decide +kernel
theorem d_Md_piecesTogether_22 : decode c_Md_piecesTogether 22 = .ok (.invokevirtual 172, 3) := by decide +kernel
theorem d_Md_piecesTogether_25 : decode c_Md_piecesTogether 25 = .ok (.lmul, 1) := by decide +kernel
theorem d_Md_piecesTogether_26 : decode c_Md_piecesTogether 26 = .ok (.ladd, 1) := by decide +kernel
theorem d_Md_piecesTogether_27 : decode c_Md_piecesTogether 27 = .ok (.lstore_n 1, 1) := by decide +kernel
theorem d_Md_piecesTogether_28 : decode c_Md_piecesTogether 28 = .ok (.iinc 3 1, 3) := by decide +kernel
theorem d_Md_piecesTogether_31 : decode c_Md_piecesTogether 31 = .ok (.goto (-27), 3) := by decide +kernel
theorem d_Md_piecesTogether_34 : decode c_Md_piecesTogether 34 = .ok (.lload_n 1, 1) := by decide +kernel
theorem d_Md_piecesTogether_35 : decode c_Md_piecesTogether 35 = .ok (.lreturn, 1) := by decide +kernel
theorem d_Md_loss_0 : decode c_Md_loss 0 = .ok (.aload_n 0, 1) := by decide +kernel
theorem d_Md_loss_1 : decode c_Md_loss 1 = .ok (.getfield 148, 3) := by decide +kernel
theorem d_Md_loss_4 : decode c_Md_loss 4 = .ok (.ifCond .eq 12, 3) := by decide +kernel
theorem d_Md_loss_7 : decode c_Md_loss 7 = .ok (.iload_n 1, 1) := by decide +kernel
theorem d_Md_loss_8 : decode c_Md_loss 8 = .ok (.ifCond .lt 8, 3) := by decide +kernel
theorem d_Md_loss_11 : decode c_Md_loss 11 = .ok (.iload_n 1, 1) := by decide +kernel
theorem d_Md_loss_12 : decode c_Md_loss 12 = .ok (.iconst 2, 1) := by decide +kernel
theorem d_Md_loss_13 : decode c_Md_loss 13 = .ok (.if_icmp .le 7, 3) := by decide +kernel
theorem d_Md_loss_16 : decode c_Md_loss 16 = .ok (.ldc2_w 170, 3) := by decide +kernel
theorem d_Md_loss_19 : decode c_Md_loss 19 = .ok (.lreturn, 1) := by decide +kernel
theorem d_Md_loss_20 : decode c_Md_loss 20 = .ok (.lconst 0, 1) := by decide +kernel
theorem d_Md_loss_21 : decode c_Md_loss 21 = .ok (.lstore_n 2, 1) := by decide +kernel
theorem d_Md_loss_22 : decode c_Md_loss 22 = .ok (.iconst 0, 1) := by decide +kernel
theorem d_Md_loss_23 : decode c_Md_loss 23 = .ok (.istore 4, 2) := by decide +kernel
theorem d_Md_loss_25 : decode c_Md_loss 25 = .ok (.iload 4, 2) := by decide +kernel
theorem d_Md_loss_27 : decode c_Md_loss 27 = .ok (.aload_n 0, 1) := by decide +kernel
theorem d_Md_loss_28 : decode c_Md_loss 28 = .ok (.getfield 178, 3) := by decide +kernel
theorem d_Md_loss_31 : decode c_Md_loss 31 = .ok (.if_icmp .ge 19, 3) := by decide +kernel
theorem d_Md_loss_34 : decode c_Md_loss 34 = .ok (.lload_n 2, 1) := by decide +kernel
theorem d_Md_loss_35 : decode c_Md_loss 35 = .ok (.aload_n 0, 1) := by decide +kernel
theorem d_Md_loss_36 : decode c_Md_loss 36 = .ok (.getfield 84, 3) := by decide +kernel
theorem d_Md_loss_39 : decode c_Md_loss 39 = .ok (.iload 4, 2) := by decide +kernel
theorem d_Md_loss_41 : decode c_Md_loss 41 = .ok (.laload, 1) := by decide +kernel
theorem d_Md_loss_42 : decode c_Md_loss 42 = .ok (.ladd, 1) := by decide +kernel
theorem d_Md_loss_43 : decode c_Md_loss 43 = .ok (.lstore_n 2, 1) := by decide +kernel
theorem d_Md_loss_44 : decode c_Md_loss 44 = .ok (.iinc 4 1, 3) := by decide +kernel
theorem d_Md_loss_47 : decode c_Md_loss 47 = .ok (.goto (-22), 3) := by decide +kernel
theorem d_Md_loss_50 : decode c_Md_loss 50 = .ok (.iload_n 1, 1) := by decide +kernel
theorem d_Md_loss_51 : decode c_Md_loss 51 = .ok (.ifCond .ne 12, 3) := by decide +kernel
theorem d_Md_loss_54 : decode c_Md_loss 54 = .ok (.lload_n 2, 1) := by decide +kernel
theorem d_Md_loss_55 : decode c_Md_loss 55 = .ok (.aload_n 0, 1) := by decide +kernel
theorem d_Md_loss_56 : decode c_Md_loss 56 = .ok (.invokevirtual 216, 3) := by decide +kernel
theorem d_Md_loss_59 : decode c_Md_loss 59 = .ok (.lsub, 1) := by decide +kernel
theorem d_Md_loss_60 : decode c_Md_loss 60 = .ok (.goto 16, 3) := by decide +kernel
theorem d_Md_loss_63 : decode c_Md_loss 63 = .ok (.iload_n 1, 1) := by decide +kernel
theorem d_Md_loss_64 : decode c_Md_loss 64 = .ok (.iconst 1, 1) := by decide +kernel
theorem d_Md_loss_65 : decode c_Md_loss 65 = .ok (.if_icmp .ne 7, 3) := by decide +kernel
theorem d_Md_loss_68 : decode c_Md_loss 68 = .ok (.lload_n 2, 1) := by decide +kernel
theorem d_Md_loss_69 : decode c_Md_loss 69 = .ok (.goto 7, 3) := by decide +kernel
theorem d_Md_loss_72 : decode c_Md_loss 72 = .ok (.aload_n 0, 1) := by decide +kernel
theorem d_Md_loss_73 : decode c_Md_loss 73 = .ok (.invokevirtual 216, 3) := by decide +kernel
theorem d_Md_loss_76 : decode c_Md_loss 76 = .ok (.lreturn, 1) := by decide +kernel
theorem d_Md_bound_0 : decode c_Md_bound 0 = .ok (.aload_n 0, 1) := by decide +kernel
theorem d_Md_bound_1 : decode c_Md_bound 1 = .ok (.getfield 148, 3) := by decide +kernel
theorem d_Md_bound_4 : decode c_Md_bound 4 = .ok (.ifCond .eq 12, 3) := by decide +kernel
theorem d_Md_bound_7 : decode c_Md_bound 7 = .ok (.iload_n 1, 1) := by decide +kernel
theorem d_Md_bound_8 : decode c_Md_bound 8 = .ok (.ifCond .lt 8, 3) := by decide +kernel
theorem d_Md_bound_11 : decode c_Md_bound 11 = .ok (.iload_n 1, 1) := by decide +kernel
theorem d_Md_bound_12 : decode c_Md_bound 12 = .ok (.iconst 1, 1) := by decide +kernel
theorem d_Md_bound_13 : decode c_Md_bound 13 = .ok (.if_icmp .le 7, 3) := by decide +kernel
theorem d_Md_bound_16 : decode c_Md_bound 16 = .ok (.ldc2_w 170, 3) := by decide +kernel
theorem d_Md_bound_19 : decode c_Md_bound 19 = .ok (.lreturn, 1) := by decide +kernel
theorem d_Md_bound_20 : decode c_Md_bound 20 = .ok (.iload_n 1, 1) := by decide +kernel
theorem d_Md_bound_21 : decode c_Md_bound 21 = .ok (.ifCond .ne 10, 3) := by decide +kernel
theorem d_Md_bound_24 : decode c_Md_bound 24 = .ok (.aload_n 0, 1) := by decide +kernel
theorem d_Md_bound_25 : decode c_Md_bound 25 = .ok (.invokevirtual 216, 3) := by decide +kernel
theorem d_Md_bound_28 : decode c_Md_bound 28 = .ok (.goto 8, 3) := by decide +kernel
theorem d_Md_bound_31 : decode c_Md_bound 31 = .ok (.aload_n 0, 1) := by decide +kernel
theorem d_Md_bound_32 : decode c_Md_bound 32 = .ok (.getfield 203, 3) := by decide +kernel
theorem d_Md_bound_35 : decode c_Md_bound 35 = .ok (.i2l, 1) := by decide +kernel
theorem d_Md_bound_36 : decode c_Md_bound 36 = .ok (.lreturn, 1) := by decide +kernel
theorem d_Md_proved_0 : decode c_Md_proved 0 = .ok (.aload_n 0, 1) := by decide +kernel
theorem d_Md_proved_1 : decode c_Md_proved 1 = .ok (.getfield 148, 3) := by decide +kernel
theorem d_Md_proved_4 : decode c_Md_proved 4 = .ok (.ifCond .eq 18, 3) := by decide +kernel
theorem d_Md_proved_7 : decode c_Md_proved 7 = .ok (.aload_n 0, 1) := by decide +kernel
theorem d_Md_proved_8 : decode c_Md_proved 8 = .ok (.getfield 203, 3) := by decide +kernel
theorem d_Md_proved_11 : decode c_Md_proved 11 = .ok (.aload_n 0, 1) := by decide +kernel
theorem d_Md_proved_12 : decode c_Md_proved 12 = .ok (.getfield 200, 3) := by decide +kernel
theorem d_Md_proved_15 : decode c_Md_proved 15 = .ok (.if_icmp .ne 7, 3) := by decide +kernel
theorem d_Md_proved_18 : decode c_Md_proved 18 = .ok (.iconst 1, 1) := by decide +kernel
theorem d_Md_proved_19 : decode c_Md_proved 19 = .ok (.goto 4, 3) := by decide +kernel
theorem d_Md_proved_22 : decode c_Md_proved 22 = .ok (.iconst 0, 1) := by decide +kernel
theorem d_Md_proved_23 : decode c_Md_proved 23 = .ok (.ireturn, 1) := by decide +kernel
theorem d_Md_pattern_0 : decode c_Md_pattern 0 = .ok (.aload_n 0, 1) := by decide +kernel
theorem d_Md_pattern_1 : decode c_Md_pattern 1 = .ok (.getfield 148, 3) := by decide +kernel
theorem d_Md_pattern_4 : decode c_Md_pattern 4 = .ok (.ifCond .eq 31, 3) := by decide +kernel
theorem d_Md_pattern_7 : decode c_Md_pattern 7 = .ok (.iload_n 1, 1) := by decide +kernel
theorem d_Md_pattern_8 : decode c_Md_pattern 8 = .ok (.ifCond .lt 27, 3) := by decide +kernel
theorem d_Md_pattern_11 : decode c_Md_pattern 11 = .ok (.iload_n 1, 1) := by decide +kernel
theorem d_Md_pattern_12 : decode c_Md_pattern 12 = .ok (.aload_n 0, 1) := by decide +kernel
theorem d_Md_pattern_13 : decode c_Md_pattern 13 = .ok (.getfield 178, 3) := by decide +kernel
theorem d_Md_pattern_16 : decode c_Md_pattern 16 = .ok (.if_icmp .ge 19, 3) := by decide +kernel
theorem d_Md_pattern_19 : decode c_Md_pattern 19 = .ok (.iload_n 2, 1) := by decide +kernel
theorem d_Md_pattern_20 : decode c_Md_pattern 20 = .ok (.ifCond .lt 15, 3) := by decide +kernel
theorem d_Md_pattern_23 : decode c_Md_pattern 23 = .ok (.iload_n 2, 1) := by decide +kernel
theorem d_Md_pattern_24 : decode c_Md_pattern 24 = .ok (.iconst 3, 1) := by decide +kernel
theorem d_Md_pattern_25 : decode c_Md_pattern 25 = .ok (.aload_n 0, 1) := by decide +kernel
theorem d_Md_pattern_26 : decode c_Md_pattern 26 = .ok (.getfield 87, 3) := by decide +kernel
theorem d_Md_pattern_29 : decode c_Md_pattern 29 = .ok (.iload_n 1, 1) := by decide +kernel
theorem d_Md_pattern_30 : decode c_Md_pattern 30 = .ok (.iaload, 1) := by decide +kernel
theorem d_Md_pattern_31 : decode c_Md_pattern 31 = .ok (.iadd, 1) := by decide +kernel
theorem d_Md_pattern_32 : decode c_Md_pattern 32 = .ok (.if_icmp .lt 5, 3) := by decide +kernel
theorem d_Md_pattern_35 : decode c_Md_pattern 35 = .ok (.iconst (-1), 1) := by decide +kernel
theorem d_Md_pattern_36 : decode c_Md_pattern 36 = .ok (.ireturn, 1) := by decide +kernel
theorem d_Md_pattern_37 : decode c_Md_pattern 37 = .ok (.iload_n 2, 1) := by decide +kernel
theorem d_Md_pattern_38 : decode c_Md_pattern 38 = .ok (.ifCond .ne 12, 3) := by decide +kernel
theorem d_Md_pattern_41 : decode c_Md_pattern 41 = .ok (.aload_n 0, 1) := by decide +kernel
theorem d_Md_pattern_42 : decode c_Md_pattern 42 = .ok (.getfield 81, 3) := by decide +kernel
theorem d_Md_pattern_45 : decode c_Md_pattern 45 = .ok (.iload_n 1, 1) := by decide +kernel
theorem d_Md_pattern_46 : decode c_Md_pattern 46 = .ok (.iaload, 1) := by decide +kernel
theorem d_Md_pattern_47 : decode c_Md_pattern 47 = .ok (.goto 45, 3) := by decide +kernel
theorem d_Md_pattern_50 : decode c_Md_pattern 50 = .ok (.iload_n 2, 1) := by decide +kernel
theorem d_Md_pattern_51 : decode c_Md_pattern 51 = .ok (.iconst 1, 1) := by decide +kernel
theorem d_Md_pattern_52 : decode c_Md_pattern 52 = .ok (.if_icmp .ne 13, 3) := by decide +kernel
theorem d_Md_pattern_55 : decode c_Md_pattern 55 = .ok (.aload_n 0, 1) := by decide +kernel
theorem d_Md_pattern_56 : decode c_Md_pattern 56 = .ok (.getfield 84, 3) := by decide +kernel
theorem d_Md_pattern_59 : decode c_Md_pattern 59 = .ok (.iload_n 1, 1) := by decide +kernel
theorem d_Md_pattern_60 : decode c_Md_pattern 60 = .ok (.laload, 1) := by decide +kernel
theorem d_Md_pattern_61 : decode c_Md_pattern 61 = .ok (.l2i, 1) := by decide +kernel
theorem d_Md_pattern_62 : decode c_Md_pattern 62 = .ok (.goto 30, 3) := by decide +kernel
theorem d_Md_pattern_65 : decode c_Md_pattern 65 = .ok (.iload_n 2, 1) := by decide +kernel
theorem d_Md_pattern_66 : decode c_Md_pattern 66 = .ok (.iconst 2, 1) := by decide +kernel
theorem d_Md_pattern_67 : decode c_Md_pattern 67 = .ok (.if_icmp .ne 12, 3) := by decide +kernel
theorem d_Md_pattern_70 : decode c_Md_pattern 70 = .ok (.aload_n 0, 1) := by decide +kernel
theorem d_Md_pattern_71 : decode c_Md_pattern 71 = .ok (.getfield 87, 3) := by decide +kernel
theorem d_Md_pattern_74 : decode c_Md_pattern 74 = .ok (.iload_n 1, 1) := by decide +kernel
theorem d_Md_pattern_75 : decode c_Md_pattern 75 = .ok (.iaload, 1) := by decide +kernel
theorem d_Md_pattern_76 : decode c_Md_pattern 76 = .ok (.goto 16, 3) := by decide +kernel
theorem d_Md_pattern_79 : decode c_Md_pattern 79 = .ok (.aload_n 0, 1) := by decide +kernel
theorem d_Md_pattern_80 : decode c_Md_pattern 80 = .ok (.getfield 90, 3) := by decide +kernel
theorem d_Md_pattern_83 : decode c_Md_pattern 83 = .ok (.bipush 60, 2) := by decide +kernel
theorem d_Md_pattern_85 : decode c_Md_pattern 85 = .ok (.iload_n 1, 1) := by decide +kernel
theorem d_Md_pattern_86 : decode c_Md_pattern 86 = .ok (.imul, 1) := by decide +kernel
theorem d_Md_pattern_87 : decode c_Md_pattern 87 = .ok (.iload_n 2, 1) := by decide +kernel
theorem d_Md_pattern_88 : decode c_Md_pattern 88 = .ok (.iadd, 1) := by decide +kernel
theorem d_Md_pattern_89 : decode c_Md_pattern 89 = .ok (.iconst 3, 1) := by decide +kernel
theorem d_Md_pattern_90 : decode c_Md_pattern 90 = .ok (.isub, 1) := by decide +kernel
theorem d_Md_pattern_91 : decode c_Md_pattern 91 = .ok (.iaload, 1) := by decide +kernel
theorem d_Md_pattern_92 : decode c_Md_pattern 92 = .ok (.ireturn, 1) := by decide +kernel
theorem d_Md_place_0 : decode c_Md_place 0 = .ok (.aload_n 0, 1) := by decide +kernel
theorem d_Md_place_1 : decode c_Md_place 1 = .ok (.iload_n 1, 1) := by decide +kernel
theorem d_Md_place_2 : decode c_Md_place 2 = .ok (.invokevirtual 154, 3) := by decide +kernel
theorem d_Md_place_5 : decode c_Md_place 5 = .ok (.ifCond .eq 44, 3) := by decide +kernel
theorem d_Md_place_8 : decode c_Md_place 8 = .ok (.lload_n 2, 1) := by decide +kernel
theorem d_Md_place_9 : decode c_Md_place 9 = .ok (.ldc2_w 220, 3) := by decide +kernel
theorem d_Md_place_12 : decode c_Md_place 12 = .ok (.ldc2_w 222, 3) := by decide +kernel
theorem d_Md_place_15 : decode c_Md_place 15 = .ok (.invokestatic 128, 3) := by decide +kernel
theorem d_Md_place_18 : decode c_Md_place 18 = .ok (.ifCond .eq 31, 3) := by decide +kernel
theorem d_Md_place_21 : decode c_Md_place 21 = .ok (.lload 4, 2) := by decide +kernel
theorem d_Md_place_23 : decode c_Md_place 23 = .ok (.ldc2_w 220, 3) := by decide +kernel
theorem d_Md_place_26 : decode c_Md_place 26 = .ok (.ldc2_w 222, 3) := by decide +kernel
theorem d_Md_place_29 : decode c_Md_place 29 = .ok (.invokestatic 128, 3) := by decide +kernel
theorem d_Md_place_32 : decode c_Md_place 32 = .ok (.ifCond .eq 17, 3) := by decide +kernel
theorem d_Md_place_35 : decode c_Md_place 35 = .ok (.lload 6, 2) := by decide +kernel
theorem d_Md_place_37 : decode c_Md_place 37 = .ok (.ldc2_w 220, 3) := by decide +kernel
theorem d_Md_place_40 : decode c_Md_place 40 = .ok (.ldc2_w 222, 3) := by decide +kernel
theorem d_Md_place_43 : decode c_Md_place 43 = .ok (.invokestatic 128, 3) := by decide +kernel
theorem d_Md_place_46 : decode c_Md_place 46 = .ok (.ifCond .ne 5, 3) := by decide +kernel
theorem d_Md_place_49 : decode c_Md_place 49 = .ok (.iconst 0, 1) := by decide +kernel
theorem d_Md_place_50 : decode c_Md_place 50 = .ok (.ireturn, 1) := by decide +kernel
theorem d_Md_place_51 : decode c_Md_place 51 = .ok (.aload_n 0, 1) := by decide +kernel
theorem d_Md_place_52 : decode c_Md_place 52 = .ok (.getfield 35, 3) := by decide +kernel
theorem d_Md_place_55 : decode c_Md_place 55 = .ok (.iload_n 1, 1) := by decide +kernel
theorem d_Md_place_56 : decode c_Md_place 56 = .ok (.iconst 1, 1) := by decide +kernel
theorem d_Md_place_57 : decode c_Md_place 57 = .ok (.bastore, 1) := by decide +kernel
theorem d_Md_place_58 : decode c_Md_place 58 = .ok (.aload_n 0, 1) := by decide +kernel
theorem d_Md_place_59 : decode c_Md_place 59 = .ok (.getfield 39, 3) := by decide +kernel
theorem d_Md_place_62 : decode c_Md_place 62 = .ok (.iload_n 1, 1) := by decide +kernel
theorem d_Md_place_63 : decode c_Md_place 63 = .ok (.lload_n 2, 1) := by decide +kernel
theorem d_Md_place_64 : decode c_Md_place 64 = .ok (.lastore, 1) := by decide +kernel
theorem d_Md_place_65 : decode c_Md_place 65 = .ok (.aload_n 0, 1) := by decide +kernel
theorem d_Md_place_66 : decode c_Md_place 66 = .ok (.getfield 42, 3) := by decide +kernel
theorem d_Md_place_69 : decode c_Md_place 69 = .ok (.iload_n 1, 1) := by decide +kernel
theorem d_Md_place_70 : decode c_Md_place 70 = .ok (.lload 4, 2) := by decide +kernel
theorem d_Md_place_72 : decode c_Md_place 72 = .ok (.lastore, 1) := by decide +kernel
theorem d_Md_place_73 : decode c_Md_place 73 = .ok (.aload_n 0, 1) := by decide +kernel
theorem d_Md_place_74 : decode c_Md_place 74 = .ok (.getfield 45, 3) := by decide +kernel
theorem d_Md_place_77 : decode c_Md_place 77 = .ok (.iload_n 1, 1) := by decide +kernel
theorem d_Md_place_78 : decode c_Md_place 78 = .ok (.lload 6, 2) := by decide +kernel
theorem d_Md_place_80 : decode c_Md_place 80 = .ok (.lastore, 1) := by decide +kernel
theorem d_Md_place_81 : decode c_Md_place 81 = .ok (.iconst 1, 1) := by decide +kernel
theorem d_Md_place_82 : decode c_Md_place 82 = .ok (.ireturn, 1) := by decide +kernel
theorem d_Md_isTold_0 : decode c_Md_isTold 0 = .ok (.iconst 1, 1) := by decide +kernel
theorem d_Md_isTold_1 : decode c_Md_isTold 1 = .ok (.istore_n 2, 1) := by decide +kernel
theorem d_Md_isTold_2 : decode c_Md_isTold 2 = .ok (.iconst 0, 1) := by decide +kernel
theorem d_Md_isTold_3 : decode c_Md_isTold 3 = .ok (.istore_n 3, 1) := by decide +kernel
theorem d_Md_isTold_4 : decode c_Md_isTold 4 = .ok (.iload_n 3, 1) := by decide +kernel
theorem d_Md_isTold_5 : decode c_Md_isTold 5 = .ok (.aload_n 0, 1) := by decide +kernel
theorem d_Md_isTold_6 : decode c_Md_isTold 6 = .ok (.getfield 13, 3) := by decide +kernel
theorem d_Md_isTold_9 : decode c_Md_isTold 9 = .ok (.aload_n 0, 1) := by decide +kernel
theorem d_Md_isTold_10 : decode c_Md_isTold 10 = .ok (.getfield 23, 3) := by decide +kernel
theorem d_Md_isTold_13 : decode c_Md_isTold 13 = .ok (.iload_n 1, 1) := by decide +kernel
theorem d_Md_isTold_14 : decode c_Md_isTold 14 = .ok (.iaload, 1) := by decide +kernel
theorem d_Md_isTold_15 : decode c_Md_isTold 15 = .ok (.iaload, 1) := by decide +kernel
theorem d_Md_isTold_16 : decode c_Md_isTold 16 = .ok (.if_icmp .ge 35, 3) := by decide +kernel
theorem d_Md_isTold_19 : decode c_Md_isTold 19 = .ok (.iload_n 2, 1) := by decide +kernel
theorem d_Md_isTold_20 : decode c_Md_isTold 20 = .ok (.ifCond .eq 23, 3) := by decide +kernel
theorem d_Md_isTold_23 : decode c_Md_isTold 23 = .ok (.aload_n 0, 1) := by decide +kernel
theorem d_Md_isTold_24 : decode c_Md_isTold 24 = .ok (.getfield 32, 3) := by decide +kernel
theorem d_Md_isTold_27 : decode c_Md_isTold 27 = .ok (.bipush 6, 2) := by decide +kernel
theorem d_Md_isTold_29 : decode c_Md_isTold 29 = .ok (.iload_n 1, 1) := by decide +kernel
theorem d_Md_isTold_30 : decode c_Md_isTold 30 = .ok (.imul, 1) := by decide +kernel
theorem d_Md_isTold_31 : decode c_Md_isTold 31 = .ok (.iload_n 3, 1) := by decide +kernel
theorem d_Md_isTold_32 : decode c_Md_isTold 32 = .ok (.iadd, 1) := by decide +kernel
theorem d_Md_isTold_33 : decode c_Md_isTold 33 = .ok (.laload, 1) := by decide +kernel
theorem d_Md_isTold_34 : decode c_Md_isTold 34 = .ok (.lconst 0, 1) := by decide +kernel
theorem d_Md_isTold_35 : decode c_Md_isTold 35 = .ok (.lcmp, 1) := by decide +kernel
theorem d_Md_isTold_36 : decode c_Md_isTold 36 = .ok (.ifCond .le 7, 3) := by decide +kernel
theorem d_Md_isTold_39 : decode c_Md_isTold 39 = .ok (.iconst 1, 1) := by decide +kernel
theorem d_Md_isTold_40 : decode c_Md_isTold 40 = .ok (.goto 4, 3) := by decide +kernel
theorem d_Md_isTold_43 : decode c_Md_isTold 43 = .ok (.iconst 0, 1) := by decide +kernel
theorem d_Md_isTold_44 : decode c_Md_isTold 44 = .ok (.istore_n 2, 1) := by decide +kernel
theorem d_Md_isTold_45 : decode c_Md_isTold 45 = .ok (.iinc 3 1, 3) := by decide +kernel
theorem d_Md_isTold_48 : decode c_Md_isTold 48 = .ok (.goto (-44), 3) := by decide +kernel
theorem d_Md_isTold_51 : decode c_Md_isTold 51 = .ok (.iload_n 2, 1) := by decide +kernel
theorem d_Md_isTold_52 : decode c_Md_isTold 52 = .ok (.ireturn, 1) := by decide +kernel
theorem d_Md_go_0 : decode c_Md_go 0 = .ok (.aload_n 0, 1) := by decide +kernel
theorem d_Md_go_1 : decode c_Md_go 1 = .ok (.getfield 96, 3) := by decide +kernel
theorem d_Md_go_4 : decode c_Md_go 4 = .ok (.aload_n 0, 1) := by decide +kernel
theorem d_Md_go_5 : decode c_Md_go 5 = .ok (.getfield 224, 3) := by decide +kernel
theorem d_Md_go_8 : decode c_Md_go 8 = .ok (.iload_n 1, 1) := by decide +kernel
theorem d_Md_go_9 : decode c_Md_go 9 = .ok (.ifCond .ne 7, 3) := by decide +kernel
theorem d_Md_go_12 : decode c_Md_go 12 = .ok (.lload_n 2, 1) := by decide +kernel
theorem d_Md_go_13 : decode c_Md_go 13 = .ok (.goto 14, 3) := by decide +kernel
theorem d_Md_go_16 : decode c_Md_go 16 = .ok (.iload_n 1, 1) := by decide +kernel
theorem d_Md_go_17 : decode c_Md_go 17 = .ok (.iconst 2, 1) := by decide +kernel
theorem d_Md_go_18 : decode c_Md_go 18 = .ok (.if_icmp .ne 8, 3) := by decide +kernel
theorem d_Md_go_21 : decode c_Md_go 21 = .ok (.lload_n 2, 1) := by decide +kernel
theorem d_Md_go_22 : decode c_Md_go 22 = .ok (.lneg, 1) := by decide +kernel
theorem d_Md_go_23 : decode c_Md_go 23 = .ok (.goto 4, 3) := by decide +kernel
theorem d_Md_go_26 : decode c_Md_go 26 = .ok (.lconst 0, 1) := by decide +kernel
theorem d_Md_go_27 : decode c_Md_go 27 = .ok (.lastore, 1) := by decide +kernel
theorem d_Md_go_28 : decode c_Md_go 28 = .ok (.aload_n 0, 1) := by decide +kernel
theorem d_Md_go_29 : decode c_Md_go 29 = .ok (.getfield 99, 3) := by decide +kernel
theorem d_Md_go_32 : decode c_Md_go 32 = .ok (.aload_n 0, 1) := by decide +kernel
theorem d_Md_go_33 : decode c_Md_go 33 = .ok (.getfield 224, 3) := by decide +kernel
theorem d_Md_go_36 : decode c_Md_go 36 = .ok (.iload_n 1, 1) := by decide +kernel
theorem d_Md_go_37 : decode c_Md_go 37 = .ok (.iconst 1, 1) := by decide +kernel
theorem d_Md_go_38 : decode c_Md_go 38 = .ok (.if_icmp .ne 7, 3) := by decide +kernel
theorem d_Md_go_41 : decode c_Md_go 41 = .ok (.lload_n 2, 1) := by decide +kernel
theorem d_Md_go_42 : decode c_Md_go 42 = .ok (.goto 14, 3) := by decide +kernel
theorem d_Md_go_45 : decode c_Md_go 45 = .ok (.iload_n 1, 1) := by decide +kernel
theorem d_Md_go_46 : decode c_Md_go 46 = .ok (.iconst 3, 1) := by decide +kernel
theorem d_Md_go_47 : decode c_Md_go 47 = .ok (.if_icmp .ne 8, 3) := by decide +kernel
theorem d_Md_go_50 : decode c_Md_go 50 = .ok (.lload_n 2, 1) := by decide +kernel
theorem d_Md_go_51 : decode c_Md_go 51 = .ok (.lneg, 1) := by decide +kernel
theorem d_Md_go_52 : decode c_Md_go 52 = .ok (.goto 4, 3) := by decide +kernel
theorem d_Md_go_55 : decode c_Md_go 55 = .ok (.lconst 0, 1) := by decide +kernel
theorem d_Md_go_56 : decode c_Md_go 56 = .ok (.lastore, 1) := by decide +kernel
theorem d_Md_go_57 : decode c_Md_go 57 = .ok (.aload_n 0, 1) := by decide +kernel
theorem d_Md_go_58 : decode c_Md_go 58 = .ok (.getfield 102, 3) := by decide +kernel
theorem d_Md_go_61 : decode c_Md_go 61 = .ok (.aload_n 0, 1) := by decide +kernel
theorem d_Md_go_62 : decode c_Md_go 62 = .ok (.getfield 224, 3) := by decide +kernel
theorem d_Md_go_65 : decode c_Md_go 65 = .ok (.iload 4, 2) := by decide +kernel
theorem d_Md_go_67 : decode c_Md_go 67 = .ok (.bastore, 1) := by decide +kernel
theorem d_Md_go_68 : decode c_Md_go 68 = .ok (.aload_n 0, 1) := by decide +kernel
theorem d_Md_go_69 : decode c_Md_go 69 = .ok (.dup, 1) := by decide +kernel
theorem d_Md_go_70 : decode c_Md_go 70 = .ok (.getfield 224, 3) := by decide +kernel
theorem d_Md_go_73 : decode c_Md_go 73 = .ok (.iconst 1, 1) := by decide +kernel
theorem d_Md_go_74 : decode c_Md_go 74 = .ok (.iadd, 1) := by decide +kernel
theorem d_Md_go_75 : decode c_Md_go 75 = .ok (.putfield 224, 3) := by decide +kernel
theorem d_Md_go_78 : decode c_Md_go 78 = .ok (.return_, 1) := by decide +kernel
theorem d_Md_draw_0 : decode c_Md_draw 0 = .ok (.aload_n 0, 1) := by decide +kernel
theorem d_Md_draw_1 : decode c_Md_draw 1 = .ok (.iconst 0, 1) := by decide +kernel
theorem d_Md_draw_2 : decode c_Md_draw 2 = .ok (.putfield 224, 3) := by decide +kernel
theorem d_Md_draw_5 : decode c_Md_draw 5 = .ok (.iconst 0, 1) := by decide +kernel
theorem d_Md_draw_6 : decode c_Md_draw 6 = .ok (.istore_n 2, 1) := by decide +kernel
theorem d_Md_draw_7 : decode c_Md_draw 7 = .ok (.iconst 0, 1) := by decide +kernel
theorem d_Md_draw_8 : decode c_Md_draw 8 = .ok (.istore_n 3, 1) := by decide +kernel
theorem d_Md_draw_9 : decode c_Md_draw 9 = .ok (.iload_n 3, 1) := by decide +kernel
theorem d_Md_draw_10 : decode c_Md_draw 10 = .ok (.aload_n 0, 1) := by decide +kernel
theorem d_Md_draw_11 : decode c_Md_draw 11 = .ok (.getfield 13, 3) := by decide +kernel
theorem d_Md_draw_14 : decode c_Md_draw 14 = .ok (.aload_n 0, 1) := by decide +kernel
theorem d_Md_draw_15 : decode c_Md_draw 15 = .ok (.getfield 23, 3) := by decide +kernel
theorem d_Md_draw_18 : decode c_Md_draw 18 = .ok (.iload_n 1, 1) := by decide +kernel
theorem d_Md_draw_19 : decode c_Md_draw 19 = .ok (.iaload, 1) := by decide +kernel
theorem d_Md_draw_20 : decode c_Md_draw 20 = .ok (.iaload, 1) := by decide +kernel
theorem d_Md_draw_21 : decode c_Md_draw 21 = .ok (.if_icmp .ge 117, 3) := by decide +kernel
theorem d_Md_draw_24 : decode c_Md_draw 24 = .ok (.iload_n 3, 1) := by decide +kernel
theorem d_Md_draw_25 : decode c_Md_draw 25 = .ok (.ifCond .ne 7, 3) := by decide +kernel
theorem d_Md_draw_28 : decode c_Md_draw 28 = .ok (.iconst 0, 1) := by decide +kernel
theorem d_Md_draw_29 : decode c_Md_draw 29 = .ok (.goto 21, 3) := by decide +kernel
theorem d_Md_draw_32 : decode c_Md_draw 32 = .ok (.aload_n 0, 1) := by decide +kernel
theorem d_Md_draw_33 : decode c_Md_draw 33 = .ok (.getfield 16, 3) := by decide +kernel
theorem d_Md_draw_36 : decode c_Md_draw 36 = .ok (.bipush 6, 2) := by decide +kernel
theorem d_Md_draw_38 : decode c_Md_draw 38 = .ok (.aload_n 0, 1) := by decide +kernel
theorem d_Md_draw_39 : decode c_Md_draw 39 = .ok (.getfield 23, 3) := by decide +kernel
theorem d_Md_draw_42 : decode c_Md_draw 42 = .ok (.iload_n 1, 1) := by decide +kernel
theorem d_Md_draw_43 : decode c_Md_draw 43 = .ok (.iaload, 1) := by decide +kernel
theorem d_Md_draw_44 : decode c_Md_draw 44 = .ok (.imul, 1) := by decide +kernel
theorem d_Md_draw_45 : decode c_Md_draw 45 = .ok (.iload_n 3, 1) := by decide +kernel
theorem d_Md_draw_46 : decode c_Md_draw 46 = .ok (.iadd, 1) := by decide +kernel
theorem d_Md_draw_47 : decode c_Md_draw 47 = .ok (.iconst 1, 1) := by decide +kernel
theorem d_Md_draw_48 : decode c_Md_draw 48 = .ok (.isub, 1) := by decide +kernel
theorem d_Md_draw_49 : decode c_Md_draw 49 = .ok (.iaload, 1) := by decide +kernel
theorem d_Md_draw_50 : decode c_Md_draw 50 = .ok (.istore 4, 2) := by decide +kernel
theorem d_Md_draw_52 : decode c_Md_draw 52 = .ok (.iload 4, 2) := by decide +kernel
theorem d_Md_draw_54 : decode c_Md_draw 54 = .ok (.iconst 3, 1) := by decide +kernel
theorem d_Md_draw_55 : decode c_Md_draw 55 = .ok (.if_icmp .ne 24, 3) := by decide +kernel
theorem d_Md_draw_58 : decode c_Md_draw 58 = .ok (.aload_n 0, 1) := by decide +kernel
theorem d_Md_draw_59 : decode c_Md_draw 59 = .ok (.iload_n 2, 1) := by decide +kernel
theorem d_Md_draw_60 : decode c_Md_draw 60 = .ok (.iconst 1, 1) := by decide +kernel
theorem d_Md_draw_61 : decode c_Md_draw 61 = .ok (.iadd, 1) := by decide +kernel
theorem d_Md_draw_62 : decode c_Md_draw 62 = .ok (.iconst 3, 1) := by decide +kernel
theorem d_Md_draw_63 : decode c_Md_draw 63 = .ok (.iand, 1) := by decide +kernel
theorem d_Md_draw_64 : decode c_Md_draw 64 = .ok (.ldc2_w 227, 3) := by decide +kernel
theorem d_Md_draw_67 : decode c_Md_draw 67 = .ok (.aload_n 0, 1) := by decide +kernel
theorem d_Md_draw_68 : decode c_Md_draw 68 = .ok (.getfield 26, 3) := by decide +kernel
theorem d_Md_draw_71 : decode c_Md_draw 71 = .ok (.iload_n 1, 1) := by decide +kernel
theorem d_Md_draw_72 : decode c_Md_draw 72 = .ok (.iaload, 1) := by decide +kernel
theorem d_Md_draw_73 : decode c_Md_draw 73 = .ok (.i2l, 1) := by decide +kernel
theorem d_Md_draw_74 : decode c_Md_draw 74 = .ok (.lmul, 1) := by decide +kernel
theorem d_Md_draw_75 : decode c_Md_draw 75 = .ok (.iconst 0, 1) := by decide +kernel
theorem d_Md_draw_76 : decode c_Md_draw 76 = .ok (.invokevirtual 229, 3) := by decide +kernel
theorem d_Md_draw_79 : decode c_Md_draw 79 = .ok (.iload_n 2, 1) := by decide +kernel
theorem d_Md_draw_80 : decode c_Md_draw 80 = .ok (.iload 4, 2) := by decide +kernel
theorem d_Md_draw_82 : decode c_Md_draw 82 = .ok (.iconst 1, 1) := by decide +kernel
theorem d_Md_draw_83 : decode c_Md_draw 83 = .ok (.if_icmp .ne 7, 3) := by decide +kernel
theorem d_Md_draw_86 : decode c_Md_draw 86 = .ok (.iconst 1, 1) := by decide +kernel
theorem d_Md_draw_87 : decode c_Md_draw 87 = .ok (.goto 24, 3) := by decide +kernel
theorem d_Md_draw_90 : decode c_Md_draw 90 = .ok (.iload 4, 2) := by decide +kernel
theorem d_Md_draw_92 : decode c_Md_draw 92 = .ok (.iconst 2, 1) := by decide +kernel
theorem d_Md_draw_93 : decode c_Md_draw 93 = .ok (.if_icmp .ne 7, 3) := by decide +kernel
theorem d_Md_draw_96 : decode c_Md_draw 96 = .ok (.iconst 3, 1) := by decide +kernel
theorem d_Md_draw_97 : decode c_Md_draw 97 = .ok (.goto 14, 3) := by decide +kernel
theorem d_Md_draw_100 : decode c_Md_draw 100 = .ok (.iload 4, 2) := by decide +kernel
theorem d_Md_draw_102 : decode c_Md_draw 102 = .ok (.iconst 3, 1) := by decide +kernel
theorem d_Md_draw_103 : decode c_Md_draw 103 = .ok (.if_icmp .ne 7, 3) := by decide +kernel
theorem d_Md_draw_106 : decode c_Md_draw 106 = .ok (.iconst 2, 1) := by decide +kernel
theorem d_Md_draw_107 : decode c_Md_draw 107 = .ok (.goto 4, 3) := by decide +kernel
theorem d_Md_draw_110 : decode c_Md_draw 110 = .ok (.iconst 0, 1) := by decide +kernel
theorem d_Md_draw_111 : decode c_Md_draw 111 = .ok (.iadd, 1) := by decide +kernel
theorem d_Md_draw_112 : decode c_Md_draw 112 = .ok (.iconst 3, 1) := by decide +kernel
theorem d_Md_draw_113 : decode c_Md_draw 113 = .ok (.iand, 1) := by decide +kernel
theorem d_Md_draw_114 : decode c_Md_draw 114 = .ok (.istore_n 2, 1) := by decide +kernel
theorem d_Md_draw_115 : decode c_Md_draw 115 = .ok (.aload_n 0, 1) := by decide +kernel
theorem d_Md_draw_116 : decode c_Md_draw 116 = .ok (.iload_n 2, 1) := by decide +kernel
theorem d_Md_draw_117 : decode c_Md_draw 117 = .ok (.aload_n 0, 1) := by decide +kernel
theorem d_Md_draw_118 : decode c_Md_draw 118 = .ok (.getfield 32, 3) := by decide +kernel
theorem d_Md_draw_121 : decode c_Md_draw 121 = .ok (.bipush 6, 2) := by decide +kernel
theorem d_Md_draw_123 : decode c_Md_draw 123 = .ok (.iload_n 1, 1) := by decide +kernel
theorem d_Md_draw_124 : decode c_Md_draw 124 = .ok (.imul, 1) := by decide +kernel
theorem d_Md_draw_125 : decode c_Md_draw 125 = .ok (.iload_n 3, 1) := by decide +kernel
theorem d_Md_draw_126 : decode c_Md_draw 126 = .ok (.iadd, 1) := by decide +kernel
theorem d_Md_draw_127 : decode c_Md_draw 127 = .ok (.laload, 1) := by decide +kernel
theorem d_Md_draw_128 : decode c_Md_draw 128 = .ok (.iconst 1, 1) := by decide +kernel
theorem d_Md_draw_129 : decode c_Md_draw 129 = .ok (.invokevirtual 229, 3) := by decide +kernel
theorem d_Md_draw_132 : decode c_Md_draw 132 = .ok (.iinc 3 1, 3) := by decide +kernel
theorem d_Md_draw_135 : decode c_Md_draw 135 = .ok (.goto (-126), 3) := by decide +kernel
theorem d_Md_draw_138 : decode c_Md_draw 138 = .ok (.return_, 1) := by decide +kernel
theorem d_Md_command_0 : decode c_Md_command 0 = .ok (.aload_n 0, 1) := by decide +kernel
theorem d_Md_command_1 : decode c_Md_command 1 = .ok (.iload_n 1, 1) := by decide +kernel
theorem d_Md_command_2 : decode c_Md_command 2 = .ok (.invokevirtual 154, 3) := by decide +kernel
theorem d_Md_command_5 : decode c_Md_command 5 = .ok (.ifCond .eq 11, 3) := by decide +kernel
theorem d_Md_command_8 : decode c_Md_command 8 = .ok (.aload_n 0, 1) := by decide +kernel
theorem d_Md_command_9 : decode c_Md_command 9 = .ok (.iload_n 1, 1) := by decide +kernel
theorem d_Md_command_10 : decode c_Md_command 10 = .ok (.invokevirtual 233, 3) := by decide +kernel
theorem d_Md_command_13 : decode c_Md_command 13 = .ok (.ifCond .ne 5, 3) := by decide +kernel
theorem d_Md_command_16 : decode c_Md_command 16 = .ok (.iconst (-1), 1) := by decide +kernel
theorem d_Md_command_17 : decode c_Md_command 17 = .ok (.ireturn, 1) := by decide +kernel
theorem d_Md_command_18 : decode c_Md_command 18 = .ok (.aload_n 0, 1) := by decide +kernel
theorem d_Md_command_19 : decode c_Md_command 19 = .ok (.iload_n 1, 1) := by decide +kernel
theorem d_Md_command_20 : decode c_Md_command 20 = .ok (.invokevirtual 236, 3) := by decide +kernel
theorem d_Md_command_23 : decode c_Md_command 23 = .ok (.iload_n 2, 1) := by decide +kernel
theorem d_Md_command_24 : decode c_Md_command 24 = .ok (.ifCond .lt 13, 3) := by decide +kernel
theorem d_Md_command_27 : decode c_Md_command 27 = .ok (.iload_n 2, 1) := by decide +kernel
theorem d_Md_command_28 : decode c_Md_command 28 = .ok (.iconst 2, 1) := by decide +kernel
theorem d_Md_command_29 : decode c_Md_command 29 = .ok (.aload_n 0, 1) := by decide +kernel
theorem d_Md_command_30 : decode c_Md_command 30 = .ok (.getfield 224, 3) := by decide +kernel
theorem d_Md_command_33 : decode c_Md_command 33 = .ok (.imul, 1) := by decide +kernel
theorem d_Md_command_34 : decode c_Md_command 34 = .ok (.if_icmp .lt 5, 3) := by decide +kernel
theorem d_Md_command_37 : decode c_Md_command 37 = .ok (.iconst (-1), 1) := by decide +kernel
theorem d_Md_command_38 : decode c_Md_command 38 = .ok (.ireturn, 1) := by decide +kernel
theorem d_Md_command_39 : decode c_Md_command 39 = .ok (.iload_n 2, 1) := by decide +kernel
theorem d_Md_command_40 : decode c_Md_command 40 = .ok (.iconst 2, 1) := by decide +kernel
theorem d_Md_command_41 : decode c_Md_command 41 = .ok (.irem, 1) := by decide +kernel
theorem d_Md_command_42 : decode c_Md_command 42 = .ok (.ifCond .ne 14, 3) := by decide +kernel
theorem d_Md_command_45 : decode c_Md_command 45 = .ok (.aload_n 0, 1) := by decide +kernel
theorem d_Md_command_46 : decode c_Md_command 46 = .ok (.getfield 96, 3) := by decide +kernel
theorem d_Md_command_49 : decode c_Md_command 49 = .ok (.iload_n 2, 1) := by decide +kernel
theorem d_Md_command_50 : decode c_Md_command 50 = .ok (.iconst 2, 1) := by decide +kernel
theorem d_Md_command_51 : decode c_Md_command 51 = .ok (.idiv, 1) := by decide +kernel
theorem d_Md_command_52 : decode c_Md_command 52 = .ok (.laload, 1) := by decide +kernel
theorem d_Md_command_53 : decode c_Md_command 53 = .ok (.goto 11, 3) := by decide +kernel
theorem d_Md_command_56 : decode c_Md_command 56 = .ok (.aload_n 0, 1) := by decide +kernel
theorem d_Md_command_57 : decode c_Md_command 57 = .ok (.getfield 99, 3) := by decide +kernel
theorem d_Md_command_60 : decode c_Md_command 60 = .ok (.iload_n 2, 1) := by decide +kernel
theorem d_Md_command_61 : decode c_Md_command 61 = .ok (.iconst 2, 1) := by decide +kernel
theorem d_Md_command_62 : decode c_Md_command 62 = .ok (.idiv, 1) := by decide +kernel
theorem d_Md_command_63 : decode c_Md_command 63 = .ok (.laload, 1) := by decide +kernel
theorem d_Md_command_64 : decode c_Md_command 64 = .ok (.l2i, 1) := by decide +kernel
theorem d_Md_command_65 : decode c_Md_command 65 = .ok (.ireturn, 1) := by decide +kernel
theorem d_Md_stretches_0 : decode c_Md_stretches 0 = .ok (.aload_n 0, 1) := by decide +kernel
theorem d_Md_stretches_1 : decode c_Md_stretches 1 = .ok (.iload_n 1, 1) := by decide +kernel
theorem d_Md_stretches_2 : decode c_Md_stretches 2 = .ok (.invokevirtual 236, 3) := by decide +kernel
theorem d_Md_stretches_5 : decode c_Md_stretches 5 = .ok (.aload_n 0, 1) := by decide +kernel
theorem d_Md_stretches_6 : decode c_Md_stretches 6 = .ok (.getfield 39, 3) := by decide +kernel
theorem d_Md_stretches_9 : decode c_Md_stretches 9 = .ok (.iload_n 1, 1) := by decide +kernel
theorem d_Md_stretches_10 : decode c_Md_stretches 10 = .ok (.laload, 1) := by decide +kernel
theorem d_Md_stretches_11 : decode c_Md_stretches 11 = .ok (.lstore_n 3, 1) := by decide +kernel
theorem d_Md_stretches_12 : decode c_Md_stretches 12 = .ok (.aload_n 0, 1) := by decide +kernel
theorem d_Md_stretches_13 : decode c_Md_stretches 13 = .ok (.getfield 42, 3) := by decide +kernel
theorem d_Md_stretches_16 : decode c_Md_stretches 16 = .ok (.iload_n 1, 1) := by decide +kernel
theorem d_Md_stretches_17 : decode c_Md_stretches 17 = .ok (.laload, 1) := by decide +kernel
theorem d_Md_stretches_18 : decode c_Md_stretches 18 = .ok (.lstore 5, 2) := by decide +kernel
theorem d_Md_stretches_20 : decode c_Md_stretches 20 = .ok (.iconst 0, 1) := by decide +kernel
theorem d_Md_stretches_21 : decode c_Md_stretches 21 = .ok (.istore 7, 2) := by decide +kernel
theorem d_Md_stretches_23 : decode c_Md_stretches 23 = .ok (.iconst 0, 1) := by decide +kernel
theorem d_Md_stretches_24 : decode c_Md_stretches 24 = .ok (.istore 8, 2) := by decide +kernel
theorem d_Md_stretches_26 : decode c_Md_stretches 26 = .ok (.iload 8, 2) := by decide +kernel
theorem d_Md_stretches_28 : decode c_Md_stretches 28 = .ok (.aload_n 0, 1) := by decide +kernel
theorem d_Md_stretches_29 : decode c_Md_stretches 29 = .ok (.getfield 224, 3) := by decide +kernel
theorem d_Md_stretches_32 : decode c_Md_stretches 32 = .ok (.if_icmp .ge 144, 3) := by decide +kernel
theorem d_Md_stretches_35 : decode c_Md_stretches 35 = .ok (.lload_n 3, 1) := by decide +kernel
theorem d_Md_stretches_36 : decode c_Md_stretches 36 = .ok (.aload_n 0, 1) := by decide +kernel
theorem d_Md_stretches_37 : decode c_Md_stretches 37 = .ok (.getfield 96, 3) := by decide +kernel
theorem d_Md_stretches_40 : decode c_Md_stretches 40 = .ok (.iload 8, 2) := by decide +kernel
theorem d_Md_stretches_42 : decode c_Md_stretches 42 = .ok (.laload, 1) := by decide +kernel
theorem d_Md_stretches_43 : decode c_Md_stretches 43 = .ok (.ladd, 1) := by decide +kernel
theorem d_Md_stretches_44 : decode c_Md_stretches 44 = .ok (.lstore 9, 2) := by decide +kernel
theorem d_Md_stretches_46 : decode c_Md_stretches 46 = .ok (.lload 5, 2) := by decide +kernel
theorem d_Md_stretches_48 : decode c_Md_stretches 48 = .ok (.aload_n 0, 1) := by decide +kernel
theorem d_Md_stretches_49 : decode c_Md_stretches 49 = .ok (.getfield 99, 3) := by decide +kernel
theorem d_Md_stretches_52 : decode c_Md_stretches 52 = .ok (.iload 8, 2) := by decide +kernel
theorem d_Md_stretches_54 : decode c_Md_stretches 54 = .ok (.laload, 1) := by decide +kernel
theorem d_Md_stretches_55 : decode c_Md_stretches 55 = .ok (.ladd, 1) := by decide +kernel
theorem d_Md_stretches_56 : decode c_Md_stretches 56 = .ok (.lstore 11, 2) := by decide +kernel
theorem d_Md_stretches_58 : decode c_Md_stretches 58 = .ok (.aload_n 0, 1) := by decide +kernel
theorem d_Md_stretches_59 : decode c_Md_stretches 59 = .ok (.getfield 102, 3) := by decide +kernel
theorem d_Md_stretches_62 : decode c_Md_stretches 62 = .ok (.iload 8, 2) := by decide +kernel
theorem d_Md_stretches_64 : decode c_Md_stretches 64 = .ok (.baload, 1) := by decide +kernel
theorem d_Md_stretches_65 : decode c_Md_stretches 65 = .ok (.ifCond .eq 98, 3) := by decide +kernel
theorem d_Md_stretches_68 : decode c_Md_stretches 68 = .ok (.aload_n 0, 1) := by decide +kernel
theorem d_Md_stretches_69 : decode c_Md_stretches 69 = .ok (.getfield 105, 3) := by decide +kernel
theorem d_Md_stretches_72 : decode c_Md_stretches 72 = .ok (.iload_n 2, 1) := by decide +kernel
theorem d_Md_stretches_73 : decode c_Md_stretches 73 = .ok (.iload 7, 2) := by decide +kernel
theorem d_Md_stretches_75 : decode c_Md_stretches 75 = .ok (.iadd, 1) := by decide +kernel
theorem d_Md_stretches_76 : decode c_Md_stretches 76 = .ok (.lload_n 3, 1) := by decide +kernel
theorem d_Md_stretches_77 : decode c_Md_stretches 77 = .ok (.lload 9, 2) := by decide +kernel
theorem d_Md_stretches_79 : decode c_Md_stretches 79 = .ok (.lcmp, 1) := by decide +kernel
theorem d_Md_stretches_80 : decode c_Md_stretches 80 = .ok (.ifCond .ge 7, 3) := by decide +kernel
theorem d_Md_stretches_83 : decode c_Md_stretches 83 = .ok (.lload_n 3, 1) := by decide +kernel
theorem d_Md_stretches_84 : decode c_Md_stretches 84 = .ok (.goto 5, 3) := by decide +kernel
theorem d_Md_stretches_87 : decode c_Md_stretches 87 = .ok (.lload 9, 2) := by decide +kernel
theorem d_Md_stretches_89 : decode c_Md_stretches 89 = .ok (.lastore, 1) := by decide +kernel
theorem d_Md_stretches_90 : decode c_Md_stretches 90 = .ok (.aload_n 0, 1) := by decide +kernel
theorem d_Md_stretches_91 : decode c_Md_stretches 91 = .ok (.getfield 108, 3) := by decide +kernel
theorem d_Md_stretches_94 : decode c_Md_stretches 94 = .ok (.iload_n 2, 1) := by decide +kernel
theorem d_Md_stretches_95 : decode c_Md_stretches 95 = .ok (.iload 7, 2) := by decide +kernel
theorem d_Md_stretches_97 : decode c_Md_stretches 97 = .ok (.iadd, 1) := by decide +kernel
theorem d_Md_stretches_98 : decode c_Md_stretches 98 = .ok (.lload_n 3, 1) := by decide +kernel
theorem d_Md_stretches_99 : decode c_Md_stretches 99 = .ok (.lload 9, 2) := by decide +kernel
theorem d_Md_stretches_101 : decode c_Md_stretches 101 = .ok (.lcmp, 1) := by decide +kernel
theorem d_Md_stretches_102 : decode c_Md_stretches 102 = .ok (.ifCond .ge 8, 3) := by decide +kernel
theorem d_Md_stretches_105 : decode c_Md_stretches 105 = .ok (.lload 9, 2) := by decide +kernel
theorem d_Md_stretches_107 : decode c_Md_stretches 107 = .ok (.goto 4, 3) := by decide +kernel
theorem d_Md_stretches_110 : decode c_Md_stretches 110 = .ok (.lload_n 3, 1) := by decide +kernel
theorem d_Md_stretches_111 : decode c_Md_stretches 111 = .ok (.lastore, 1) := by decide +kernel
theorem d_Md_stretches_112 : decode c_Md_stretches 112 = .ok (.aload_n 0, 1) := by decide +kernel
theorem d_Md_stretches_113 : decode c_Md_stretches 113 = .ok (.getfield 111, 3) := by decide +kernel
theorem d_Md_stretches_116 : decode c_Md_stretches 116 = .ok (.iload_n 2, 1) := by decide +kernel
theorem d_Md_stretches_117 : decode c_Md_stretches 117 = .ok (.iload 7, 2) := by decide +kernel
theorem d_Md_stretches_119 : decode c_Md_stretches 119 = .ok (.iadd, 1) := by decide +kernel
theorem d_Md_stretches_120 : decode c_Md_stretches 120 = .ok (.lload 5, 2) := by decide +kernel
theorem d_Md_stretches_122 : decode c_Md_stretches 122 = .ok (.lload 11, 2) := by decide +kernel
theorem d_Md_stretches_124 : decode c_Md_stretches 124 = .ok (.lcmp, 1) := by decide +kernel
theorem d_Md_stretches_125 : decode c_Md_stretches 125 = .ok (.ifCond .ge 8, 3) := by decide +kernel
theorem d_Md_stretches_128 : decode c_Md_stretches 128 = .ok (.lload 5, 2) := by decide +kernel
theorem d_Md_stretches_130 : decode c_Md_stretches 130 = .ok (.goto 5, 3) := by decide +kernel
theorem d_Md_stretches_133 : decode c_Md_stretches 133 = .ok (.lload 11, 2) := by decide +kernel
theorem d_Md_stretches_135 : decode c_Md_stretches 135 = .ok (.lastore, 1) := by decide +kernel
theorem d_Md_stretches_136 : decode c_Md_stretches 136 = .ok (.aload_n 0, 1) := by decide +kernel
theorem d_Md_stretches_137 : decode c_Md_stretches 137 = .ok (.getfield 114, 3) := by decide +kernel
theorem d_Md_stretches_140 : decode c_Md_stretches 140 = .ok (.iload_n 2, 1) := by decide +kernel
theorem d_Md_stretches_141 : decode c_Md_stretches 141 = .ok (.iload 7, 2) := by decide +kernel
theorem d_Md_stretches_143 : decode c_Md_stretches 143 = .ok (.iadd, 1) := by decide +kernel
theorem d_Md_stretches_144 : decode c_Md_stretches 144 = .ok (.lload 5, 2) := by decide +kernel
theorem d_Md_stretches_146 : decode c_Md_stretches 146 = .ok (.lload 11, 2) := by decide +kernel
theorem d_Md_stretches_148 : decode c_Md_stretches 148 = .ok (.lcmp, 1) := by decide +kernel
theorem d_Md_stretches_149 : decode c_Md_stretches 149 = .ok (.ifCond .ge 8, 3) := by decide +kernel
theorem d_Md_stretches_152 : decode c_Md_stretches 152 = .ok (.lload 11, 2) := by decide +kernel
theorem d_Md_stretches_154 : decode c_Md_stretches 154 = .ok (.goto 5, 3) := by decide +kernel
theorem d_Md_stretches_157 : decode c_Md_stretches 157 = .ok (.lload 5, 2) := by decide +kernel
theorem d_Md_stretches_159 : decode c_Md_stretches 159 = .ok (.lastore, 1) := by decide +kernel
theorem d_Md_stretches_160 : decode c_Md_stretches 160 = .ok (.iinc 7 1, 3) := by decide +kernel
theorem d_Md_stretches_163 : decode c_Md_stretches 163 = .ok (.lload 9, 2) := by decide +kernel
theorem d_Md_stretches_165 : decode c_Md_stretches 165 = .ok (.lstore_n 3, 1) := by decide +kernel
theorem d_Md_stretches_166 : decode c_Md_stretches 166 = .ok (.lload 11, 2) := by decide +kernel
theorem d_Md_stretches_168 : decode c_Md_stretches 168 = .ok (.lstore 5, 2) := by decide +kernel
theorem d_Md_stretches_170 : decode c_Md_stretches 170 = .ok (.iinc 8 1, 3) := by decide +kernel
theorem d_Md_stretches_173 : decode c_Md_stretches 173 = .ok (.goto (-147), 3) := by decide +kernel
theorem d_Md_stretches_176 : decode c_Md_stretches 176 = .ok (.iload 7, 2) := by decide +kernel
theorem d_Md_stretches_178 : decode c_Md_stretches 178 = .ok (.ireturn, 1) := by decide +kernel
theorem d_Md_gap_0 : decode c_Md_gap 0 = .ok (.lload 4, 2) := by decide +kernel
theorem d_Md_gap_2 : decode c_Md_gap 2 = .ok (.lload_n 2, 1) := by decide +kernel
theorem d_Md_gap_3 : decode c_Md_gap 3 = .ok (.lcmp, 1) := by decide +kernel
theorem d_Md_gap_4 : decode c_Md_gap 4 = .ok (.ifCond .le 10, 3) := by decide +kernel
theorem d_Md_gap_7 : decode c_Md_gap 7 = .ok (.lload 4, 2) := by decide +kernel
theorem d_Md_gap_9 : decode c_Md_gap 9 = .ok (.lload_n 2, 1) := by decide +kernel
theorem d_Md_gap_10 : decode c_Md_gap 10 = .ok (.lsub, 1) := by decide +kernel
theorem d_Md_gap_11 : decode c_Md_gap 11 = .ok (.goto 18, 3) := by decide +kernel
theorem d_Md_gap_14 : decode c_Md_gap 14 = .ok (.lload_n 0, 1) := by decide +kernel
theorem d_Md_gap_15 : decode c_Md_gap 15 = .ok (.lload 6, 2) := by decide +kernel
theorem d_Md_gap_17 : decode c_Md_gap 17 = .ok (.lcmp, 1) := by decide +kernel
theorem d_Md_gap_18 : decode c_Md_gap 18 = .ok (.ifCond .le 10, 3) := by decide +kernel
theorem d_Md_gap_21 : decode c_Md_gap 21 = .ok (.lload_n 0, 1) := by decide +kernel
theorem d_Md_gap_22 : decode c_Md_gap 22 = .ok (.lload 6, 2) := by decide +kernel
theorem d_Md_gap_24 : decode c_Md_gap 24 = .ok (.lsub, 1) := by decide +kernel
theorem d_Md_gap_25 : decode c_Md_gap 25 = .ok (.goto 4, 3) := by decide +kernel
theorem d_Md_gap_28 : decode c_Md_gap 28 = .ok (.lconst 0, 1) := by decide +kernel
theorem d_Md_gap_29 : decode c_Md_gap 29 = .ok (.lreturn, 1) := by decide +kernel
theorem d_Md_clash_0 : decode c_Md_clash 0 = .ok (.aload_n 0, 1) := by decide +kernel
theorem d_Md_clash_1 : decode c_Md_clash 1 = .ok (.iload_n 1, 1) := by decide +kernel
theorem d_Md_clash_2 : decode c_Md_clash 2 = .ok (.invokevirtual 154, 3) := by decide +kernel
theorem d_Md_clash_5 : decode c_Md_clash 5 = .ok (.ifCond .eq 50, 3) := by decide +kernel
theorem d_Md_clash_8 : decode c_Md_clash 8 = .ok (.aload_n 0, 1) := by decide +kernel
theorem d_Md_clash_9 : decode c_Md_clash 9 = .ok (.iload_n 2, 1) := by decide +kernel
theorem d_Md_clash_10 : decode c_Md_clash 10 = .ok (.invokevirtual 154, 3) := by decide +kernel
theorem d_Md_clash_13 : decode c_Md_clash 13 = .ok (.ifCond .eq 42, 3) := by decide +kernel
theorem d_Md_clash_16 : decode c_Md_clash 16 = .ok (.iload_n 1, 1) := by decide +kernel
theorem d_Md_clash_17 : decode c_Md_clash 17 = .ok (.iload_n 2, 1) := by decide +kernel
theorem d_Md_clash_18 : decode c_Md_clash 18 = .ok (.if_icmp .eq 37, 3) := by decide +kernel
theorem d_Md_clash_21 : decode c_Md_clash 21 = .ok (.aload_n 0, 1) := by decide +kernel
theorem d_Md_clash_22 : decode c_Md_clash 22 = .ok (.getfield 35, 3) := by decide +kernel
theorem d_Md_clash_25 : decode c_Md_clash 25 = .ok (.iload_n 1, 1) := by decide +kernel
theorem d_Md_clash_26 : decode c_Md_clash 26 = .ok (.baload, 1) := by decide +kernel
theorem d_Md_clash_27 : decode c_Md_clash 27 = .ok (.ifCond .eq 28, 3) := by decide +kernel
theorem d_Md_clash_30 : decode c_Md_clash 30 = .ok (.aload_n 0, 1) := by decide +kernel
theorem d_Md_clash_31 : decode c_Md_clash 31 = .ok (.getfield 35, 3) := by decide +kernel
theorem d_Md_clash_34 : decode c_Md_clash 34 = .ok (.iload_n 2, 1) := by decide +kernel
theorem d_Md_clash_35 : decode c_Md_clash 35 = .ok (.baload, 1) := by decide +kernel
theorem d_Md_clash_36 : decode c_Md_clash 36 = .ok (.ifCond .eq 19, 3) := by decide +kernel
theorem d_Md_clash_39 : decode c_Md_clash 39 = .ok (.aload_n 0, 1) := by decide +kernel
theorem d_Md_clash_40 : decode c_Md_clash 40 = .ok (.iload_n 1, 1) := by decide +kernel
theorem d_Md_clash_41 : decode c_Md_clash 41 = .ok (.invokevirtual 233, 3) := by decide +kernel
theorem d_Md_clash_44 : decode c_Md_clash 44 = .ok (.ifCond .eq 11, 3) := by decide +kernel
theorem d_Md_clash_47 : decode c_Md_clash 47 = .ok (.aload_n 0, 1) := by decide +kernel
theorem d_Md_clash_48 : decode c_Md_clash 48 = .ok (.iload_n 2, 1) := by decide +kernel
theorem d_Md_clash_49 : decode c_Md_clash 49 = .ok (.invokevirtual 233, 3) := by decide +kernel
theorem d_Md_clash_52 : decode c_Md_clash 52 = .ok (.ifCond .ne 5, 3) := by decide +kernel
theorem d_Md_clash_55 : decode c_Md_clash 55 = .ok (.iconst (-1), 1) := by decide +kernel
theorem d_Md_clash_56 : decode c_Md_clash 56 = .ok (.ireturn, 1) := by decide +kernel
theorem d_Md_clash_57 : decode c_Md_clash 57 = .ok (.aload_n 0, 1) := by decide +kernel
theorem d_Md_clash_58 : decode c_Md_clash 58 = .ok (.iload_n 1, 1) := by decide +kernel
theorem d_Md_clash_59 : decode c_Md_clash 59 = .ok (.iconst 0, 1) := by decide +kernel
theorem d_Md_clash_60 : decode c_Md_clash 60 = .ok (.invokevirtual 239, 3) := by decide +kernel
theorem d_Md_clash_63 : decode c_Md_clash 63 = .ok (.istore_n 3, 1) := by decide +kernel
theorem d_Md_clash_64 : decode c_Md_clash 64 = .ok (.aload_n 0, 1) := by decide +kernel
theorem d_Md_clash_65 : decode c_Md_clash 65 = .ok (.iload_n 2, 1) := by decide +kernel
theorem d_Md_clash_66 : decode c_Md_clash 66 = .ok (.bipush 6, 2) := by decide +kernel
theorem d_Md_clash_68 : decode c_Md_clash 68 = .ok (.invokevirtual 239, 3) := by decide +kernel
theorem d_Md_clash_71 : decode c_Md_clash 71 = .ok (.istore 4, 2) := by decide +kernel
theorem d_Md_clash_73 : decode c_Md_clash 73 = .ok (.aload_n 0, 1) := by decide +kernel
theorem d_Md_clash_74 : decode c_Md_clash 74 = .ok (.getfield 45, 3) := by decide +kernel
theorem d_Md_clash_77 : decode c_Md_clash 77 = .ok (.iload_n 1, 1) := by decide +kernel
theorem d_Md_clash_78 : decode c_Md_clash 78 = .ok (.laload, 1) := by decide +kernel
theorem d_Md_clash_79 : decode c_Md_clash 79 = .ok (.aload_n 0, 1) := by decide +kernel
theorem d_Md_clash_80 : decode c_Md_clash 80 = .ok (.getfield 45, 3) := by decide +kernel
theorem d_Md_clash_83 : decode c_Md_clash 83 = .ok (.iload_n 2, 1) := by decide +kernel
theorem d_Md_clash_84 : decode c_Md_clash 84 = .ok (.laload, 1) := by decide +kernel
theorem d_Md_clash_85 : decode c_Md_clash 85 = .ok (.lsub, 1) := by decide +kernel
theorem d_Md_clash_86 : decode c_Md_clash 86 = .ok (.lstore 5, 2) := by decide +kernel
theorem d_Md_clash_88 : decode c_Md_clash 88 = .ok (.aload_n 0, 1) := by decide +kernel
theorem d_Md_clash_89 : decode c_Md_clash 89 = .ok (.getfield 26, 3) := by decide +kernel
theorem d_Md_clash_92 : decode c_Md_clash 92 = .ok (.iload_n 1, 1) := by decide +kernel
theorem d_Md_clash_93 : decode c_Md_clash 93 = .ok (.iaload, 1) := by decide +kernel
theorem d_Md_clash_94 : decode c_Md_clash 94 = .ok (.aload_n 0, 1) := by decide +kernel
theorem d_Md_clash_95 : decode c_Md_clash 95 = .ok (.getfield 26, 3) := by decide +kernel
theorem d_Md_clash_98 : decode c_Md_clash 98 = .ok (.iload_n 2, 1) := by decide +kernel
theorem d_Md_clash_99 : decode c_Md_clash 99 = .ok (.iaload, 1) := by decide +kernel
theorem d_Md_clash_100 : decode c_Md_clash 100 = .ok (.iadd, 1) := by decide +kernel
theorem d_Md_clash_101 : decode c_Md_clash 101 = .ok (.i2l, 1) := by decide +kernel
theorem d_Md_clash_102 : decode c_Md_clash 102 = .ok (.lstore 7, 2) := by decide +kernel
theorem d_Md_clash_104 : decode c_Md_clash 104 = .ok (.iconst 0, 1) := by decide +kernel
theorem d_Md_clash_105 : decode c_Md_clash 105 = .ok (.istore 9, 2) := by decide +kernel
theorem d_Md_clash_107 : decode c_Md_clash 107 = .ok (.iconst 0, 1) := by decide +kernel
theorem d_Md_clash_108 : decode c_Md_clash 108 = .ok (.istore 10, 2) := by decide +kernel
theorem d_Md_clash_110 : decode c_Md_clash 110 = .ok (.iload 10, 2) := by decide +kernel
theorem d_Md_clash_112 : decode c_Md_clash 112 = .ok (.iload_n 3, 1) := by decide +kernel
theorem d_Md_clash_113 : decode c_Md_clash 113 = .ok (.if_icmp .ge 133, 3) := by decide +kernel
theorem d_Md_clash_116 : decode c_Md_clash 116 = .ok (.bipush 6, 2) := by decide +kernel
theorem d_Md_clash_118 : decode c_Md_clash 118 = .ok (.istore 11, 2) := by decide +kernel
theorem d_Md_clash_120 : decode c_Md_clash 120 = .ok (.iload 11, 2) := by decide +kernel
theorem d_Md_clash_122 : decode c_Md_clash 122 = .ok (.bipush 6, 2) := by decide +kernel
theorem d_Md_clash_124 : decode c_Md_clash 124 = .ok (.iload 4, 2) := by decide +kernel
theorem d_Md_clash_126 : decode c_Md_clash 126 = .ok (.iadd, 1) := by decide +kernel
theorem d_Md_clash_127 : decode c_Md_clash 127 = .ok (.if_icmp .ge 113, 3) := by decide +kernel
theorem d_Md_clash_130 : decode c_Md_clash 130 = .ok (.aload_n 0, 1) := by decide +kernel
theorem d_Md_clash_131 : decode c_Md_clash 131 = .ok (.getfield 105, 3) := by decide +kernel
theorem d_Md_clash_134 : decode c_Md_clash 134 = .ok (.iload 10, 2) := by decide +kernel
theorem d_Md_clash_136 : decode c_Md_clash 136 = .ok (.laload, 1) := by decide +kernel
theorem d_Md_clash_137 : decode c_Md_clash 137 = .ok (.aload_n 0, 1) := by decide +kernel
theorem d_Md_clash_138 : decode c_Md_clash 138 = .ok (.getfield 108, 3) := by decide +kernel
theorem d_Md_clash_141 : decode c_Md_clash 141 = .ok (.iload 10, 2) := by decide +kernel
theorem d_Md_clash_143 : decode c_Md_clash 143 = .ok (.laload, 1) := by decide +kernel
theorem d_Md_clash_144 : decode c_Md_clash 144 = .ok (.aload_n 0, 1) := by decide +kernel
theorem d_Md_clash_145 : decode c_Md_clash 145 = .ok (.getfield 105, 3) := by decide +kernel
theorem d_Md_clash_148 : decode c_Md_clash 148 = .ok (.iload 11, 2) := by decide +kernel
theorem d_Md_clash_150 : decode c_Md_clash 150 = .ok (.laload, 1) := by decide +kernel
theorem d_Md_clash_151 : decode c_Md_clash 151 = .ok (.aload_n 0, 1) := by decide +kernel
theorem d_Md_clash_152 : decode c_Md_clash 152 = .ok (.getfield 108, 3) := by decide +kernel
theorem d_Md_clash_155 : decode c_Md_clash 155 = .ok (.iload 11, 2) := by decide +kernel
theorem d_Md_clash_157 : decode c_Md_clash 157 = .ok (.laload, 1) := by decide +kernel
theorem d_Md_clash_158 : decode c_Md_clash 158 = .ok (.invokestatic 243, 3) := by decide +kernel
theorem d_Md_clash_161 : decode c_Md_clash 161 = .ok (.lstore 12, 2) := by decide +kernel
theorem d_Md_clash_163 : decode c_Md_clash 163 = .ok (.aload_n 0, 1) := by decide +kernel
theorem d_Md_clash_164 : decode c_Md_clash 164 = .ok (.getfield 111, 3) := by decide +kernel
theorem d_Md_clash_167 : decode c_Md_clash 167 = .ok (.iload 10, 2) := by decide +kernel
theorem d_Md_clash_169 : decode c_Md_clash 169 = .ok (.laload, 1) := by decide +kernel
theorem d_Md_clash_170 : decode c_Md_clash 170 = .ok (.aload_n 0, 1) := by decide +kernel
theorem d_Md_clash_171 : decode c_Md_clash 171 = .ok (.getfield 114, 3) := by decide +kernel
theorem d_Md_clash_174 : decode c_Md_clash 174 = .ok (.iload 10, 2) := by decide +kernel
theorem d_Md_clash_176 : decode c_Md_clash 176 = .ok (.laload, 1) := by decide +kernel
theorem d_Md_clash_177 : decode c_Md_clash 177 = .ok (.aload_n 0, 1) := by decide +kernel
theorem d_Md_clash_178 : decode c_Md_clash 178 = .ok (.getfield 111, 3) := by decide +kernel
theorem d_Md_clash_181 : decode c_Md_clash 181 = .ok (.iload 11, 2) := by decide +kernel
theorem d_Md_clash_183 : decode c_Md_clash 183 = .ok (.laload, 1) := by decide +kernel
theorem d_Md_clash_184 : decode c_Md_clash 184 = .ok (.aload_n 0, 1) := by decide +kernel
theorem d_Md_clash_185 : decode c_Md_clash 185 = .ok (.getfield 114, 3) := by decide +kernel
theorem d_Md_clash_188 : decode c_Md_clash 188 = .ok (.iload 11, 2) := by decide +kernel
theorem d_Md_clash_190 : decode c_Md_clash 190 = .ok (.laload, 1) := by decide +kernel
theorem d_Md_clash_191 : decode c_Md_clash 191 = .ok (.invokestatic 243, 3) := by decide +kernel
theorem d_Md_clash_194 : decode c_Md_clash 194 = .ok (.lstore 14, 2) := by decide +kernel
theorem d_Md_clash_196 : decode c_Md_clash 196 = .ok (.ldc2_w 142, 3) := by decide +kernel
theorem d_Md_clash_199 : decode c_Md_clash 199 = .ok (.lload 12, 2) := by decide +kernel
theorem d_Md_clash_201 : decode c_Md_clash 201 = .ok (.lload 12, 2) := by decide +kernel
theorem d_Md_clash_203 : decode c_Md_clash 203 = .ok (.lmul, 1) := by decide +kernel
theorem d_Md_clash_204 : decode c_Md_clash 204 = .ok (.lload 14, 2) := by decide +kernel
theorem d_Md_clash_206 : decode c_Md_clash 206 = .ok (.lload 14, 2) := by decide +kernel
theorem d_Md_clash_208 : decode c_Md_clash 208 = .ok (.lmul, 1) := by decide +kernel
theorem d_Md_clash_209 : decode c_Md_clash 209 = .ok (.ladd, 1) := by decide +kernel
theorem d_Md_clash_210 : decode c_Md_clash 210 = .ok (.lload 5, 2) := by decide +kernel
theorem d_Md_clash_212 : decode c_Md_clash 212 = .ok (.lload 5, 2) := by decide +kernel
theorem d_Md_clash_214 : decode c_Md_clash 214 = .ok (.lmul, 1) := by decide +kernel
theorem d_Md_clash_215 : decode c_Md_clash 215 = .ok (.ladd, 1) := by decide +kernel
theorem d_Md_clash_216 : decode c_Md_clash 216 = .ok (.lmul, 1) := by decide +kernel
theorem d_Md_clash_217 : decode c_Md_clash 217 = .ok (.lload 7, 2) := by decide +kernel
theorem d_Md_clash_219 : decode c_Md_clash 219 = .ok (.lload 7, 2) := by decide +kernel
theorem d_Md_clash_221 : decode c_Md_clash 221 = .ok (.lmul, 1) := by decide +kernel
theorem d_Md_clash_222 : decode c_Md_clash 222 = .ok (.lcmp, 1) := by decide +kernel
theorem d_Md_clash_223 : decode c_Md_clash 223 = .ok (.ifCond .ge 7, 3) := by decide +kernel
theorem d_Md_clash_226 : decode c_Md_clash 226 = .ok (.iconst 1, 1) := by decide +kernel
theorem d_Md_clash_227 : decode c_Md_clash 227 = .ok (.goto 5, 3) := by decide +kernel
theorem d_Md_clash_230 : decode c_Md_clash 230 = .ok (.iload 9, 2) := by decide +kernel
theorem d_Md_clash_232 : decode c_Md_clash 232 = .ok (.istore 9, 2) := by decide +kernel
theorem d_Md_clash_234 : decode c_Md_clash 234 = .ok (.iinc 11 1, 3) := by decide +kernel
theorem d_Md_clash_237 : decode c_Md_clash 237 = .ok (.goto (-117), 3) := by decide +kernel
theorem d_Md_clash_240 : decode c_Md_clash 240 = .ok (.iinc 10 1, 3) := by decide +kernel
theorem d_Md_clash_243 : decode c_Md_clash 243 = .ok (.goto (-133), 3) := by decide +kernel
theorem d_Md_clash_246 : decode c_Md_clash 246 = .ok (.iload 9, 2) := by decide +kernel
theorem d_Md_clash_248 : decode c_Md_clash 248 = .ok (.ireturn, 1) := by decide +kernel
theorem d_Md_lap_0 : decode c_Md_lap 0 = .ok (.aload_n 0, 1) := by decide +kernel
theorem d_Md_lap_1 : decode c_Md_lap 1 = .ok (.iload_n 1, 1) := by decide +kernel
theorem d_Md_lap_2 : decode c_Md_lap 2 = .ok (.invokevirtual 154, 3) := by decide +kernel
theorem d_Md_lap_5 : decode c_Md_lap 5 = .ok (.ifCond .eq 14, 3) := by decide +kernel
theorem d_Md_lap_8 : decode c_Md_lap 8 = .ok (.lload_n 2, 1) := by decide +kernel
theorem d_Md_lap_9 : decode c_Md_lap 9 = .ok (.lconst 0, 1) := by decide +kernel
theorem d_Md_lap_10 : decode c_Md_lap 10 = .ok (.ldc2_w 247, 3) := by decide +kernel
theorem d_Md_lap_13 : decode c_Md_lap 13 = .ok (.invokestatic 128, 3) := by decide +kernel
theorem d_Md_lap_16 : decode c_Md_lap 16 = .ok (.ifCond .ne 5, 3) := by decide +kernel
theorem d_Md_lap_19 : decode c_Md_lap 19 = .ok (.iconst (-1), 1) := by decide +kernel
theorem d_Md_lap_20 : decode c_Md_lap 20 = .ok (.ireturn, 1) := by decide +kernel
theorem d_Md_lap_21 : decode c_Md_lap 21 = .ok (.aload_n 0, 1) := by decide +kernel
theorem d_Md_lap_22 : decode c_Md_lap 22 = .ok (.getfield 26, 3) := by decide +kernel
theorem d_Md_lap_25 : decode c_Md_lap 25 = .ok (.iload_n 1, 1) := by decide +kernel
theorem d_Md_lap_26 : decode c_Md_lap 26 = .ok (.iaload, 1) := by decide +kernel
theorem d_Md_lap_27 : decode c_Md_lap 27 = .ok (.istore 4, 2) := by decide +kernel
theorem d_Md_lap_29 : decode c_Md_lap 29 = .ok (.lconst 0, 1) := by decide +kernel
theorem d_Md_lap_30 : decode c_Md_lap 30 = .ok (.lstore 5, 2) := by decide +kernel
theorem d_Md_lap_32 : decode c_Md_lap 32 = .ok (.iconst 0, 1) := by decide +kernel
theorem d_Md_lap_33 : decode c_Md_lap 33 = .ok (.istore 7, 2) := by decide +kernel
theorem d_Md_lap_35 : decode c_Md_lap 35 = .ok (.iload 7, 2) := by decide +kernel
theorem d_Md_lap_37 : decode c_Md_lap 37 = .ok (.aload_n 0, 1) := by decide +kernel
theorem d_Md_lap_38 : decode c_Md_lap 38 = .ok (.getfield 48, 3) := by decide +kernel
theorem d_Md_lap_41 : decode c_Md_lap 41 = .ok (.iload 4, 2) := by decide +kernel
theorem d_Md_lap_43 : decode c_Md_lap 43 = .ok (.iaload, 1) := by decide +kernel
theorem d_Md_lap_44 : decode c_Md_lap 44 = .ok (.if_icmp .ge 40, 3) := by decide +kernel
theorem d_Md_lap_47 : decode c_Md_lap 47 = .ok (.aload_n 0, 1) := by decide +kernel
theorem d_Md_lap_48 : decode c_Md_lap 48 = .ok (.getfield 51, 3) := by decide +kernel
theorem d_Md_lap_51 : decode c_Md_lap 51 = .ok (.iconst 3, 1) := by decide +kernel
theorem d_Md_lap_52 : decode c_Md_lap 52 = .ok (.iload 4, 2) := by decide +kernel
theorem d_Md_lap_54 : decode c_Md_lap 54 = .ok (.imul, 1) := by decide +kernel
theorem d_Md_lap_55 : decode c_Md_lap 55 = .ok (.iload 7, 2) := by decide +kernel
theorem d_Md_lap_57 : decode c_Md_lap 57 = .ok (.iadd, 1) := by decide +kernel
theorem d_Md_lap_58 : decode c_Md_lap 58 = .ok (.laload, 1) := by decide +kernel
theorem d_Md_lap_59 : decode c_Md_lap 59 = .ok (.lstore 8, 2) := by decide +kernel
theorem d_Md_lap_61 : decode c_Md_lap 61 = .ok (.lload 8, 2) := by decide +kernel
theorem d_Md_lap_63 : decode c_Md_lap 63 = .ok (.lload 5, 2) := by decide +kernel
theorem d_Md_lap_65 : decode c_Md_lap 65 = .ok (.lcmp, 1) := by decide +kernel
theorem d_Md_lap_66 : decode c_Md_lap 66 = .ok (.ifCond .le 8, 3) := by decide +kernel
theorem d_Md_lap_69 : decode c_Md_lap 69 = .ok (.lload 8, 2) := by decide +kernel
theorem d_Md_lap_71 : decode c_Md_lap 71 = .ok (.goto 5, 3) := by decide +kernel
theorem d_Md_lap_74 : decode c_Md_lap 74 = .ok (.lload 5, 2) := by decide +kernel
theorem d_Md_lap_76 : decode c_Md_lap 76 = .ok (.lstore 5, 2) := by decide +kernel
theorem d_Md_lap_78 : decode c_Md_lap 78 = .ok (.iinc 7 1, 3) := by decide +kernel
theorem d_Md_lap_81 : decode c_Md_lap 81 = .ok (.goto (-46), 3) := by decide +kernel
theorem d_Md_lap_84 : decode c_Md_lap 84 = .ok (.lload 5, 2) := by decide +kernel
theorem d_Md_lap_86 : decode c_Md_lap 86 = .ok (.lconst 0, 1) := by decide +kernel
theorem d_Md_lap_87 : decode c_Md_lap 87 = .ok (.lcmp, 1) := by decide +kernel
theorem d_Md_lap_88 : decode c_Md_lap 88 = .ok (.ifCond .eq 10, 3) := by decide +kernel
theorem d_Md_lap_91 : decode c_Md_lap 91 = .ok (.lload_n 2, 1) := by decide +kernel
theorem d_Md_lap_92 : decode c_Md_lap 92 = .ok (.lload 5, 2) := by decide +kernel
theorem d_Md_lap_94 : decode c_Md_lap 94 = .ok (.lcmp, 1) := by decide +kernel
theorem d_Md_lap_95 : decode c_Md_lap 95 = .ok (.ifCond .lt 5, 3) := by decide +kernel
theorem d_Md_lap_98 : decode c_Md_lap 98 = .ok (.iconst (-1), 1) := by decide +kernel
theorem d_Md_lap_99 : decode c_Md_lap 99 = .ok (.ireturn, 1) := by decide +kernel
theorem d_Md_lap_100 : decode c_Md_lap 100 = .ok (.iconst 0, 1) := by decide +kernel
theorem d_Md_lap_101 : decode c_Md_lap 101 = .ok (.istore 7, 2) := by decide +kernel
theorem d_Md_lap_103 : decode c_Md_lap 103 = .ok (.iload 7, 2) := by decide +kernel
theorem d_Md_lap_105 : decode c_Md_lap 105 = .ok (.iconst 1, 1) := by decide +kernel
theorem d_Md_lap_106 : decode c_Md_lap 106 = .ok (.iadd, 1) := by decide +kernel
theorem d_Md_lap_107 : decode c_Md_lap 107 = .ok (.i2l, 1) := by decide +kernel
theorem d_Md_lap_108 : decode c_Md_lap 108 = .ok (.lload 5, 2) := by decide +kernel
theorem d_Md_lap_110 : decode c_Md_lap 110 = .ok (.lmul, 1) := by decide +kernel
theorem d_Md_lap_111 : decode c_Md_lap 111 = .ok (.iload 7, 2) := by decide +kernel
theorem d_Md_lap_113 : decode c_Md_lap 113 = .ok (.i2l, 1) := by decide +kernel
theorem d_Md_lap_114 : decode c_Md_lap 114 = .ok (.lload_n 2, 1) := by decide +kernel
theorem d_Md_lap_115 : decode c_Md_lap 115 = .ok (.lmul, 1) := by decide +kernel
theorem d_Md_lap_116 : decode c_Md_lap 116 = .ok (.lsub, 1) := by decide +kernel
theorem d_Md_lap_117 : decode c_Md_lap 117 = .ok (.aload_n 0, 1) := by decide +kernel
theorem d_Md_lap_118 : decode c_Md_lap 118 = .ok (.iload_n 1, 1) := by decide +kernel
theorem d_Md_lap_119 : decode c_Md_lap 119 = .ok (.invokevirtual 172, 3) := by decide +kernel
theorem d_Md_lap_122 : decode c_Md_lap 122 = .ok (.lcmp, 1) := by decide +kernel
theorem d_Md_lap_123 : decode c_Md_lap 123 = .ok (.ifCond .ge 9, 3) := by decide +kernel
theorem d_Md_lap_126 : decode c_Md_lap 126 = .ok (.iinc 7 1, 3) := by decide +kernel
theorem d_Md_lap_129 : decode c_Md_lap 129 = .ok (.goto (-26), 3) := by decide +kernel
theorem d_Md_lap_132 : decode c_Md_lap 132 = .ok (.iload 7, 2) := by decide +kernel
theorem d_Md_lap_134 : decode c_Md_lap 134 = .ok (.ireturn, 1) := by decide +kernel
theorem d_Md_weight_0 : decode c_Md_weight 0 = .ok (.aload_n 0, 1) := by decide +kernel
theorem d_Md_weight_1 : decode c_Md_weight 1 = .ok (.iload_n 1, 1) := by decide +kernel
theorem d_Md_weight_2 : decode c_Md_weight 2 = .ok (.invokevirtual 154, 3) := by decide +kernel
theorem d_Md_weight_5 : decode c_Md_weight 5 = .ok (.ifCond .eq 12, 3) := by decide +kernel
theorem d_Md_weight_8 : decode c_Md_weight 8 = .ok (.iload_n 2, 1) := by decide +kernel
theorem d_Md_weight_9 : decode c_Md_weight 9 = .ok (.ifCond .lt 8, 3) := by decide +kernel
theorem d_Md_weight_12 : decode c_Md_weight 12 = .ok (.iload_n 2, 1) := by decide +kernel
theorem d_Md_weight_13 : decode c_Md_weight 13 = .ok (.iconst 1, 1) := by decide +kernel
theorem d_Md_weight_14 : decode c_Md_weight 14 = .ok (.if_icmp .le 7, 3) := by decide +kernel
theorem d_Md_weight_17 : decode c_Md_weight 17 = .ok (.ldc2_w 170, 3) := by decide +kernel
theorem d_Md_weight_20 : decode c_Md_weight 20 = .ok (.lreturn, 1) := by decide +kernel
theorem d_Md_weight_21 : decode c_Md_weight 21 = .ok (.aload_n 0, 1) := by decide +kernel
theorem d_Md_weight_22 : decode c_Md_weight 22 = .ok (.getfield 26, 3) := by decide +kernel
theorem d_Md_weight_25 : decode c_Md_weight 25 = .ok (.iload_n 1, 1) := by decide +kernel
theorem d_Md_weight_26 : decode c_Md_weight 26 = .ok (.iaload, 1) := by decide +kernel
theorem d_Md_weight_27 : decode c_Md_weight 27 = .ok (.i2l, 1) := by decide +kernel
theorem d_Md_weight_28 : decode c_Md_weight 28 = .ok (.aload_n 0, 1) := by decide +kernel
theorem d_Md_weight_29 : decode c_Md_weight 29 = .ok (.getfield 26, 3) := by decide +kernel
theorem d_Md_weight_32 : decode c_Md_weight 32 = .ok (.iload_n 1, 1) := by decide +kernel
theorem d_Md_weight_33 : decode c_Md_weight 33 = .ok (.iaload, 1) := by decide +kernel
theorem d_Md_weight_34 : decode c_Md_weight 34 = .ok (.i2l, 1) := by decide +kernel
theorem d_Md_weight_35 : decode c_Md_weight 35 = .ok (.lmul, 1) := by decide +kernel
theorem d_Md_weight_36 : decode c_Md_weight 36 = .ok (.aload_n 0, 1) := by decide +kernel
theorem d_Md_weight_37 : decode c_Md_weight 37 = .ok (.iload_n 1, 1) := by decide +kernel
theorem d_Md_weight_38 : decode c_Md_weight 38 = .ok (.invokevirtual 172, 3) := by decide +kernel
theorem d_Md_weight_41 : decode c_Md_weight 41 = .ok (.lmul, 1) := by decide +kernel
theorem d_Md_weight_42 : decode c_Md_weight 42 = .ok (.aload_n 0, 1) := by decide +kernel
theorem d_Md_weight_43 : decode c_Md_weight 43 = .ok (.getfield 29, 3) := by decide +kernel
theorem d_Md_weight_46 : decode c_Md_weight 46 = .ok (.iload_n 1, 1) := by decide +kernel
theorem d_Md_weight_47 : decode c_Md_weight 47 = .ok (.iaload, 1) := by decide +kernel
theorem d_Md_weight_48 : decode c_Md_weight 48 = .ok (.i2l, 1) := by decide +kernel
theorem d_Md_weight_49 : decode c_Md_weight 49 = .ok (.lmul, 1) := by decide +kernel
theorem d_Md_weight_50 : decode c_Md_weight 50 = .ok (.lstore_n 3, 1) := by decide +kernel
theorem d_Md_weight_51 : decode c_Md_weight 51 = .ok (.lload_n 3, 1) := by decide +kernel
theorem d_Md_weight_52 : decode c_Md_weight 52 = .ok (.lstore 5, 2) := by decide +kernel
theorem d_Md_weight_54 : decode c_Md_weight 54 = .ok (.ldc2_w 249, 3) := by decide +kernel
theorem d_Md_weight_57 : decode c_Md_weight 57 = .ok (.lstore 7, 2) := by decide +kernel
theorem d_Md_weight_59 : decode c_Md_weight 59 = .ok (.lload 7, 2) := by decide +kernel
theorem d_Md_weight_61 : decode c_Md_weight 61 = .ok (.lconst 0, 1) := by decide +kernel
theorem d_Md_weight_62 : decode c_Md_weight 62 = .ok (.lcmp, 1) := by decide +kernel
theorem d_Md_weight_63 : decode c_Md_weight 63 = .ok (.ifCond .le 21, 3) := by decide +kernel
theorem d_Md_weight_66 : decode c_Md_weight 66 = .ok (.lload 5, 2) := by decide +kernel
theorem d_Md_weight_68 : decode c_Md_weight 68 = .ok (.lload 7, 2) := by decide +kernel
theorem d_Md_weight_70 : decode c_Md_weight 70 = .ok (.lrem, 1) := by decide +kernel
theorem d_Md_weight_71 : decode c_Md_weight 71 = .ok (.lstore 9, 2) := by decide +kernel
theorem d_Md_weight_73 : decode c_Md_weight 73 = .ok (.lload 7, 2) := by decide +kernel
theorem d_Md_weight_75 : decode c_Md_weight 75 = .ok (.lstore 5, 2) := by decide +kernel
theorem d_Md_weight_77 : decode c_Md_weight 77 = .ok (.lload 9, 2) := by decide +kernel
theorem d_Md_weight_79 : decode c_Md_weight 79 = .ok (.lstore 7, 2) := by decide +kernel
theorem d_Md_weight_81 : decode c_Md_weight 81 = .ok (.goto (-22), 3) := by decide +kernel
theorem d_Md_weight_84 : decode c_Md_weight 84 = .ok (.iload_n 2, 1) := by decide +kernel
theorem d_Md_weight_85 : decode c_Md_weight 85 = .ok (.ifCond .ne 10, 3) := by decide +kernel
theorem d_Md_weight_88 : decode c_Md_weight 88 = .ok (.lload_n 3, 1) := by decide +kernel
theorem d_Md_weight_89 : decode c_Md_weight 89 = .ok (.lload 5, 2) := by decide +kernel
theorem d_Md_weight_91 : decode c_Md_weight 91 = .ok (.ldiv, 1) := by decide +kernel
theorem d_Md_weight_92 : decode c_Md_weight 92 = .ok (.goto 9, 3) := by decide +kernel
theorem d_Md_weight_95 : decode c_Md_weight 95 = .ok (.ldc2_w 249, 3) := by decide +kernel
theorem d_Md_weight_98 : decode c_Md_weight 98 = .ok (.lload 5, 2) := by decide +kernel
theorem d_Md_weight_100 : decode c_Md_weight 100 = .ok (.ldiv, 1) := by decide +kernel
theorem d_Md_weight_101 : decode c_Md_weight 101 = .ok (.lreturn, 1) := by decide +kernel
theorem d_Md_sign_0 : decode c_Md_sign 0 = .ok (.aload_n 0, 1) := by decide +kernel
theorem d_Md_sign_1 : decode c_Md_sign 1 = .ok (.getfield 117, 3) := by decide +kernel
theorem d_Md_sign_4 : decode c_Md_sign 4 = .ok (.aload_n 0, 1) := by decide +kernel
theorem d_Md_sign_5 : decode c_Md_sign 5 = .ok (.getfield 251, 3) := by decide +kernel
theorem d_Md_sign_8 : decode c_Md_sign 8 = .ok (.iload_n 1, 1) := by decide +kernel
theorem d_Md_sign_9 : decode c_Md_sign 9 = .ok (.iastore, 1) := by decide +kernel
theorem d_Md_sign_10 : decode c_Md_sign 10 = .ok (.aload_n 0, 1) := by decide +kernel
theorem d_Md_sign_11 : decode c_Md_sign 11 = .ok (.dup, 1) := by decide +kernel
theorem d_Md_sign_12 : decode c_Md_sign 12 = .ok (.getfield 251, 3) := by decide +kernel
theorem d_Md_sign_15 : decode c_Md_sign 15 = .ok (.iconst 1, 1) := by decide +kernel
theorem d_Md_sign_16 : decode c_Md_sign 16 = .ok (.iadd, 1) := by decide +kernel
theorem d_Md_sign_17 : decode c_Md_sign 17 = .ok (.putfield 251, 3) := by decide +kernel
theorem d_Md_sign_20 : decode c_Md_sign 20 = .ok (.return_, 1) := by decide +kernel
theorem d_Md_tag_0 : decode c_Md_tag 0 = .ok (.aload_n 0, 1) := by decide +kernel
theorem d_Md_tag_1 : decode c_Md_tag 1 = .ok (.iload_n 1, 1) := by decide +kernel
theorem d_Md_tag_2 : decode c_Md_tag 2 = .ok (.invokevirtual 154, 3) := by decide +kernel
theorem d_Md_tag_5 : decode c_Md_tag 5 = .ok (.ifCond .ne 5, 3) := by decide +kernel
theorem d_Md_tag_8 : decode c_Md_tag 8 = .ok (.iconst (-1), 1) := by decide +kernel
theorem d_Md_tag_9 : decode c_Md_tag 9 = .ok (.ireturn, 1) := by decide +kernel
theorem d_Md_tag_10 : decode c_Md_tag 10 = .ok (.aload_n 0, 1) := by decide +kernel
theorem d_Md_tag_11 : decode c_Md_tag 11 = .ok (.iconst 0, 1) := by decide +kernel
theorem d_Md_tag_12 : decode c_Md_tag 12 = .ok (.putfield 251, 3) := by decide +kernel
theorem d_Md_tag_15 : decode c_Md_tag 15 = .ok (.aload_n 0, 1) := by decide +kernel
theorem d_Md_tag_16 : decode c_Md_tag 16 = .ok (.bipush 48, 2) := by decide +kernel
theorem d_Md_tag_18 : decode c_Md_tag 18 = .ok (.aload_n 0, 1) := by decide +kernel
theorem d_Md_tag_19 : decode c_Md_tag 19 = .ok (.getfield 29, 3) := by decide +kernel
theorem d_Md_tag_22 : decode c_Md_tag 22 = .ok (.iload_n 1, 1) := by decide +kernel
theorem d_Md_tag_23 : decode c_Md_tag 23 = .ok (.iaload, 1) := by decide +kernel
theorem d_Md_tag_24 : decode c_Md_tag 24 = .ok (.iadd, 1) := by decide +kernel
theorem d_Md_tag_25 : decode c_Md_tag 25 = .ok (.invokevirtual 254, 3) := by decide +kernel
theorem d_Md_tag_28 : decode c_Md_tag 28 = .ok (.aload_n 0, 1) := by decide +kernel
theorem d_Md_tag_29 : decode c_Md_tag 29 = .ok (.bipush 120, 2) := by decide +kernel
theorem d_Md_tag_31 : decode c_Md_tag 31 = .ok (.invokevirtual 254, 3) := by decide +kernel
theorem d_Md_tag_34 : decode c_Md_tag 34 = .ok (.aload_n 0, 1) := by decide +kernel
theorem d_Md_tag_35 : decode c_Md_tag 35 = .ok (.getfield 26, 3) := by decide +kernel
theorem d_Md_tag_38 : decode c_Md_tag 38 = .ok (.iload_n 1, 1) := by decide +kernel
theorem d_Md_tag_39 : decode c_Md_tag 39 = .ok (.iaload, 1) := by decide +kernel
theorem d_Md_tag_40 : decode c_Md_tag 40 = .ok (.bipush 9, 2) := by decide +kernel
theorem d_Md_tag_42 : decode c_Md_tag 42 = .ok (.if_icmp .le 19, 3) := by decide +kernel
theorem d_Md_tag_45 : decode c_Md_tag 45 = .ok (.aload_n 0, 1) := by decide +kernel
theorem d_Md_tag_46 : decode c_Md_tag 46 = .ok (.bipush 48, 2) := by decide +kernel
theorem d_Md_tag_48 : decode c_Md_tag 48 = .ok (.aload_n 0, 1) := by decide +kernel
theorem d_Md_tag_49 : decode c_Md_tag 49 = .ok (.getfield 26, 3) := by decide +kernel
theorem d_Md_tag_52 : decode c_Md_tag 52 = .ok (.iload_n 1, 1) := by decide +kernel
theorem d_Md_tag_53 : decode c_Md_tag 53 = .ok (.iaload, 1) := by decide +kernel
theorem d_Md_tag_54 : decode c_Md_tag 54 = .ok (.bipush 10, 2) := by decide +kernel
theorem d_Md_tag_56 : decode c_Md_tag 56 = .ok (.idiv, 1) := by decide +kernel
theorem d_Md_tag_57 : decode c_Md_tag 57 = .ok (.iadd, 1) := by decide +kernel
theorem d_Md_tag_58 : decode c_Md_tag 58 = .ok (.invokevirtual 254, 3) := by decide +kernel
theorem d_Md_tag_61 : decode c_Md_tag 61 = .ok (.aload_n 0, 1) := by decide +kernel
theorem d_Md_tag_62 : decode c_Md_tag 62 = .ok (.bipush 48, 2) := by decide +kernel
theorem d_Md_tag_64 : decode c_Md_tag 64 = .ok (.aload_n 0, 1) := by decide +kernel
theorem d_Md_tag_65 : decode c_Md_tag 65 = .ok (.getfield 26, 3) := by decide +kernel
theorem d_Md_tag_68 : decode c_Md_tag 68 = .ok (.iload_n 1, 1) := by decide +kernel
theorem d_Md_tag_69 : decode c_Md_tag 69 = .ok (.iaload, 1) := by decide +kernel
theorem d_Md_tag_70 : decode c_Md_tag 70 = .ok (.bipush 10, 2) := by decide +kernel
theorem d_Md_tag_72 : decode c_Md_tag 72 = .ok (.irem, 1) := by decide +kernel
theorem d_Md_tag_73 : decode c_Md_tag 73 = .ok (.iadd, 1) := by decide +kernel
theorem d_Md_tag_74 : decode c_Md_tag 74 = .ok (.invokevirtual 254, 3) := by decide +kernel
theorem d_Md_tag_77 : decode c_Md_tag 77 = .ok (.aload_n 0, 1) := by decide +kernel
theorem d_Md_tag_78 : decode c_Md_tag 78 = .ok (.bipush 58, 2) := by decide +kernel
theorem d_Md_tag_80 : decode c_Md_tag 80 = .ok (.invokevirtual 254, 3) := by decide +kernel
theorem d_Md_tag_83 : decode c_Md_tag 83 = .ok (.iconst 0, 1) := by decide +kernel
theorem d_Md_tag_84 : decode c_Md_tag 84 = .ok (.istore_n 3, 1) := by decide +kernel
theorem d_Md_tag_85 : decode c_Md_tag 85 = .ok (.iload_n 3, 1) := by decide +kernel
theorem d_Md_tag_86 : decode c_Md_tag 86 = .ok (.aload_n 0, 1) := by decide +kernel
theorem d_Md_tag_87 : decode c_Md_tag 87 = .ok (.getfield 13, 3) := by decide +kernel
theorem d_Md_tag_90 : decode c_Md_tag 90 = .ok (.aload_n 0, 1) := by decide +kernel
theorem d_Md_tag_91 : decode c_Md_tag 91 = .ok (.getfield 23, 3) := by decide +kernel
theorem d_Md_tag_94 : decode c_Md_tag 94 = .ok (.iload_n 1, 1) := by decide +kernel
theorem d_Md_tag_95 : decode c_Md_tag 95 = .ok (.iaload, 1) := by decide +kernel
theorem d_Md_tag_96 : decode c_Md_tag 96 = .ok (.iaload, 1) := by decide +kernel
theorem d_Md_tag_97 : decode c_Md_tag 97 = .ok (.if_icmp .ge 78, 3) := by decide +kernel
theorem d_Md_tag_100 : decode c_Md_tag 100 = .ok (.iload_n 3, 1) := by decide +kernel
theorem d_Md_tag_101 : decode c_Md_tag 101 = .ok (.ifCond .ne 7, 3) := by decide +kernel
theorem d_Md_tag_104 : decode c_Md_tag 104 = .ok (.iconst 0, 1) := by decide +kernel
theorem d_Md_tag_105 : decode c_Md_tag 105 = .ok (.goto 21, 3) := by decide +kernel
theorem d_Md_tag_108 : decode c_Md_tag 108 = .ok (.aload_n 0, 1) := by decide +kernel
theorem d_Md_tag_109 : decode c_Md_tag 109 = .ok (.getfield 16, 3) := by decide +kernel
theorem d_Md_tag_112 : decode c_Md_tag 112 = .ok (.bipush 6, 2) := by decide +kernel
theorem d_Md_tag_114 : decode c_Md_tag 114 = .ok (.aload_n 0, 1) := by decide +kernel
theorem d_Md_tag_115 : decode c_Md_tag 115 = .ok (.getfield 23, 3) := by decide +kernel
theorem d_Md_tag_118 : decode c_Md_tag 118 = .ok (.iload_n 1, 1) := by decide +kernel
theorem d_Md_tag_119 : decode c_Md_tag 119 = .ok (.iaload, 1) := by decide +kernel
theorem d_Md_tag_120 : decode c_Md_tag 120 = .ok (.imul, 1) := by decide +kernel
theorem d_Md_tag_121 : decode c_Md_tag 121 = .ok (.iload_n 3, 1) := by decide +kernel
theorem d_Md_tag_122 : decode c_Md_tag 122 = .ok (.iadd, 1) := by decide +kernel
theorem d_Md_tag_123 : decode c_Md_tag 123 = .ok (.iconst 1, 1) := by decide +kernel
theorem d_Md_tag_124 : decode c_Md_tag 124 = .ok (.isub, 1) := by decide +kernel
theorem d_Md_tag_125 : decode c_Md_tag 125 = .ok (.iaload, 1) := by decide +kernel
theorem d_Md_tag_126 : decode c_Md_tag 126 = .ok (.istore 4, 2) := by decide +kernel
theorem d_Md_tag_128 : decode c_Md_tag 128 = .ok (.iload 4, 2) := by decide +kernel
theorem d_Md_tag_130 : decode c_Md_tag 130 = .ok (.ifCond .le 31, 3) := by decide +kernel
theorem d_Md_tag_133 : decode c_Md_tag 133 = .ok (.aload_n 0, 1) := by decide +kernel
theorem d_Md_tag_134 : decode c_Md_tag 134 = .ok (.iload 4, 2) := by decide +kernel
theorem d_Md_tag_136 : decode c_Md_tag 136 = .ok (.iconst 1, 1) := by decide +kernel
theorem d_Md_tag_137 : decode c_Md_tag 137 = .ok (.if_icmp .ne 8, 3) := by decide +kernel
theorem d_Md_tag_140 : decode c_Md_tag 140 = .ok (.bipush 76, 2) := by decide +kernel
theorem d_Md_tag_142 : decode c_Md_tag 142 = .ok (.goto 16, 3) := by decide +kernel
theorem d_Md_tag_145 : decode c_Md_tag 145 = .ok (.iload 4, 2) := by decide +kernel
theorem d_Md_tag_147 : decode c_Md_tag 147 = .ok (.iconst 2, 1) := by decide +kernel
theorem d_Md_tag_148 : decode c_Md_tag 148 = .ok (.if_icmp .ne 8, 3) := by decide +kernel
theorem d_Md_tag_151 : decode c_Md_tag 151 = .ok (.bipush 82, 2) := by decide +kernel
theorem d_Md_tag_153 : decode c_Md_tag 153 = .ok (.goto 5, 3) := by decide +kernel
theorem d_Md_tag_156 : decode c_Md_tag 156 = .ok (.bipush 85, 2) := by decide +kernel
theorem d_Md_tag_158 : decode c_Md_tag 158 = .ok (.invokevirtual 254, 3) := by decide +kernel
theorem d_Md_tag_161 : decode c_Md_tag 161 = .ok (.aload_n 0, 1) := by decide +kernel
theorem d_Md_tag_162 : decode c_Md_tag 162 = .ok (.bipush 65, 2) := by decide +kernel
theorem d_Md_tag_164 : decode c_Md_tag 164 = .ok (.iload_n 3, 1) := by decide +kernel
theorem d_Md_tag_165 : decode c_Md_tag 165 = .ok (.iadd, 1) := by decide +kernel
theorem d_Md_tag_166 : decode c_Md_tag 166 = .ok (.invokevirtual 254, 3) := by decide +kernel
theorem d_Md_tag_169 : decode c_Md_tag 169 = .ok (.iinc 3 1, 3) := by decide +kernel
theorem d_Md_tag_172 : decode c_Md_tag 172 = .ok (.goto (-87), 3) := by decide +kernel
theorem d_Md_tag_175 : decode c_Md_tag 175 = .ok (.iload_n 2, 1) := by decide +kernel
theorem d_Md_tag_176 : decode c_Md_tag 176 = .ok (.ifCond .lt 11, 3) := by decide +kernel
theorem d_Md_tag_179 : decode c_Md_tag 179 = .ok (.iload_n 2, 1) := by decide +kernel
theorem d_Md_tag_180 : decode c_Md_tag 180 = .ok (.aload_n 0, 1) := by decide +kernel
theorem d_Md_tag_181 : decode c_Md_tag 181 = .ok (.getfield 251, 3) := by decide +kernel
theorem d_Md_tag_184 : decode c_Md_tag 184 = .ok (.if_icmp .lt 7, 3) := by decide +kernel
theorem d_Md_tag_187 : decode c_Md_tag 187 = .ok (.iconst (-1), 1) := by decide +kernel
theorem d_Md_tag_188 : decode c_Md_tag 188 = .ok (.goto 9, 3) := by decide +kernel
theorem d_Md_tag_191 : decode c_Md_tag 191 = .ok (.aload_n 0, 1) := by decide +kernel
theorem d_Md_tag_192 : decode c_Md_tag 192 = .ok (.getfield 117, 3) := by decide +kernel
theorem d_Md_tag_195 : decode c_Md_tag 195 = .ok (.iload_n 2, 1) := by decide +kernel
theorem d_Md_tag_196 : decode c_Md_tag 196 = .ok (.iaload, 1) := by decide +kernel
theorem d_Md_tag_197 : decode c_Md_tag 197 = .ok (.ireturn, 1) := by decide +kernel
theorem d_Md_differ_0 : decode c_Md_differ 0 = .ok (.iload_n 3, 1) := by decide +kernel
theorem d_Md_differ_1 : decode c_Md_differ 1 = .ok (.ifCond .ne 26, 3) := by decide +kernel
theorem d_Md_differ_4 : decode c_Md_differ 4 = .ok (.aload_n 0, 1) := by decide +kernel
theorem d_Md_differ_5 : decode c_Md_differ 5 = .ok (.getfield 23, 3) := by decide +kernel
theorem d_Md_differ_8 : decode c_Md_differ 8 = .ok (.iload_n 1, 1) := by decide +kernel
theorem d_Md_differ_9 : decode c_Md_differ 9 = .ok (.iaload, 1) := by decide +kernel
theorem d_Md_differ_10 : decode c_Md_differ 10 = .ok (.aload_n 0, 1) := by decide +kernel
theorem d_Md_differ_11 : decode c_Md_differ 11 = .ok (.getfield 23, 3) := by decide +kernel
theorem d_Md_differ_14 : decode c_Md_differ 14 = .ok (.iload_n 2, 1) := by decide +kernel
theorem d_Md_differ_15 : decode c_Md_differ 15 = .ok (.iaload, 1) := by decide +kernel
theorem d_Md_differ_16 : decode c_Md_differ 16 = .ok (.if_icmp .eq 7, 3) := by decide +kernel
theorem d_Md_differ_19 : decode c_Md_differ 19 = .ok (.iconst 1, 1) := by decide +kernel
theorem d_Md_differ_20 : decode c_Md_differ 20 = .ok (.goto 98, 3) := by decide +kernel
theorem d_Md_differ_23 : decode c_Md_differ 23 = .ok (.iconst 0, 1) := by decide +kernel
theorem d_Md_differ_24 : decode c_Md_differ 24 = .ok (.goto 94, 3) := by decide +kernel
theorem d_Md_differ_27 : decode c_Md_differ 27 = .ok (.iload_n 3, 1) := by decide +kernel
theorem d_Md_differ_28 : decode c_Md_differ 28 = .ok (.iconst 1, 1) := by decide +kernel
theorem d_Md_differ_29 : decode c_Md_differ 29 = .ok (.if_icmp .ne 26, 3) := by decide +kernel
theorem d_Md_differ_32 : decode c_Md_differ 32 = .ok (.aload_n 0, 1) := by decide +kernel
theorem d_Md_differ_33 : decode c_Md_differ 33 = .ok (.getfield 26, 3) := by decide +kernel
theorem d_Md_differ_36 : decode c_Md_differ 36 = .ok (.iload_n 1, 1) := by decide +kernel
theorem d_Md_differ_37 : decode c_Md_differ 37 = .ok (.iaload, 1) := by decide +kernel
theorem d_Md_differ_38 : decode c_Md_differ 38 = .ok (.aload_n 0, 1) := by decide +kernel
theorem d_Md_differ_39 : decode c_Md_differ 39 = .ok (.getfield 26, 3) := by decide +kernel
theorem d_Md_differ_42 : decode c_Md_differ 42 = .ok (.iload_n 2, 1) := by decide +kernel
theorem d_Md_differ_43 : decode c_Md_differ 43 = .ok (.iaload, 1) := by decide +kernel
theorem d_Md_differ_44 : decode c_Md_differ 44 = .ok (.if_icmp .eq 7, 3) := by decide +kernel
theorem d_Md_differ_47 : decode c_Md_differ 47 = .ok (.iconst 1, 1) := by decide +kernel
theorem d_Md_differ_48 : decode c_Md_differ 48 = .ok (.goto 70, 3) := by decide +kernel
theorem d_Md_differ_51 : decode c_Md_differ 51 = .ok (.iconst 0, 1) := by decide +kernel
theorem d_Md_differ_52 : decode c_Md_differ 52 = .ok (.goto 66, 3) := by decide +kernel
theorem d_Md_differ_55 : decode c_Md_differ 55 = .ok (.iload_n 3, 1) := by decide +kernel
theorem d_Md_differ_56 : decode c_Md_differ 56 = .ok (.iconst 2, 1) := by decide +kernel
theorem d_Md_differ_57 : decode c_Md_differ 57 = .ok (.if_icmp .ne 26, 3) := by decide +kernel
theorem d_Md_differ_60 : decode c_Md_differ 60 = .ok (.aload_n 0, 1) := by decide +kernel
theorem d_Md_differ_61 : decode c_Md_differ 61 = .ok (.getfield 29, 3) := by decide +kernel
theorem d_Md_differ_64 : decode c_Md_differ 64 = .ok (.iload_n 1, 1) := by decide +kernel
theorem d_Md_differ_65 : decode c_Md_differ 65 = .ok (.iaload, 1) := by decide +kernel
theorem d_Md_differ_66 : decode c_Md_differ 66 = .ok (.aload_n 0, 1) := by decide +kernel
theorem d_Md_differ_67 : decode c_Md_differ 67 = .ok (.getfield 29, 3) := by decide +kernel
theorem d_Md_differ_70 : decode c_Md_differ 70 = .ok (.iload_n 2, 1) := by decide +kernel
theorem d_Md_differ_71 : decode c_Md_differ 71 = .ok (.iaload, 1) := by decide +kernel
theorem d_Md_differ_72 : decode c_Md_differ 72 = .ok (.if_icmp .eq 7, 3) := by decide +kernel
theorem d_Md_differ_75 : decode c_Md_differ 75 = .ok (.iconst 1, 1) := by decide +kernel
theorem d_Md_differ_76 : decode c_Md_differ 76 = .ok (.goto 42, 3) := by decide +kernel
theorem d_Md_differ_79 : decode c_Md_differ 79 = .ok (.iconst 0, 1) := by decide +kernel
theorem d_Md_differ_80 : decode c_Md_differ 80 = .ok (.goto 38, 3) := by decide +kernel
theorem d_Md_differ_83 : decode c_Md_differ 83 = .ok (.aload_n 0, 1) := by decide +kernel
theorem d_Md_differ_84 : decode c_Md_differ 84 = .ok (.getfield 32, 3) := by decide +kernel
theorem d_Md_differ_87 : decode c_Md_differ 87 = .ok (.bipush 6, 2) := by decide +kernel
theorem d_Md_differ_89 : decode c_Md_differ 89 = .ok (.iload_n 1, 1) := by decide +kernel
theorem d_Md_differ_90 : decode c_Md_differ 90 = .ok (.imul, 1) := by decide +kernel
theorem d_Md_differ_91 : decode c_Md_differ 91 = .ok (.iload_n 3, 1) := by decide +kernel
theorem d_Md_differ_92 : decode c_Md_differ 92 = .ok (.iadd, 1) := by decide +kernel
theorem d_Md_differ_93 : decode c_Md_differ 93 = .ok (.iconst 3, 1) := by decide +kernel
theorem d_Md_differ_94 : decode c_Md_differ 94 = .ok (.isub, 1) := by decide +kernel
theorem d_Md_differ_95 : decode c_Md_differ 95 = .ok (.laload, 1) := by decide +kernel
theorem d_Md_differ_96 : decode c_Md_differ 96 = .ok (.aload_n 0, 1) := by decide +kernel
theorem d_Md_differ_97 : decode c_Md_differ 97 = .ok (.getfield 32, 3) := by decide +kernel
theorem d_Md_differ_100 : decode c_Md_differ 100 = .ok (.bipush 6, 2) := by decide +kernel
theorem d_Md_differ_102 : decode c_Md_differ 102 = .ok (.iload_n 2, 1) := by decide +kernel
theorem d_Md_differ_103 : decode c_Md_differ 103 = .ok (.imul, 1) := by decide +kernel
theorem d_Md_differ_104 : decode c_Md_differ 104 = .ok (.iload_n 3, 1) := by decide +kernel
theorem d_Md_differ_105 : decode c_Md_differ 105 = .ok (.iadd, 1) := by decide +kernel
theorem d_Md_differ_106 : decode c_Md_differ 106 = .ok (.iconst 3, 1) := by decide +kernel
theorem d_Md_differ_107 : decode c_Md_differ 107 = .ok (.isub, 1) := by decide +kernel
theorem d_Md_differ_108 : decode c_Md_differ 108 = .ok (.laload, 1) := by decide +kernel
theorem d_Md_differ_109 : decode c_Md_differ 109 = .ok (.lcmp, 1) := by decide +kernel
theorem d_Md_differ_110 : decode c_Md_differ 110 = .ok (.ifCond .eq 7, 3) := by decide +kernel
theorem d_Md_differ_113 : decode c_Md_differ 113 = .ok (.iconst 1, 1) := by decide +kernel
theorem d_Md_differ_114 : decode c_Md_differ 114 = .ok (.goto 4, 3) := by decide +kernel
theorem d_Md_differ_117 : decode c_Md_differ 117 = .ok (.iconst 0, 1) := by decide +kernel
theorem d_Md_differ_118 : decode c_Md_differ 118 = .ok (.ireturn, 1) := by decide +kernel
theorem d_Md_differs_0 : decode c_Md_differs 0 = .ok (.aload_n 0, 1) := by decide +kernel
theorem d_Md_differs_1 : decode c_Md_differs 1 = .ok (.iload_n 1, 1) := by decide +kernel
theorem d_Md_differs_2 : decode c_Md_differs 2 = .ok (.invokevirtual 154, 3) := by decide +kernel
theorem d_Md_differs_5 : decode c_Md_differs 5 = .ok (.ifCond .eq 15, 3) := by decide +kernel
theorem d_Md_differs_8 : decode c_Md_differs 8 = .ok (.aload_n 0, 1) := by decide +kernel
theorem d_Md_differs_9 : decode c_Md_differs 9 = .ok (.iload_n 2, 1) := by decide +kernel
theorem d_Md_differs_10 : decode c_Md_differs 10 = .ok (.invokevirtual 154, 3) := by decide +kernel
theorem d_Md_differs_13 : decode c_Md_differs 13 = .ok (.ifCond .eq 7, 3) := by decide +kernel
theorem d_Md_differs_16 : decode c_Md_differs 16 = .ok (.iload_n 3, 1) := by decide +kernel
theorem d_Md_differs_17 : decode c_Md_differs 17 = .ok (.ifCond .ge 5, 3) := by decide +kernel
theorem d_Md_differs_20 : decode c_Md_differs 20 = .ok (.iconst (-1), 1) := by decide +kernel
theorem d_Md_differs_21 : decode c_Md_differs 21 = .ok (.ireturn, 1) := by decide +kernel
theorem d_Md_differs_22 : decode c_Md_differs 22 = .ok (.iconst 0, 1) := by decide +kernel
theorem d_Md_differs_23 : decode c_Md_differs 23 = .ok (.istore 4, 2) := by decide +kernel
theorem d_Md_differs_25 : decode c_Md_differs 25 = .ok (.iconst 0, 1) := by decide +kernel
theorem d_Md_differs_26 : decode c_Md_differs 26 = .ok (.istore 5, 2) := by decide +kernel
theorem d_Md_differs_28 : decode c_Md_differs 28 = .ok (.iload 5, 2) := by decide +kernel
theorem d_Md_differs_30 : decode c_Md_differs 30 = .ok (.bipush 9, 2) := by decide +kernel
theorem d_Md_differs_32 : decode c_Md_differs 32 = .ok (.if_icmp .ge 32, 3) := by decide +kernel
theorem d_Md_differs_35 : decode c_Md_differs 35 = .ok (.aload_n 0, 1) := by decide +kernel
theorem d_Md_differs_36 : decode c_Md_differs 36 = .ok (.iload_n 1, 1) := by decide +kernel
theorem d_Md_differs_37 : decode c_Md_differs 37 = .ok (.iload_n 2, 1) := by decide +kernel
theorem d_Md_differs_38 : decode c_Md_differs 38 = .ok (.iload 5, 2) := by decide +kernel
theorem d_Md_differs_40 : decode c_Md_differs 40 = .ok (.invokevirtual 257, 3) := by decide +kernel
theorem d_Md_differs_43 : decode c_Md_differs 43 = .ok (.ifCond .eq 15, 3) := by decide +kernel
theorem d_Md_differs_46 : decode c_Md_differs 46 = .ok (.iload 4, 2) := by decide +kernel
theorem d_Md_differs_48 : decode c_Md_differs 48 = .ok (.iload_n 3, 1) := by decide +kernel
theorem d_Md_differs_49 : decode c_Md_differs 49 = .ok (.if_icmp .ne 6, 3) := by decide +kernel
theorem d_Md_differs_52 : decode c_Md_differs 52 = .ok (.iload 5, 2) := by decide +kernel
theorem d_Md_differs_54 : decode c_Md_differs 54 = .ok (.ireturn, 1) := by decide +kernel
theorem d_Md_differs_55 : decode c_Md_differs 55 = .ok (.iinc 4 1, 3) := by decide +kernel
theorem d_Md_differs_58 : decode c_Md_differs 58 = .ok (.iinc 5 1, 3) := by decide +kernel
theorem d_Md_differs_61 : decode c_Md_differs 61 = .ok (.goto (-33), 3) := by decide +kernel
theorem d_Md_differs_64 : decode c_Md_differs 64 = .ok (.iconst (-1), 1) := by decide +kernel
theorem d_Md_differs_65 : decode c_Md_differs 65 = .ok (.ireturn, 1) := by decide +kernel
theorem d_Md_isBentBefore_0 : decode c_Md_isBentBefore 0 = .ok (.aload_n 0, 1) := by decide +kernel
theorem d_Md_isBentBefore_1 : decode c_Md_isBentBefore 1 = .ok (.getfield 26, 3) := by decide +kernel
theorem d_Md_isBentBefore_4 : decode c_Md_isBentBefore 4 = .ok (.iload_n 1, 1) := by decide +kernel
theorem d_Md_isBentBefore_5 : decode c_Md_isBentBefore 5 = .ok (.iaload, 1) := by decide +kernel
theorem d_Md_isBentBefore_6 : decode c_Md_isBentBefore 6 = .ok (.aload_n 0, 1) := by decide +kernel
theorem d_Md_isBentBefore_7 : decode c_Md_isBentBefore 7 = .ok (.getfield 26, 3) := by decide +kernel
theorem d_Md_isBentBefore_10 : decode c_Md_isBentBefore 10 = .ok (.iload_n 2, 1) := by decide +kernel
theorem d_Md_isBentBefore_11 : decode c_Md_isBentBefore 11 = .ok (.iaload, 1) := by decide +kernel
theorem d_Md_isBentBefore_12 : decode c_Md_isBentBefore 12 = .ok (.if_icmp .eq 24, 3) := by decide +kernel
theorem d_Md_isBentBefore_15 : decode c_Md_isBentBefore 15 = .ok (.aload_n 0, 1) := by decide +kernel
theorem d_Md_isBentBefore_16 : decode c_Md_isBentBefore 16 = .ok (.getfield 26, 3) := by decide +kernel
theorem d_Md_isBentBefore_19 : decode c_Md_isBentBefore 19 = .ok (.iload_n 1, 1) := by decide +kernel
theorem d_Md_isBentBefore_20 : decode c_Md_isBentBefore 20 = .ok (.iaload, 1) := by decide +kernel
theorem d_Md_isBentBefore_21 : decode c_Md_isBentBefore 21 = .ok (.aload_n 0, 1) := by decide +kernel
theorem d_Md_isBentBefore_22 : decode c_Md_isBentBefore 22 = .ok (.getfield 26, 3) := by decide +kernel
theorem d_Md_isBentBefore_25 : decode c_Md_isBentBefore 25 = .ok (.iload_n 2, 1) := by decide +kernel
theorem d_Md_isBentBefore_26 : decode c_Md_isBentBefore 26 = .ok (.iaload, 1) := by decide +kernel
theorem d_Md_isBentBefore_27 : decode c_Md_isBentBefore 27 = .ok (.if_icmp .ge 7, 3) := by decide +kernel
theorem d_Md_isBentBefore_30 : decode c_Md_isBentBefore 30 = .ok (.iconst 1, 1) := by decide +kernel
theorem d_Md_isBentBefore_31 : decode c_Md_isBentBefore 31 = .ok (.goto 4, 3) := by decide +kernel
theorem d_Md_isBentBefore_34 : decode c_Md_isBentBefore 34 = .ok (.iconst 0, 1) := by decide +kernel
theorem d_Md_isBentBefore_35 : decode c_Md_isBentBefore 35 = .ok (.ireturn, 1) := by decide +kernel
theorem d_Md_isBentBefore_36 : decode c_Md_isBentBefore 36 = .ok (.aload_n 0, 1) := by decide +kernel
theorem d_Md_isBentBefore_37 : decode c_Md_isBentBefore 37 = .ok (.getfield 23, 3) := by decide +kernel
theorem d_Md_isBentBefore_40 : decode c_Md_isBentBefore 40 = .ok (.iload_n 1, 1) := by decide +kernel
theorem d_Md_isBentBefore_41 : decode c_Md_isBentBefore 41 = .ok (.iaload, 1) := by decide +kernel
theorem d_Md_isBentBefore_42 : decode c_Md_isBentBefore 42 = .ok (.aload_n 0, 1) := by decide +kernel
theorem d_Md_isBentBefore_43 : decode c_Md_isBentBefore 43 = .ok (.getfield 23, 3) := by decide +kernel
theorem d_Md_isBentBefore_46 : decode c_Md_isBentBefore 46 = .ok (.iload_n 2, 1) := by decide +kernel
theorem d_Md_isBentBefore_47 : decode c_Md_isBentBefore 47 = .ok (.iaload, 1) := by decide +kernel
theorem d_Md_isBentBefore_48 : decode c_Md_isBentBefore 48 = .ok (.if_icmp .eq 26, 3) := by decide +kernel
theorem d_Md_isBentBefore_51 : decode c_Md_isBentBefore 51 = .ok (.aload_n 0, 1) := by decide +kernel
theorem d_Md_isBentBefore_52 : decode c_Md_isBentBefore 52 = .ok (.getfield 23, 3) := by decide +kernel
theorem d_Md_isBentBefore_55 : decode c_Md_isBentBefore 55 = .ok (.iload_n 1, 1) := by decide +kernel
theorem d_Md_isBentBefore_56 : decode c_Md_isBentBefore 56 = .ok (.iaload, 1) := by decide +kernel
theorem d_Md_isBentBefore_57 : decode c_Md_isBentBefore 57 = .ok (.aload_n 0, 1) := by decide +kernel
theorem d_Md_isBentBefore_58 : decode c_Md_isBentBefore 58 = .ok (.getfield 23, 3) := by decide +kernel
theorem d_Md_isBentBefore_61 : decode c_Md_isBentBefore 61 = .ok (.iload_n 2, 1) := by decide +kernel
theorem d_Md_isBentBefore_62 : decode c_Md_isBentBefore 62 = .ok (.iaload, 1) := by decide +kernel
theorem d_Md_isBentBefore_63 : decode c_Md_isBentBefore 63 = .ok (.if_icmp .ge 7, 3) := by decide +kernel
theorem d_Md_isBentBefore_66 : decode c_Md_isBentBefore 66 = .ok (.iconst 1, 1) := by decide +kernel
theorem d_Md_isBentBefore_67 : decode c_Md_isBentBefore 67 = .ok (.goto 17, 3) := by decide +kernel
theorem d_Md_isBentBefore_70 : decode c_Md_isBentBefore 70 = .ok (.iconst 0, 1) := by decide +kernel
theorem d_Md_isBentBefore_71 : decode c_Md_isBentBefore 71 = .ok (.goto 13, 3) := by decide +kernel
theorem d_Md_isBentBefore_74 : decode c_Md_isBentBefore 74 = .ok (.iload_n 1, 1) := by decide +kernel
theorem d_Md_isBentBefore_75 : decode c_Md_isBentBefore 75 = .ok (.iload_n 2, 1) := by decide +kernel
theorem d_Md_isBentBefore_76 : decode c_Md_isBentBefore 76 = .ok (.if_icmp .ge 7, 3) := by decide +kernel
theorem d_Md_isBentBefore_79 : decode c_Md_isBentBefore 79 = .ok (.iconst 1, 1) := by decide +kernel
theorem d_Md_isBentBefore_80 : decode c_Md_isBentBefore 80 = .ok (.goto 4, 3) := by decide +kernel
theorem d_Md_isBentBefore_83 : decode c_Md_isBentBefore 83 = .ok (.iconst 0, 1) := by decide +kernel
theorem d_Md_isBentBefore_84 : decode c_Md_isBentBefore 84 = .ok (.ireturn, 1) := by decide +kernel
theorem d_Md_order_0 : decode c_Md_order 0 = .ok (.iconst 0, 1) := by decide +kernel
theorem d_Md_order_1 : decode c_Md_order 1 = .ok (.istore_n 2, 1) := by decide +kernel
theorem d_Md_order_2 : decode c_Md_order 2 = .ok (.iload_n 2, 1) := by decide +kernel
theorem d_Md_order_3 : decode c_Md_order 3 = .ok (.aload_n 0, 1) := by decide +kernel
theorem d_Md_order_4 : decode c_Md_order 4 = .ok (.getfield 120, 3) := by decide +kernel
theorem d_Md_order_7 : decode c_Md_order 7 = .ok (.if_icmp .ge 54, 3) := by decide +kernel
theorem d_Md_order_10 : decode c_Md_order 10 = .ok (.iconst 0, 1) := by decide +kernel
theorem d_Md_order_11 : decode c_Md_order 11 = .ok (.istore_n 3, 1) := by decide +kernel
theorem d_Md_order_12 : decode c_Md_order 12 = .ok (.iconst 0, 1) := by decide +kernel
theorem d_Md_order_13 : decode c_Md_order 13 = .ok (.istore 4, 2) := by decide +kernel
theorem d_Md_order_15 : decode c_Md_order 15 = .ok (.iload 4, 2) := by decide +kernel
theorem d_Md_order_17 : decode c_Md_order 17 = .ok (.aload_n 0, 1) := by decide +kernel
theorem d_Md_order_18 : decode c_Md_order 18 = .ok (.getfield 120, 3) := by decide +kernel
theorem d_Md_order_21 : decode c_Md_order 21 = .ok (.if_icmp .ge 27, 3) := by decide +kernel
theorem d_Md_order_24 : decode c_Md_order 24 = .ok (.iload_n 3, 1) := by decide +kernel
theorem d_Md_order_25 : decode c_Md_order 25 = .ok (.aload_n 0, 1) := by decide +kernel
theorem d_Md_order_26 : decode c_Md_order 26 = .ok (.iload 4, 2) := by decide +kernel
theorem d_Md_order_28 : decode c_Md_order 28 = .ok (.iload_n 2, 1) := by decide +kernel
theorem d_Md_order_29 : decode c_Md_order 29 = .ok (.invokevirtual 261, 3) := by decide +kernel
theorem d_Md_order_32 : decode c_Md_order 32 = .ok (.ifCond .eq 7, 3) := by decide +kernel
theorem d_Md_order_35 : decode c_Md_order 35 = .ok (.iconst 1, 1) := by decide +kernel
theorem d_Md_order_36 : decode c_Md_order 36 = .ok (.goto 4, 3) := by decide +kernel
theorem d_Md_order_39 : decode c_Md_order 39 = .ok (.iconst 0, 1) := by decide +kernel
theorem d_Md_order_40 : decode c_Md_order 40 = .ok (.iadd, 1) := by decide +kernel
theorem d_Md_order_41 : decode c_Md_order 41 = .ok (.istore_n 3, 1) := by decide +kernel
theorem d_Md_order_42 : decode c_Md_order 42 = .ok (.iinc 4 1, 3) := by decide +kernel
theorem d_Md_order_45 : decode c_Md_order 45 = .ok (.goto (-30), 3) := by decide +kernel
theorem d_Md_order_48 : decode c_Md_order 48 = .ok (.iload_n 3, 1) := by decide +kernel
theorem d_Md_order_49 : decode c_Md_order 49 = .ok (.iload_n 1, 1) := by decide +kernel
theorem d_Md_order_50 : decode c_Md_order 50 = .ok (.if_icmp .ne 5, 3) := by decide +kernel
theorem d_Md_order_53 : decode c_Md_order 53 = .ok (.iload_n 2, 1) := by decide +kernel
theorem d_Md_order_54 : decode c_Md_order 54 = .ok (.ireturn, 1) := by decide +kernel
theorem d_Md_order_55 : decode c_Md_order 55 = .ok (.iinc 2 1, 3) := by decide +kernel
theorem d_Md_order_58 : decode c_Md_order 58 = .ok (.goto (-56), 3) := by decide +kernel
theorem d_Md_order_61 : decode c_Md_order 61 = .ok (.iconst (-1), 1) := by decide +kernel
theorem d_Md_order_62 : decode c_Md_order 62 = .ok (.ireturn, 1) := by decide +kernel
