theorem d_Ff_init_0 : decode c_Ff_init 0 = .ok (.aload_n 0, 1) := by decide +kernel
theorem d_Ff_init_1 : decode c_Ff_init 1 = .ok (.invokespecial 3, 3) := by decide +kernel
theorem d_Ff_init_4 : decode c_Ff_init 4 = .ok (.aload_n 0, 1) := by decide +kernel
theorem d_Ff_init_5 : decode c_Ff_init 5 = .ok (.iconst 3, 1) := by decide +kernel
theorem d_Ff_init_6 : decode c_Ff_init 6 = .ok (.newarray .int, 2) := by decide +kernel
theorem d_Ff_init_8 : decode c_Ff_init 8 = .ok (.putfield 9, 3) := by decide +kernel
theorem d_Ff_init_11 : decode c_Ff_init 11 = .ok (.return_, 1) := by decide +kernel
theorem d_Ff_cut_0 : decode c_Ff_cut 0 = .ok (.aload_n 1, 1) := by decide +kernel
theorem d_Ff_cut_1 : decode c_Ff_cut 1 = .ok (.getfield 15, 3) := by decide +kernel
theorem d_Ff_cut_4 : decode c_Ff_cut 4 = .ok (.istore 5, 2) := by decide +kernel
theorem d_Ff_cut_6 : decode c_Ff_cut 6 = .ok (.aload 4, 2) := by decide +kernel
theorem d_Ff_cut_8 : decode c_Ff_cut 8 = .ok (.getfield 21, 3) := by decide +kernel
theorem d_Ff_cut_11 : decode c_Ff_cut 11 = .ok (.iconst 0, 1) := by decide +kernel
theorem d_Ff_cut_12 : decode c_Ff_cut 12 = .ok (.aload_n 0, 1) := by decide +kernel
theorem d_Ff_cut_13 : decode c_Ff_cut 13 = .ok (.getfield 9, 3) := by decide +kernel
theorem d_Ff_cut_16 : decode c_Ff_cut 16 = .ok (.iconst 0, 1) := by decide +kernel
theorem d_Ff_cut_17 : decode c_Ff_cut 17 = .ok (.iconst 3, 1) := by decide +kernel
theorem d_Ff_cut_18 : decode c_Ff_cut 18 = .ok (.invokestatic 25, 3) := by decide +kernel
theorem d_Ff_cut_21 : decode c_Ff_cut 21 = .ok (.iload_n 2, 1) := by decide +kernel
theorem d_Ff_cut_22 : decode c_Ff_cut 22 = .ok (.istore 6, 2) := by decide +kernel
theorem d_Ff_cut_24 : decode c_Ff_cut 24 = .ok (.iload 6, 2) := by decide +kernel
theorem d_Ff_cut_26 : decode c_Ff_cut 26 = .ok (.aload_n 1, 1) := by decide +kernel
theorem d_Ff_cut_27 : decode c_Ff_cut 27 = .ok (.getfield 31, 3) := by decide +kernel
theorem d_Ff_cut_30 : decode c_Ff_cut 30 = .ok (.if_icmp .ge 97, 3) := by decide +kernel
theorem d_Ff_cut_33 : decode c_Ff_cut 33 = .ok (.aload_n 1, 1) := by decide +kernel
theorem d_Ff_cut_34 : decode c_Ff_cut 34 = .ok (.getfield 34, 3) := by decide +kernel
theorem d_Ff_cut_37 : decode c_Ff_cut 37 = .ok (.iload 6, 2) := by decide +kernel
theorem d_Ff_cut_39 : decode c_Ff_cut 39 = .ok (.iaload, 1) := by decide +kernel
theorem d_Ff_cut_40 : decode c_Ff_cut 40 = .ok (.istore 7, 2) := by decide +kernel
theorem d_Ff_cut_42 : decode c_Ff_cut 42 = .ok (.aload_n 1, 1) := by decide +kernel
theorem d_Ff_cut_43 : decode c_Ff_cut 43 = .ok (.iload 5, 2) := by decide +kernel
theorem d_Ff_cut_45 : decode c_Ff_cut 45 = .ok (.iload 7, 2) := by decide +kernel
theorem d_Ff_cut_47 : decode c_Ff_cut 47 = .ok (.invokestatic 37, 3) := by decide +kernel
theorem d_Ff_cut_50 : decode c_Ff_cut 50 = .ok (.istore 8, 2) := by decide +kernel
theorem d_Ff_cut_52 : decode c_Ff_cut 52 = .ok (.iload 8, 2) := by decide +kernel
theorem d_Ff_cut_54 : decode c_Ff_cut 54 = .ok (.bipush (-2), 2) := by decide +kernel
theorem d_Ff_cut_56 : decode c_Ff_cut 56 = .ok (.if_icmp .ne 48, 3) := by decide +kernel
theorem d_Ff_cut_59 : decode c_Ff_cut 59 = .ok (.aload_n 0, 1) := by decide +kernel
theorem d_Ff_cut_60 : decode c_Ff_cut 60 = .ok (.aload 4, 2) := by decide +kernel
theorem d_Ff_cut_62 : decode c_Ff_cut 62 = .ok (.iload 7, 2) := by decide +kernel
theorem d_Ff_cut_64 : decode c_Ff_cut 64 = .ok (.invokevirtual 41, 3) := by decide +kernel
theorem d_Ff_cut_67 : decode c_Ff_cut 67 = .ok (.istore 9, 2) := by decide +kernel
theorem d_Ff_cut_69 : decode c_Ff_cut 69 = .ok (.iload 9, 2) := by decide +kernel
theorem d_Ff_cut_71 : decode c_Ff_cut 71 = .ok (.bipush (-2), 2) := by decide +kernel
theorem d_Ff_cut_73 : decode c_Ff_cut 73 = .ok (.if_icmp .ne 5, 3) := by decide +kernel
theorem d_Ff_cut_76 : decode c_Ff_cut 76 = .ok (.iconst 0, 1) := by decide +kernel
theorem d_Ff_cut_77 : decode c_Ff_cut 77 = .ok (.ireturn, 1) := by decide +kernel
theorem d_Ff_cut_78 : decode c_Ff_cut 78 = .ok (.aload_n 0, 1) := by decide +kernel
theorem d_Ff_cut_79 : decode c_Ff_cut 79 = .ok (.getfield 9, 3) := by decide +kernel
theorem d_Ff_cut_82 : decode c_Ff_cut 82 = .ok (.iload 9, 2) := by decide +kernel
theorem d_Ff_cut_84 : decode c_Ff_cut 84 = .ok (.dup2, 1) := by decide +kernel
theorem d_Ff_cut_85 : decode c_Ff_cut 85 = .ok (.iaload, 1) := by decide +kernel
theorem d_Ff_cut_86 : decode c_Ff_cut 86 = .ok (.iconst 1, 1) := by decide +kernel
theorem d_Ff_cut_87 : decode c_Ff_cut 87 = .ok (.isub, 1) := by decide +kernel
theorem d_Ff_cut_88 : decode c_Ff_cut 88 = .ok (.iastore, 1) := by decide +kernel
theorem d_Ff_cut_89 : decode c_Ff_cut 89 = .ok (.aload_n 1, 1) := by decide +kernel
theorem d_Ff_cut_90 : decode c_Ff_cut 90 = .ok (.iload_n 3, 1) := by decide +kernel
theorem d_Ff_cut_91 : decode c_Ff_cut 91 = .ok (.aload 4, 2) := by decide +kernel
theorem d_Ff_cut_93 : decode c_Ff_cut 93 = .ok (.getfield 45, 3) := by decide +kernel
theorem d_Ff_cut_96 : decode c_Ff_cut 96 = .ok (.iload 9, 2) := by decide +kernel
theorem d_Ff_cut_98 : decode c_Ff_cut 98 = .ok (.iaload, 1) := by decide +kernel
theorem d_Ff_cut_99 : decode c_Ff_cut 99 = .ok (.invokevirtual 48, 3) := by decide +kernel
theorem d_Ff_cut_102 : decode c_Ff_cut 102 = .ok (.istore 8, 2) := by decide +kernel
theorem d_Ff_cut_104 : decode c_Ff_cut 104 = .ok (.iload 8, 2) := by decide +kernel
theorem d_Ff_cut_106 : decode c_Ff_cut 106 = .ok (.bipush (-2), 2) := by decide +kernel
theorem d_Ff_cut_108 : decode c_Ff_cut 108 = .ok (.if_icmp .ne 5, 3) := by decide +kernel
theorem d_Ff_cut_111 : decode c_Ff_cut 111 = .ok (.iconst 0, 1) := by decide +kernel
theorem d_Ff_cut_112 : decode c_Ff_cut 112 = .ok (.ireturn, 1) := by decide +kernel
theorem d_Ff_cut_113 : decode c_Ff_cut 113 = .ok (.aload_n 1, 1) := by decide +kernel
theorem d_Ff_cut_114 : decode c_Ff_cut 114 = .ok (.iload 6, 2) := by decide +kernel
theorem d_Ff_cut_116 : decode c_Ff_cut 116 = .ok (.iload 8, 2) := by decide +kernel
theorem d_Ff_cut_118 : decode c_Ff_cut 118 = .ok (.invokevirtual 52, 3) := by decide +kernel
theorem d_Ff_cut_121 : decode c_Ff_cut 121 = .ok (.iinc 6 1, 3) := by decide +kernel
theorem d_Ff_cut_124 : decode c_Ff_cut 124 = .ok (.goto (-100), 3) := by decide +kernel
theorem d_Ff_cut_127 : decode c_Ff_cut 127 = .ok (.iconst 1, 1) := by decide +kernel
theorem d_Ff_cut_128 : decode c_Ff_cut 128 = .ok (.ireturn, 1) := by decide +kernel
theorem d_Ff_firstWithRoom_0 : decode c_Ff_firstWithRoom 0 = .ok (.iload_n 1, 1) := by decide +kernel
theorem d_Ff_firstWithRoom_1 : decode c_Ff_firstWithRoom 1 = .ok (.istore_n 3, 1) := by decide +kernel
theorem d_Ff_firstWithRoom_2 : decode c_Ff_firstWithRoom 2 = .ok (.iload_n 3, 1) := by decide +kernel
theorem d_Ff_firstWithRoom_3 : decode c_Ff_firstWithRoom 3 = .ok (.aload_n 0, 1) := by decide +kernel
theorem d_Ff_firstWithRoom_4 : decode c_Ff_firstWithRoom 4 = .ok (.getfield 15, 3) := by decide +kernel
theorem d_Ff_firstWithRoom_7 : decode c_Ff_firstWithRoom 7 = .ok (.if_icmp .ge 21, 3) := by decide +kernel
theorem d_Ff_firstWithRoom_10 : decode c_Ff_firstWithRoom 10 = .ok (.aload_n 0, 1) := by decide +kernel
theorem d_Ff_firstWithRoom_11 : decode c_Ff_firstWithRoom 11 = .ok (.getfield 56, 3) := by decide +kernel
theorem d_Ff_firstWithRoom_14 : decode c_Ff_firstWithRoom 14 = .ok (.iload_n 3, 1) := by decide +kernel
theorem d_Ff_firstWithRoom_15 : decode c_Ff_firstWithRoom 15 = .ok (.iaload, 1) := by decide +kernel
theorem d_Ff_firstWithRoom_16 : decode c_Ff_firstWithRoom 16 = .ok (.iload_n 2, 1) := by decide +kernel
theorem d_Ff_firstWithRoom_17 : decode c_Ff_firstWithRoom 17 = .ok (.if_icmp .lt 5, 3) := by decide +kernel
theorem d_Ff_firstWithRoom_20 : decode c_Ff_firstWithRoom 20 = .ok (.iload_n 3, 1) := by decide +kernel
theorem d_Ff_firstWithRoom_21 : decode c_Ff_firstWithRoom 21 = .ok (.ireturn, 1) := by decide +kernel
theorem d_Ff_firstWithRoom_22 : decode c_Ff_firstWithRoom 22 = .ok (.iinc 3 1, 3) := by decide +kernel
theorem d_Ff_firstWithRoom_25 : decode c_Ff_firstWithRoom 25 = .ok (.goto (-23), 3) := by decide +kernel
theorem d_Ff_firstWithRoom_28 : decode c_Ff_firstWithRoom 28 = .ok (.bipush (-2), 2) := by decide +kernel
theorem d_Ff_firstWithRoom_30 : decode c_Ff_firstWithRoom 30 = .ok (.ireturn, 1) := by decide +kernel
theorem d_Ff_leastKindFor_0 : decode c_Ff_leastKindFor 0 = .ok (.bipush (-2), 2) := by decide +kernel
theorem d_Ff_leastKindFor_2 : decode c_Ff_leastKindFor 2 = .ok (.istore_n 3, 1) := by decide +kernel
theorem d_Ff_leastKindFor_3 : decode c_Ff_leastKindFor 3 = .ok (.iconst 0, 1) := by decide +kernel
theorem d_Ff_leastKindFor_4 : decode c_Ff_leastKindFor 4 = .ok (.istore 4, 2) := by decide +kernel
theorem d_Ff_leastKindFor_6 : decode c_Ff_leastKindFor 6 = .ok (.iload 4, 2) := by decide +kernel
theorem d_Ff_leastKindFor_8 : decode c_Ff_leastKindFor 8 = .ok (.aload_n 1, 1) := by decide +kernel
theorem d_Ff_leastKindFor_9 : decode c_Ff_leastKindFor 9 = .ok (.getfield 59, 3) := by decide +kernel
theorem d_Ff_leastKindFor_12 : decode c_Ff_leastKindFor 12 = .ok (.if_icmp .ge 67, 3) := by decide +kernel
theorem d_Ff_leastKindFor_15 : decode c_Ff_leastKindFor 15 = .ok (.aload_n 0, 1) := by decide +kernel
theorem d_Ff_leastKindFor_16 : decode c_Ff_leastKindFor 16 = .ok (.getfield 9, 3) := by decide +kernel
theorem d_Ff_leastKindFor_19 : decode c_Ff_leastKindFor 19 = .ok (.iload 4, 2) := by decide +kernel
theorem d_Ff_leastKindFor_21 : decode c_Ff_leastKindFor 21 = .ok (.iaload, 1) := by decide +kernel
theorem d_Ff_leastKindFor_22 : decode c_Ff_leastKindFor 22 = .ok (.ifCond .le 18, 3) := by decide +kernel
theorem d_Ff_leastKindFor_25 : decode c_Ff_leastKindFor 25 = .ok (.aload_n 1, 1) := by decide +kernel
theorem d_Ff_leastKindFor_26 : decode c_Ff_leastKindFor 26 = .ok (.getfield 45, 3) := by decide +kernel
theorem d_Ff_leastKindFor_29 : decode c_Ff_leastKindFor 29 = .ok (.iload 4, 2) := by decide +kernel
theorem d_Ff_leastKindFor_31 : decode c_Ff_leastKindFor 31 = .ok (.iaload, 1) := by decide +kernel
theorem d_Ff_leastKindFor_32 : decode c_Ff_leastKindFor 32 = .ok (.iload_n 2, 1) := by decide +kernel
theorem d_Ff_leastKindFor_33 : decode c_Ff_leastKindFor 33 = .ok (.if_icmp .lt 7, 3) := by decide +kernel
theorem d_Ff_leastKindFor_36 : decode c_Ff_leastKindFor 36 = .ok (.iconst 1, 1) := by decide +kernel
theorem d_Ff_leastKindFor_37 : decode c_Ff_leastKindFor 37 = .ok (.goto 4, 3) := by decide +kernel
theorem d_Ff_leastKindFor_40 : decode c_Ff_leastKindFor 40 = .ok (.iconst 0, 1) := by decide +kernel
theorem d_Ff_leastKindFor_41 : decode c_Ff_leastKindFor 41 = .ok (.istore 5, 2) := by decide +kernel
theorem d_Ff_leastKindFor_43 : decode c_Ff_leastKindFor 43 = .ok (.iload 5, 2) := by decide +kernel
theorem d_Ff_leastKindFor_45 : decode c_Ff_leastKindFor 45 = .ok (.ifCond .eq 28, 3) := by decide +kernel
theorem d_Ff_leastKindFor_48 : decode c_Ff_leastKindFor 48 = .ok (.iload_n 3, 1) := by decide +kernel
theorem d_Ff_leastKindFor_49 : decode c_Ff_leastKindFor 49 = .ok (.bipush (-2), 2) := by decide +kernel
theorem d_Ff_leastKindFor_51 : decode c_Ff_leastKindFor 51 = .ok (.if_icmp .eq 19, 3) := by decide +kernel
theorem d_Ff_leastKindFor_54 : decode c_Ff_leastKindFor 54 = .ok (.aload_n 1, 1) := by decide +kernel
theorem d_Ff_leastKindFor_55 : decode c_Ff_leastKindFor 55 = .ok (.getfield 45, 3) := by decide +kernel
theorem d_Ff_leastKindFor_58 : decode c_Ff_leastKindFor 58 = .ok (.iload 4, 2) := by decide +kernel
theorem d_Ff_leastKindFor_60 : decode c_Ff_leastKindFor 60 = .ok (.iaload, 1) := by decide +kernel
theorem d_Ff_leastKindFor_61 : decode c_Ff_leastKindFor 61 = .ok (.aload_n 1, 1) := by decide +kernel
theorem d_Ff_leastKindFor_62 : decode c_Ff_leastKindFor 62 = .ok (.getfield 45, 3) := by decide +kernel
theorem d_Ff_leastKindFor_65 : decode c_Ff_leastKindFor 65 = .ok (.iload_n 3, 1) := by decide +kernel
theorem d_Ff_leastKindFor_66 : decode c_Ff_leastKindFor 66 = .ok (.iaload, 1) := by decide +kernel
theorem d_Ff_leastKindFor_67 : decode c_Ff_leastKindFor 67 = .ok (.if_icmp .ge 6, 3) := by decide +kernel
theorem d_Ff_leastKindFor_70 : decode c_Ff_leastKindFor 70 = .ok (.iload 4, 2) := by decide +kernel
theorem d_Ff_leastKindFor_72 : decode c_Ff_leastKindFor 72 = .ok (.istore_n 3, 1) := by decide +kernel
theorem d_Ff_leastKindFor_73 : decode c_Ff_leastKindFor 73 = .ok (.iinc 4 1, 3) := by decide +kernel
theorem d_Ff_leastKindFor_76 : decode c_Ff_leastKindFor 76 = .ok (.goto (-70), 3) := by decide +kernel
theorem d_Ff_leastKindFor_79 : decode c_Ff_leastKindFor 79 = .ok (.iload_n 3, 1) := by decide +kernel
theorem d_Ff_leastKindFor_80 : decode c_Ff_leastKindFor 80 = .ok (.ireturn, 1) := by decide +kernel
theorem d_Lw_init_0 : decode c_Lw_init 0 = .ok (.aload_n 0, 1) := by decide +kernel
theorem d_Lw_init_1 : decode c_Lw_init 1 = .ok (.invokespecial 3, 3) := by decide +kernel
theorem d_Lw_init_4 : decode c_Lw_init 4 = .ok (.aload_n 0, 1) := by decide +kernel
theorem d_Lw_init_5 : decode c_Lw_init 5 = .ok (.sipush 256, 3) := by decide +kernel
theorem d_Lw_init_8 : decode c_Lw_init 8 = .ok (.newarray .int, 2) := by decide +kernel
theorem d_Lw_init_10 : decode c_Lw_init 10 = .ok (.putfield 11, 3) := by decide +kernel
theorem d_Lw_init_13 : decode c_Lw_init 13 = .ok (.aload_n 0, 1) := by decide +kernel
theorem d_Lw_init_14 : decode c_Lw_init 14 = .ok (.sipush 256, 3) := by decide +kernel
theorem d_Lw_init_17 : decode c_Lw_init 17 = .ok (.newarray .int, 2) := by decide +kernel
theorem d_Lw_init_19 : decode c_Lw_init 19 = .ok (.putfield 15, 3) := by decide +kernel
theorem d_Lw_init_22 : decode c_Lw_init 22 = .ok (.aload_n 0, 1) := by decide +kernel
theorem d_Lw_init_23 : decode c_Lw_init 23 = .ok (.iconst 3, 1) := by decide +kernel
theorem d_Lw_init_24 : decode c_Lw_init 24 = .ok (.newarray .int, 2) := by decide +kernel
theorem d_Lw_init_26 : decode c_Lw_init 26 = .ok (.putfield 18, 3) := by decide +kernel
theorem d_Lw_init_29 : decode c_Lw_init 29 = .ok (.aload_n 0, 1) := by decide +kernel
theorem d_Lw_init_30 : decode c_Lw_init 30 = .ok (.iconst 3, 1) := by decide +kernel
theorem d_Lw_init_31 : decode c_Lw_init 31 = .ok (.newarray .int, 2) := by decide +kernel
theorem d_Lw_init_33 : decode c_Lw_init 33 = .ok (.putfield 21, 3) := by decide +kernel
theorem d_Lw_init_36 : decode c_Lw_init 36 = .ok (.aload_n 0, 1) := by decide +kernel
theorem d_Lw_init_37 : decode c_Lw_init 37 = .ok (.bipush 8, 2) := by decide +kernel
theorem d_Lw_init_39 : decode c_Lw_init 39 = .ok (.newarray .int, 2) := by decide +kernel
theorem d_Lw_init_41 : decode c_Lw_init 41 = .ok (.putfield 24, 3) := by decide +kernel
theorem d_Lw_init_44 : decode c_Lw_init 44 = .ok (.aload_n 0, 1) := by decide +kernel
theorem d_Lw_init_45 : decode c_Lw_init 45 = .ok (.bipush 8, 2) := by decide +kernel
theorem d_Lw_init_47 : decode c_Lw_init 47 = .ok (.newarray .int, 2) := by decide +kernel
theorem d_Lw_init_49 : decode c_Lw_init 49 = .ok (.putfield 27, 3) := by decide +kernel
theorem d_Lw_init_52 : decode c_Lw_init 52 = .ok (.aload_n 0, 1) := by decide +kernel
theorem d_Lw_init_53 : decode c_Lw_init 53 = .ok (.bipush 8, 2) := by decide +kernel
theorem d_Lw_init_55 : decode c_Lw_init 55 = .ok (.newarray .int, 2) := by decide +kernel
theorem d_Lw_init_57 : decode c_Lw_init 57 = .ok (.putfield 30, 3) := by decide +kernel
theorem d_Lw_init_60 : decode c_Lw_init 60 = .ok (.aload_n 0, 1) := by decide +kernel
theorem d_Lw_init_61 : decode c_Lw_init 61 = .ok (.bipush 8, 2) := by decide +kernel
theorem d_Lw_init_63 : decode c_Lw_init 63 = .ok (.newarray .int, 2) := by decide +kernel
theorem d_Lw_init_65 : decode c_Lw_init 65 = .ok (.putfield 33, 3) := by decide +kernel
theorem d_Lw_init_68 : decode c_Lw_init 68 = .ok (.return_, 1) := by decide +kernel
theorem d_Lw_cut_0 : decode c_Lw_cut 0 = .ok (.aload_n 1, 1) := by decide +kernel
theorem d_Lw_cut_1 : decode c_Lw_cut 1 = .ok (.getfield 36, 3) := by decide +kernel
theorem d_Lw_cut_4 : decode c_Lw_cut 4 = .ok (.iload_n 2, 1) := by decide +kernel
theorem d_Lw_cut_5 : decode c_Lw_cut 5 = .ok (.isub, 1) := by decide +kernel
theorem d_Lw_cut_6 : decode c_Lw_cut 6 = .ok (.istore 5, 2) := by decide +kernel
theorem d_Lw_cut_8 : decode c_Lw_cut 8 = .ok (.iload 5, 2) := by decide +kernel
theorem d_Lw_cut_10 : decode c_Lw_cut 10 = .ok (.iconst 1, 1) := by decide +kernel
theorem d_Lw_cut_11 : decode c_Lw_cut 11 = .ok (.if_icmp .lt 10, 3) := by decide +kernel
theorem d_Lw_cut_14 : decode c_Lw_cut 14 = .ok (.iload 5, 2) := by decide +kernel
theorem d_Lw_cut_16 : decode c_Lw_cut 16 = .ok (.bipush 8, 2) := by decide +kernel
theorem d_Lw_cut_18 : decode c_Lw_cut 18 = .ok (.if_icmp .le 5, 3) := by decide +kernel
theorem d_Lw_cut_21 : decode c_Lw_cut 21 = .ok (.iconst 0, 1) := by decide +kernel
theorem d_Lw_cut_22 : decode c_Lw_cut 22 = .ok (.ireturn, 1) := by decide +kernel
theorem d_Lw_cut_23 : decode c_Lw_cut 23 = .ok (.aload_n 0, 1) := by decide +kernel
theorem d_Lw_cut_24 : decode c_Lw_cut 24 = .ok (.aload 4, 2) := by decide +kernel
theorem d_Lw_cut_26 : decode c_Lw_cut 26 = .ok (.getfield 42, 3) := by decide +kernel
theorem d_Lw_cut_29 : decode c_Lw_cut 29 = .ok (.putfield 47, 3) := by decide +kernel
theorem d_Lw_cut_32 : decode c_Lw_cut 32 = .ok (.aload 4, 2) := by decide +kernel
theorem d_Lw_cut_34 : decode c_Lw_cut 34 = .ok (.getfield 48, 3) := by decide +kernel
theorem d_Lw_cut_37 : decode c_Lw_cut 37 = .ok (.iconst 0, 1) := by decide +kernel
theorem d_Lw_cut_38 : decode c_Lw_cut 38 = .ok (.aload_n 0, 1) := by decide +kernel
theorem d_Lw_cut_39 : decode c_Lw_cut 39 = .ok (.getfield 18, 3) := by decide +kernel
theorem d_Lw_cut_42 : decode c_Lw_cut 42 = .ok (.iconst 0, 1) := by decide +kernel
theorem d_Lw_cut_43 : decode c_Lw_cut 43 = .ok (.iconst 3, 1) := by decide +kernel
theorem d_Lw_cut_44 : decode c_Lw_cut 44 = .ok (.invokestatic 49, 3) := by decide +kernel
theorem d_Lw_cut_47 : decode c_Lw_cut 47 = .ok (.aload 4, 2) := by decide +kernel
theorem d_Lw_cut_49 : decode c_Lw_cut 49 = .ok (.getfield 55, 3) := by decide +kernel
theorem d_Lw_cut_52 : decode c_Lw_cut 52 = .ok (.iconst 0, 1) := by decide +kernel
theorem d_Lw_cut_53 : decode c_Lw_cut 53 = .ok (.aload_n 0, 1) := by decide +kernel
theorem d_Lw_cut_54 : decode c_Lw_cut 54 = .ok (.getfield 21, 3) := by decide +kernel
theorem d_Lw_cut_57 : decode c_Lw_cut 57 = .ok (.iconst 0, 1) := by decide +kernel
theorem d_Lw_cut_58 : decode c_Lw_cut 58 = .ok (.iconst 3, 1) := by decide +kernel
theorem d_Lw_cut_59 : decode c_Lw_cut 59 = .ok (.invokestatic 49, 3) := by decide +kernel
theorem d_Lw_cut_62 : decode c_Lw_cut 62 = .ok (.aload_n 0, 1) := by decide +kernel
theorem d_Lw_cut_63 : decode c_Lw_cut 63 = .ok (.aload_n 1, 1) := by decide +kernel
theorem d_Lw_cut_64 : decode c_Lw_cut 64 = .ok (.iload_n 2, 1) := by decide +kernel
theorem d_Lw_cut_65 : decode c_Lw_cut 65 = .ok (.iload 5, 2) := by decide +kernel
theorem d_Lw_cut_67 : decode c_Lw_cut 67 = .ok (.invokevirtual 58, 3) := by decide +kernel
theorem d_Lw_cut_70 : decode c_Lw_cut 70 = .ok (.aload_n 0, 1) := by decide +kernel
theorem d_Lw_cut_71 : decode c_Lw_cut 71 = .ok (.iload 5, 2) := by decide +kernel
theorem d_Lw_cut_73 : decode c_Lw_cut 73 = .ok (.invokevirtual 62, 3) := by decide +kernel
theorem d_Lw_cut_76 : decode c_Lw_cut 76 = .ok (.aload_n 0, 1) := by decide +kernel
theorem d_Lw_cut_77 : decode c_Lw_cut 77 = .ok (.ldc 66, 2) := by decide +kernel
theorem d_Lw_cut_79 : decode c_Lw_cut 79 = .ok (.putfield 67, 3) := by decide +kernel
theorem d_Lw_cut_82 : decode c_Lw_cut 82 = .ok (.aload_n 0, 1) := by decide +kernel
theorem d_Lw_cut_83 : decode c_Lw_cut 83 = .ok (.iconst 0, 1) := by decide +kernel
theorem d_Lw_cut_84 : decode c_Lw_cut 84 = .ok (.putfield 70, 3) := by decide +kernel
theorem d_Lw_cut_87 : decode c_Lw_cut 87 = .ok (.aload_n 0, 1) := by decide +kernel
theorem d_Lw_cut_88 : decode c_Lw_cut 88 = .ok (.iconst 0, 1) := by decide +kernel
theorem d_Lw_cut_89 : decode c_Lw_cut 89 = .ok (.iconst 1, 1) := by decide +kernel
theorem d_Lw_cut_90 : decode c_Lw_cut 90 = .ok (.iload 5, 2) := by decide +kernel
theorem d_Lw_cut_92 : decode c_Lw_cut 92 = .ok (.ishl, 1) := by decide +kernel
theorem d_Lw_cut_93 : decode c_Lw_cut 93 = .ok (.iconst 1, 1) := by decide +kernel
theorem d_Lw_cut_94 : decode c_Lw_cut 94 = .ok (.isub, 1) := by decide +kernel
theorem d_Lw_cut_95 : decode c_Lw_cut 95 = .ok (.iconst 0, 1) := by decide +kernel
theorem d_Lw_cut_96 : decode c_Lw_cut 96 = .ok (.invokevirtual 73, 3) := by decide +kernel
theorem d_Lw_cut_99 : decode c_Lw_cut 99 = .ok (.aload_n 0, 1) := by decide +kernel
theorem d_Lw_cut_100 : decode c_Lw_cut 100 = .ok (.getfield 67, 3) := by decide +kernel
theorem d_Lw_cut_103 : decode c_Lw_cut 103 = .ok (.ldc 66, 2) := by decide +kernel
theorem d_Lw_cut_105 : decode c_Lw_cut 105 = .ok (.if_icmp .ne 5, 3) := by decide +kernel
theorem d_Lw_cut_108 : decode c_Lw_cut 108 = .ok (.iconst 0, 1) := by decide +kernel
theorem d_Lw_cut_109 : decode c_Lw_cut 109 = .ok (.ireturn, 1) := by decide +kernel
theorem d_Lw_cut_110 : decode c_Lw_cut 110 = .ok (.aload_n 0, 1) := by decide +kernel
theorem d_Lw_cut_111 : decode c_Lw_cut 111 = .ok (.aload_n 1, 1) := by decide +kernel
theorem d_Lw_cut_112 : decode c_Lw_cut 112 = .ok (.iload_n 2, 1) := by decide +kernel
theorem d_Lw_cut_113 : decode c_Lw_cut 113 = .ok (.iload_n 3, 1) := by decide +kernel
theorem d_Lw_cut_114 : decode c_Lw_cut 114 = .ok (.invokevirtual 77, 3) := by decide +kernel
theorem d_Lw_cut_117 : decode c_Lw_cut 117 = .ok (.ireturn, 1) := by decide +kernel
theorem d_Lw_sumSets_0 : decode c_Lw_sumSets 0 = .ok (.aload_n 0, 1) := by decide +kernel
theorem d_Lw_sumSets_1 : decode c_Lw_sumSets 1 = .ok (.getfield 11, 3) := by decide +kernel
theorem d_Lw_sumSets_4 : decode c_Lw_sumSets 4 = .ok (.iconst 0, 1) := by decide +kernel
theorem d_Lw_sumSets_5 : decode c_Lw_sumSets 5 = .ok (.iconst 0, 1) := by decide +kernel
theorem d_Lw_sumSets_6 : decode c_Lw_sumSets 6 = .ok (.iastore, 1) := by decide +kernel
theorem d_Lw_sumSets_7 : decode c_Lw_sumSets 7 = .ok (.iconst 0, 1) := by decide +kernel
theorem d_Lw_sumSets_8 : decode c_Lw_sumSets 8 = .ok (.istore 4, 2) := by decide +kernel
theorem d_Lw_sumSets_10 : decode c_Lw_sumSets 10 = .ok (.iload 4, 2) := by decide +kernel
theorem d_Lw_sumSets_12 : decode c_Lw_sumSets 12 = .ok (.iload_n 3, 1) := by decide +kernel
theorem d_Lw_sumSets_13 : decode c_Lw_sumSets 13 = .ok (.if_icmp .ge 69, 3) := by decide +kernel
theorem d_Lw_sumSets_16 : decode c_Lw_sumSets 16 = .ok (.iconst 1, 1) := by decide +kernel
theorem d_Lw_sumSets_17 : decode c_Lw_sumSets 17 = .ok (.iload 4, 2) := by decide +kernel
theorem d_Lw_sumSets_19 : decode c_Lw_sumSets 19 = .ok (.ishl, 1) := by decide +kernel
theorem d_Lw_sumSets_20 : decode c_Lw_sumSets 20 = .ok (.istore 5, 2) := by decide +kernel
theorem d_Lw_sumSets_22 : decode c_Lw_sumSets 22 = .ok (.aload_n 1, 1) := by decide +kernel
theorem d_Lw_sumSets_23 : decode c_Lw_sumSets 23 = .ok (.getfield 81, 3) := by decide +kernel
theorem d_Lw_sumSets_26 : decode c_Lw_sumSets 26 = .ok (.iload_n 2, 1) := by decide +kernel
theorem d_Lw_sumSets_27 : decode c_Lw_sumSets 27 = .ok (.iload_n 3, 1) := by decide +kernel
theorem d_Lw_sumSets_28 : decode c_Lw_sumSets 28 = .ok (.iadd, 1) := by decide +kernel
theorem d_Lw_sumSets_29 : decode c_Lw_sumSets 29 = .ok (.iconst 1, 1) := by decide +kernel
theorem d_Lw_sumSets_30 : decode c_Lw_sumSets 30 = .ok (.isub, 1) := by decide +kernel
theorem d_Lw_sumSets_31 : decode c_Lw_sumSets 31 = .ok (.iload 4, 2) := by decide +kernel
theorem d_Lw_sumSets_33 : decode c_Lw_sumSets 33 = .ok (.isub, 1) := by decide +kernel
theorem d_Lw_sumSets_34 : decode c_Lw_sumSets 34 = .ok (.iaload, 1) := by decide +kernel
theorem d_Lw_sumSets_35 : decode c_Lw_sumSets 35 = .ok (.istore 6, 2) := by decide +kernel
theorem d_Lw_sumSets_37 : decode c_Lw_sumSets 37 = .ok (.iload 5, 2) := by decide +kernel
theorem d_Lw_sumSets_39 : decode c_Lw_sumSets 39 = .ok (.istore 7, 2) := by decide +kernel
theorem d_Lw_sumSets_41 : decode c_Lw_sumSets 41 = .ok (.iload 7, 2) := by decide +kernel
theorem d_Lw_sumSets_43 : decode c_Lw_sumSets 43 = .ok (.iconst 2, 1) := by decide +kernel
theorem d_Lw_sumSets_44 : decode c_Lw_sumSets 44 = .ok (.iload 5, 2) := by decide +kernel
theorem d_Lw_sumSets_46 : decode c_Lw_sumSets 46 = .ok (.imul, 1) := by decide +kernel
theorem d_Lw_sumSets_47 : decode c_Lw_sumSets 47 = .ok (.if_icmp .ge 29, 3) := by decide +kernel
theorem d_Lw_sumSets_50 : decode c_Lw_sumSets 50 = .ok (.aload_n 0, 1) := by decide +kernel
theorem d_Lw_sumSets_51 : decode c_Lw_sumSets 51 = .ok (.getfield 11, 3) := by decide +kernel
theorem d_Lw_sumSets_54 : decode c_Lw_sumSets 54 = .ok (.iload 7, 2) := by decide +kernel
theorem d_Lw_sumSets_56 : decode c_Lw_sumSets 56 = .ok (.aload_n 0, 1) := by decide +kernel
theorem d_Lw_sumSets_57 : decode c_Lw_sumSets 57 = .ok (.getfield 11, 3) := by decide +kernel
theorem d_Lw_sumSets_60 : decode c_Lw_sumSets 60 = .ok (.iload 7, 2) := by decide +kernel
theorem d_Lw_sumSets_62 : decode c_Lw_sumSets 62 = .ok (.iload 5, 2) := by decide +kernel
theorem d_Lw_sumSets_64 : decode c_Lw_sumSets 64 = .ok (.isub, 1) := by decide +kernel
theorem d_Lw_sumSets_65 : decode c_Lw_sumSets 65 = .ok (.iaload, 1) := by decide +kernel
theorem d_Lw_sumSets_66 : decode c_Lw_sumSets 66 = .ok (.iload 6, 2) := by decide +kernel
theorem d_Lw_sumSets_68 : decode c_Lw_sumSets 68 = .ok (.iadd, 1) := by decide +kernel
theorem d_Lw_sumSets_69 : decode c_Lw_sumSets 69 = .ok (.iastore, 1) := by decide +kernel
theorem d_Lw_sumSets_70 : decode c_Lw_sumSets 70 = .ok (.iinc 7 1, 3) := by decide +kernel
theorem d_Lw_sumSets_73 : decode c_Lw_sumSets 73 = .ok (.goto (-32), 3) := by decide +kernel
theorem d_Lw_sumSets_76 : decode c_Lw_sumSets 76 = .ok (.iinc 4 1, 3) := by decide +kernel
theorem d_Lw_sumSets_79 : decode c_Lw_sumSets 79 = .ok (.goto (-69), 3) := by decide +kernel
theorem d_Lw_sumSets_82 : decode c_Lw_sumSets 82 = .ok (.return_, 1) := by decide +kernel
theorem d_Lw_findFloors_0 : decode c_Lw_findFloors 0 = .ok (.aload_n 0, 1) := by decide +kernel
theorem d_Lw_findFloors_1 : decode c_Lw_findFloors 1 = .ok (.getfield 15, 3) := by decide +kernel
theorem d_Lw_findFloors_4 : decode c_Lw_findFloors 4 = .ok (.iconst 0, 1) := by decide +kernel
theorem d_Lw_findFloors_5 : decode c_Lw_findFloors 5 = .ok (.iconst 0, 1) := by decide +kernel
theorem d_Lw_findFloors_6 : decode c_Lw_findFloors 6 = .ok (.iastore, 1) := by decide +kernel
theorem d_Lw_findFloors_7 : decode c_Lw_findFloors 7 = .ok (.iconst 1, 1) := by decide +kernel
theorem d_Lw_findFloors_8 : decode c_Lw_findFloors 8 = .ok (.istore_n 2, 1) := by decide +kernel
theorem d_Lw_findFloors_9 : decode c_Lw_findFloors 9 = .ok (.iload_n 2, 1) := by decide +kernel
theorem d_Lw_findFloors_10 : decode c_Lw_findFloors 10 = .ok (.iconst 1, 1) := by decide +kernel
theorem d_Lw_findFloors_11 : decode c_Lw_findFloors 11 = .ok (.iload_n 1, 1) := by decide +kernel
theorem d_Lw_findFloors_12 : decode c_Lw_findFloors 12 = .ok (.ishl, 1) := by decide +kernel
theorem d_Lw_findFloors_13 : decode c_Lw_findFloors 13 = .ok (.if_icmp .ge 74, 3) := by decide +kernel
theorem d_Lw_findFloors_16 : decode c_Lw_findFloors 16 = .ok (.iload_n 2, 1) := by decide +kernel
theorem d_Lw_findFloors_17 : decode c_Lw_findFloors 17 = .ok (.invokestatic 84, 3) := by decide +kernel
theorem d_Lw_findFloors_20 : decode c_Lw_findFloors 20 = .ok (.istore_n 3, 1) := by decide +kernel
theorem d_Lw_findFloors_21 : decode c_Lw_findFloors 21 = .ok (.ldc 66, 2) := by decide +kernel
theorem d_Lw_findFloors_23 : decode c_Lw_findFloors 23 = .ok (.istore 4, 2) := by decide +kernel
theorem d_Lw_findFloors_25 : decode c_Lw_findFloors 25 = .ok (.iload_n 2, 1) := by decide +kernel
theorem d_Lw_findFloors_26 : decode c_Lw_findFloors 26 = .ok (.istore 5, 2) := by decide +kernel
theorem d_Lw_findFloors_28 : decode c_Lw_findFloors 28 = .ok (.iload 5, 2) := by decide +kernel
theorem d_Lw_findFloors_30 : decode c_Lw_findFloors 30 = .ok (.iload_n 3, 1) := by decide +kernel
theorem d_Lw_findFloors_31 : decode c_Lw_findFloors 31 = .ok (.if_icmp .lt 42, 3) := by decide +kernel
theorem d_Lw_findFloors_34 : decode c_Lw_findFloors 34 = .ok (.iload 4, 2) := by decide +kernel
theorem d_Lw_findFloors_36 : decode c_Lw_findFloors 36 = .ok (.aload_n 0, 1) := by decide +kernel
theorem d_Lw_findFloors_37 : decode c_Lw_findFloors 37 = .ok (.aload_n 0, 1) := by decide +kernel
theorem d_Lw_findFloors_38 : decode c_Lw_findFloors 38 = .ok (.getfield 11, 3) := by decide +kernel
theorem d_Lw_findFloors_41 : decode c_Lw_findFloors 41 = .ok (.iload 5, 2) := by decide +kernel
theorem d_Lw_findFloors_43 : decode c_Lw_findFloors 43 = .ok (.iaload, 1) := by decide +kernel
theorem d_Lw_findFloors_44 : decode c_Lw_findFloors 44 = .ok (.invokevirtual 88, 3) := by decide +kernel
theorem d_Lw_findFloors_47 : decode c_Lw_findFloors 47 = .ok (.aload_n 0, 1) := by decide +kernel
theorem d_Lw_findFloors_48 : decode c_Lw_findFloors 48 = .ok (.getfield 15, 3) := by decide +kernel
theorem d_Lw_findFloors_51 : decode c_Lw_findFloors 51 = .ok (.iload_n 2, 1) := by decide +kernel
theorem d_Lw_findFloors_52 : decode c_Lw_findFloors 52 = .ok (.iload 5, 2) := by decide +kernel
theorem d_Lw_findFloors_54 : decode c_Lw_findFloors 54 = .ok (.isub, 1) := by decide +kernel
theorem d_Lw_findFloors_55 : decode c_Lw_findFloors 55 = .ok (.iaload, 1) := by decide +kernel
theorem d_Lw_findFloors_56 : decode c_Lw_findFloors 56 = .ok (.iadd, 1) := by decide +kernel
theorem d_Lw_findFloors_57 : decode c_Lw_findFloors 57 = .ok (.invokestatic 91, 3) := by decide +kernel
theorem d_Lw_findFloors_60 : decode c_Lw_findFloors 60 = .ok (.istore 4, 2) := by decide +kernel
theorem d_Lw_findFloors_62 : decode c_Lw_findFloors 62 = .ok (.iload 5, 2) := by decide +kernel
theorem d_Lw_findFloors_64 : decode c_Lw_findFloors 64 = .ok (.iconst 1, 1) := by decide +kernel
theorem d_Lw_findFloors_65 : decode c_Lw_findFloors 65 = .ok (.isub, 1) := by decide +kernel
theorem d_Lw_findFloors_66 : decode c_Lw_findFloors 66 = .ok (.iload_n 2, 1) := by decide +kernel
theorem d_Lw_findFloors_67 : decode c_Lw_findFloors 67 = .ok (.iand, 1) := by decide +kernel
theorem d_Lw_findFloors_68 : decode c_Lw_findFloors 68 = .ok (.istore 5, 2) := by decide +kernel
theorem d_Lw_findFloors_70 : decode c_Lw_findFloors 70 = .ok (.goto (-42), 3) := by decide +kernel
theorem d_Lw_findFloors_73 : decode c_Lw_findFloors 73 = .ok (.aload_n 0, 1) := by decide +kernel
theorem d_Lw_findFloors_74 : decode c_Lw_findFloors 74 = .ok (.getfield 15, 3) := by decide +kernel
theorem d_Lw_findFloors_77 : decode c_Lw_findFloors 77 = .ok (.iload_n 2, 1) := by decide +kernel
theorem d_Lw_findFloors_78 : decode c_Lw_findFloors 78 = .ok (.iload 4, 2) := by decide +kernel
theorem d_Lw_findFloors_80 : decode c_Lw_findFloors 80 = .ok (.iastore, 1) := by decide +kernel
theorem d_Lw_findFloors_81 : decode c_Lw_findFloors 81 = .ok (.iinc 2 1, 3) := by decide +kernel
theorem d_Lw_findFloors_84 : decode c_Lw_findFloors 84 = .ok (.goto (-75), 3) := by decide +kernel
theorem d_Lw_findFloors_87 : decode c_Lw_findFloors 87 = .ok (.return_, 1) := by decide +kernel
theorem d_Lw_costOfCheapestBar_0 : decode c_Lw_costOfCheapestBar 0 = .ok (.ldc 66, 2) := by decide +kernel
theorem d_Lw_costOfCheapestBar_2 : decode c_Lw_costOfCheapestBar 2 = .ok (.istore_n 2, 1) := by decide +kernel
theorem d_Lw_costOfCheapestBar_3 : decode c_Lw_costOfCheapestBar 3 = .ok (.iconst 0, 1) := by decide +kernel
theorem d_Lw_costOfCheapestBar_4 : decode c_Lw_costOfCheapestBar 4 = .ok (.istore_n 3, 1) := by decide +kernel
theorem d_Lw_costOfCheapestBar_5 : decode c_Lw_costOfCheapestBar 5 = .ok (.iload_n 3, 1) := by decide +kernel
theorem d_Lw_costOfCheapestBar_6 : decode c_Lw_costOfCheapestBar 6 = .ok (.aload_n 0, 1) := by decide +kernel
theorem d_Lw_costOfCheapestBar_7 : decode c_Lw_costOfCheapestBar 7 = .ok (.getfield 47, 3) := by decide +kernel
theorem d_Lw_costOfCheapestBar_10 : decode c_Lw_costOfCheapestBar 10 = .ok (.if_icmp .ge 38, 3) := by decide +kernel
theorem d_Lw_costOfCheapestBar_13 : decode c_Lw_costOfCheapestBar 13 = .ok (.aload_n 0, 1) := by decide +kernel
theorem d_Lw_costOfCheapestBar_14 : decode c_Lw_costOfCheapestBar 14 = .ok (.getfield 21, 3) := by decide +kernel
theorem d_Lw_costOfCheapestBar_17 : decode c_Lw_costOfCheapestBar 17 = .ok (.iload_n 3, 1) := by decide +kernel
theorem d_Lw_costOfCheapestBar_18 : decode c_Lw_costOfCheapestBar 18 = .ok (.iaload, 1) := by decide +kernel
theorem d_Lw_costOfCheapestBar_19 : decode c_Lw_costOfCheapestBar 19 = .ok (.ifCond .le 23, 3) := by decide +kernel
theorem d_Lw_costOfCheapestBar_22 : decode c_Lw_costOfCheapestBar 22 = .ok (.aload_n 0, 1) := by decide +kernel
theorem d_Lw_costOfCheapestBar_23 : decode c_Lw_costOfCheapestBar 23 = .ok (.getfield 18, 3) := by decide +kernel
theorem d_Lw_costOfCheapestBar_26 : decode c_Lw_costOfCheapestBar 26 = .ok (.iload_n 3, 1) := by decide +kernel
theorem d_Lw_costOfCheapestBar_27 : decode c_Lw_costOfCheapestBar 27 = .ok (.iaload, 1) := by decide +kernel
theorem d_Lw_costOfCheapestBar_28 : decode c_Lw_costOfCheapestBar 28 = .ok (.iload_n 1, 1) := by decide +kernel
theorem d_Lw_costOfCheapestBar_29 : decode c_Lw_costOfCheapestBar 29 = .ok (.if_icmp .lt 13, 3) := by decide +kernel
theorem d_Lw_costOfCheapestBar_32 : decode c_Lw_costOfCheapestBar 32 = .ok (.iload_n 2, 1) := by decide +kernel
theorem d_Lw_costOfCheapestBar_33 : decode c_Lw_costOfCheapestBar 33 = .ok (.aload_n 0, 1) := by decide +kernel
theorem d_Lw_costOfCheapestBar_34 : decode c_Lw_costOfCheapestBar 34 = .ok (.iload_n 3, 1) := by decide +kernel
theorem d_Lw_costOfCheapestBar_35 : decode c_Lw_costOfCheapestBar 35 = .ok (.invokevirtual 97, 3) := by decide +kernel
theorem d_Lw_costOfCheapestBar_38 : decode c_Lw_costOfCheapestBar 38 = .ok (.invokestatic 91, 3) := by decide +kernel
theorem d_Lw_costOfCheapestBar_41 : decode c_Lw_costOfCheapestBar 41 = .ok (.istore_n 2, 1) := by decide +kernel
theorem d_Lw_costOfCheapestBar_42 : decode c_Lw_costOfCheapestBar 42 = .ok (.iinc 3 1, 3) := by decide +kernel
theorem d_Lw_costOfCheapestBar_45 : decode c_Lw_costOfCheapestBar 45 = .ok (.goto (-40), 3) := by decide +kernel
theorem d_Lw_costOfCheapestBar_48 : decode c_Lw_costOfCheapestBar 48 = .ok (.iload_n 2, 1) := by decide +kernel
theorem d_Lw_costOfCheapestBar_49 : decode c_Lw_costOfCheapestBar 49 = .ok (.ireturn, 1) := by decide +kernel
theorem d_Lw_costOfBar_0 : decode c_Lw_costOfBar 0 = .ok (.aload_n 0, 1) := by decide +kernel
theorem d_Lw_costOfBar_1 : decode c_Lw_costOfBar 1 = .ok (.getfield 18, 3) := by decide +kernel
theorem d_Lw_costOfBar_4 : decode c_Lw_costOfBar 4 = .ok (.iload_n 1, 1) := by decide +kernel
theorem d_Lw_costOfBar_5 : decode c_Lw_costOfBar 5 = .ok (.iaload, 1) := by decide +kernel
theorem d_Lw_costOfBar_6 : decode c_Lw_costOfBar 6 = .ok (.bipush 16, 2) := by decide +kernel
theorem d_Lw_costOfBar_8 : decode c_Lw_costOfBar 8 = .ok (.imul, 1) := by decide +kernel
theorem d_Lw_costOfBar_9 : decode c_Lw_costOfBar 9 = .ok (.iconst 1, 1) := by decide +kernel
theorem d_Lw_costOfBar_10 : decode c_Lw_costOfBar 10 = .ok (.iadd, 1) := by decide +kernel
theorem d_Lw_costOfBar_11 : decode c_Lw_costOfBar 11 = .ok (.ireturn, 1) := by decide +kernel
theorem d_Lw_search_0 : decode c_Lw_search 0 = .ok (.iload_n 2, 1) := by decide +kernel
theorem d_Lw_search_1 : decode c_Lw_search 1 = .ok (.ifCond .ne 10, 3) := by decide +kernel
theorem d_Lw_search_4 : decode c_Lw_search 4 = .ok (.aload_n 0, 1) := by decide +kernel
theorem d_Lw_search_5 : decode c_Lw_search 5 = .ok (.iload_n 1, 1) := by decide +kernel
theorem d_Lw_search_6 : decode c_Lw_search 6 = .ok (.iload_n 3, 1) := by decide +kernel
theorem d_Lw_search_7 : decode c_Lw_search 7 = .ok (.invokevirtual 100, 3) := by decide +kernel
theorem d_Lw_search_10 : decode c_Lw_search 10 = .ok (.return_, 1) := by decide +kernel
theorem d_Lw_search_11 : decode c_Lw_search 11 = .ok (.iload_n 1, 1) := by decide +kernel
theorem d_Lw_search_12 : decode c_Lw_search 12 = .ok (.bipush 8, 2) := by decide +kernel
theorem d_Lw_search_14 : decode c_Lw_search 14 = .ok (.if_icmp .lt 4, 3) := by decide +kernel
theorem d_Lw_search_17 : decode c_Lw_search 17 = .ok (.return_, 1) := by decide +kernel
theorem d_Lw_search_18 : decode c_Lw_search 18 = .ok (.iconst 0, 1) := by decide +kernel
theorem d_Lw_search_19 : decode c_Lw_search 19 = .ok (.istore 4, 2) := by decide +kernel
theorem d_Lw_search_21 : decode c_Lw_search 21 = .ok (.iload 4, 2) := by decide +kernel
theorem d_Lw_search_23 : decode c_Lw_search 23 = .ok (.aload_n 0, 1) := by decide +kernel
theorem d_Lw_search_24 : decode c_Lw_search 24 = .ok (.getfield 47, 3) := by decide +kernel
theorem d_Lw_search_27 : decode c_Lw_search 27 = .ok (.if_icmp .ge 63, 3) := by decide +kernel
theorem d_Lw_search_30 : decode c_Lw_search 30 = .ok (.aload_n 0, 1) := by decide +kernel
theorem d_Lw_search_31 : decode c_Lw_search 31 = .ok (.getfield 21, 3) := by decide +kernel
theorem d_Lw_search_34 : decode c_Lw_search 34 = .ok (.iload 4, 2) := by decide +kernel
theorem d_Lw_search_36 : decode c_Lw_search 36 = .ok (.iaload, 1) := by decide +kernel
theorem d_Lw_search_37 : decode c_Lw_search 37 = .ok (.ifCond .le 47, 3) := by decide +kernel
theorem d_Lw_search_40 : decode c_Lw_search 40 = .ok (.aload_n 0, 1) := by decide +kernel
theorem d_Lw_search_41 : decode c_Lw_search 41 = .ok (.getfield 21, 3) := by decide +kernel
theorem d_Lw_search_44 : decode c_Lw_search 44 = .ok (.iload 4, 2) := by decide +kernel
theorem d_Lw_search_46 : decode c_Lw_search 46 = .ok (.dup2, 1) := by decide +kernel
theorem d_Lw_search_47 : decode c_Lw_search 47 = .ok (.iaload, 1) := by decide +kernel
theorem d_Lw_search_48 : decode c_Lw_search 48 = .ok (.iconst 1, 1) := by decide +kernel
theorem d_Lw_search_49 : decode c_Lw_search 49 = .ok (.isub, 1) := by decide +kernel
theorem d_Lw_search_50 : decode c_Lw_search 50 = .ok (.iastore, 1) := by decide +kernel
theorem d_Lw_search_51 : decode c_Lw_search 51 = .ok (.aload_n 0, 1) := by decide +kernel
theorem d_Lw_search_52 : decode c_Lw_search 52 = .ok (.getfield 24, 3) := by decide +kernel
theorem d_Lw_search_55 : decode c_Lw_search 55 = .ok (.iload_n 1, 1) := by decide +kernel
theorem d_Lw_search_56 : decode c_Lw_search 56 = .ok (.iload 4, 2) := by decide +kernel
theorem d_Lw_search_58 : decode c_Lw_search 58 = .ok (.iastore, 1) := by decide +kernel
theorem d_Lw_search_59 : decode c_Lw_search 59 = .ok (.aload_n 0, 1) := by decide +kernel
theorem d_Lw_search_60 : decode c_Lw_search 60 = .ok (.iload_n 1, 1) := by decide +kernel
theorem d_Lw_search_61 : decode c_Lw_search 61 = .ok (.iload_n 2, 1) := by decide +kernel
theorem d_Lw_search_62 : decode c_Lw_search 62 = .ok (.iload_n 3, 1) := by decide +kernel
theorem d_Lw_search_63 : decode c_Lw_search 63 = .ok (.aload_n 0, 1) := by decide +kernel
theorem d_Lw_search_64 : decode c_Lw_search 64 = .ok (.iload 4, 2) := by decide +kernel
theorem d_Lw_search_66 : decode c_Lw_search 66 = .ok (.invokevirtual 97, 3) := by decide +kernel
theorem d_Lw_search_69 : decode c_Lw_search 69 = .ok (.iadd, 1) := by decide +kernel
theorem d_Lw_search_70 : decode c_Lw_search 70 = .ok (.invokevirtual 104, 3) := by decide +kernel
theorem d_Lw_search_73 : decode c_Lw_search 73 = .ok (.aload_n 0, 1) := by decide +kernel
theorem d_Lw_search_74 : decode c_Lw_search 74 = .ok (.getfield 21, 3) := by decide +kernel
theorem d_Lw_search_77 : decode c_Lw_search 77 = .ok (.iload 4, 2) := by decide +kernel
theorem d_Lw_search_79 : decode c_Lw_search 79 = .ok (.dup2, 1) := by decide +kernel
theorem d_Lw_search_80 : decode c_Lw_search 80 = .ok (.iaload, 1) := by decide +kernel
theorem d_Lw_search_81 : decode c_Lw_search 81 = .ok (.iconst 1, 1) := by decide +kernel
theorem d_Lw_search_82 : decode c_Lw_search 82 = .ok (.iadd, 1) := by decide +kernel
theorem d_Lw_search_83 : decode c_Lw_search 83 = .ok (.iastore, 1) := by decide +kernel
theorem d_Lw_search_84 : decode c_Lw_search 84 = .ok (.iinc 4 1, 3) := by decide +kernel
theorem d_Lw_search_87 : decode c_Lw_search 87 = .ok (.goto (-66), 3) := by decide +kernel
theorem d_Lw_search_90 : decode c_Lw_search 90 = .ok (.return_, 1) := by decide +kernel
theorem d_Lw_searchRows_0 : decode c_Lw_searchRows 0 = .ok (.iload_n 2, 1) := by decide +kernel
theorem d_Lw_searchRows_1 : decode c_Lw_searchRows 1 = .ok (.invokestatic 84, 3) := by decide +kernel
theorem d_Lw_searchRows_4 : decode c_Lw_searchRows 4 = .ok (.istore 4, 2) := by decide +kernel
theorem d_Lw_searchRows_6 : decode c_Lw_searchRows 6 = .ok (.aload_n 0, 1) := by decide +kernel
theorem d_Lw_searchRows_7 : decode c_Lw_searchRows 7 = .ok (.getfield 18, 3) := by decide +kernel
theorem d_Lw_searchRows_10 : decode c_Lw_searchRows 10 = .ok (.aload_n 0, 1) := by decide +kernel
theorem d_Lw_searchRows_11 : decode c_Lw_searchRows 11 = .ok (.getfield 24, 3) := by decide +kernel
theorem d_Lw_searchRows_14 : decode c_Lw_searchRows 14 = .ok (.iload_n 1, 1) := by decide +kernel
theorem d_Lw_searchRows_15 : decode c_Lw_searchRows 15 = .ok (.iaload, 1) := by decide +kernel
theorem d_Lw_searchRows_16 : decode c_Lw_searchRows 16 = .ok (.iaload, 1) := by decide +kernel
theorem d_Lw_searchRows_17 : decode c_Lw_searchRows 17 = .ok (.istore 5, 2) := by decide +kernel
theorem d_Lw_searchRows_19 : decode c_Lw_searchRows 19 = .ok (.iload_n 2, 1) := by decide +kernel
theorem d_Lw_searchRows_20 : decode c_Lw_searchRows 20 = .ok (.istore 6, 2) := by decide +kernel
theorem d_Lw_searchRows_22 : decode c_Lw_searchRows 22 = .ok (.iload 6, 2) := by decide +kernel
theorem d_Lw_searchRows_24 : decode c_Lw_searchRows 24 = .ok (.iload 4, 2) := by decide +kernel
theorem d_Lw_searchRows_26 : decode c_Lw_searchRows 26 = .ok (.if_icmp .lt 64, 3) := by decide +kernel
theorem d_Lw_searchRows_29 : decode c_Lw_searchRows 29 = .ok (.aload_n 0, 1) := by decide +kernel
theorem d_Lw_searchRows_30 : decode c_Lw_searchRows 30 = .ok (.getfield 11, 3) := by decide +kernel
theorem d_Lw_searchRows_33 : decode c_Lw_searchRows 33 = .ok (.iload 6, 2) := by decide +kernel
theorem d_Lw_searchRows_35 : decode c_Lw_searchRows 35 = .ok (.iaload, 1) := by decide +kernel
theorem d_Lw_searchRows_36 : decode c_Lw_searchRows 36 = .ok (.iload 5, 2) := by decide +kernel
theorem d_Lw_searchRows_38 : decode c_Lw_searchRows 38 = .ok (.if_icmp .gt 41, 3) := by decide +kernel
theorem d_Lw_searchRows_41 : decode c_Lw_searchRows 41 = .ok (.iload_n 3, 1) := by decide +kernel
theorem d_Lw_searchRows_42 : decode c_Lw_searchRows 42 = .ok (.aload_n 0, 1) := by decide +kernel
theorem d_Lw_searchRows_43 : decode c_Lw_searchRows 43 = .ok (.getfield 15, 3) := by decide +kernel
theorem d_Lw_searchRows_46 : decode c_Lw_searchRows 46 = .ok (.iload_n 2, 1) := by decide +kernel
theorem d_Lw_searchRows_47 : decode c_Lw_searchRows 47 = .ok (.iload 6, 2) := by decide +kernel
theorem d_Lw_searchRows_49 : decode c_Lw_searchRows 49 = .ok (.isub, 1) := by decide +kernel
theorem d_Lw_searchRows_50 : decode c_Lw_searchRows 50 = .ok (.iaload, 1) := by decide +kernel
theorem d_Lw_searchRows_51 : decode c_Lw_searchRows 51 = .ok (.iadd, 1) := by decide +kernel
theorem d_Lw_searchRows_52 : decode c_Lw_searchRows 52 = .ok (.aload_n 0, 1) := by decide +kernel
theorem d_Lw_searchRows_53 : decode c_Lw_searchRows 53 = .ok (.getfield 67, 3) := by decide +kernel
theorem d_Lw_searchRows_56 : decode c_Lw_searchRows 56 = .ok (.if_icmp .ge 23, 3) := by decide +kernel
theorem d_Lw_searchRows_59 : decode c_Lw_searchRows 59 = .ok (.aload_n 0, 1) := by decide +kernel
theorem d_Lw_searchRows_60 : decode c_Lw_searchRows 60 = .ok (.getfield 27, 3) := by decide +kernel
theorem d_Lw_searchRows_63 : decode c_Lw_searchRows 63 = .ok (.iload_n 1, 1) := by decide +kernel
theorem d_Lw_searchRows_64 : decode c_Lw_searchRows 64 = .ok (.iload 6, 2) := by decide +kernel
theorem d_Lw_searchRows_66 : decode c_Lw_searchRows 66 = .ok (.iastore, 1) := by decide +kernel
theorem d_Lw_searchRows_67 : decode c_Lw_searchRows 67 = .ok (.aload_n 0, 1) := by decide +kernel
theorem d_Lw_searchRows_68 : decode c_Lw_searchRows 68 = .ok (.iload_n 1, 1) := by decide +kernel
theorem d_Lw_searchRows_69 : decode c_Lw_searchRows 69 = .ok (.iconst 1, 1) := by decide +kernel
theorem d_Lw_searchRows_70 : decode c_Lw_searchRows 70 = .ok (.iadd, 1) := by decide +kernel
theorem d_Lw_searchRows_71 : decode c_Lw_searchRows 71 = .ok (.iload_n 2, 1) := by decide +kernel
theorem d_Lw_searchRows_72 : decode c_Lw_searchRows 72 = .ok (.iload 6, 2) := by decide +kernel
theorem d_Lw_searchRows_74 : decode c_Lw_searchRows 74 = .ok (.isub, 1) := by decide +kernel
theorem d_Lw_searchRows_75 : decode c_Lw_searchRows 75 = .ok (.iload_n 3, 1) := by decide +kernel
theorem d_Lw_searchRows_76 : decode c_Lw_searchRows 76 = .ok (.invokevirtual 73, 3) := by decide +kernel
theorem d_Lw_searchRows_79 : decode c_Lw_searchRows 79 = .ok (.iload 6, 2) := by decide +kernel
theorem d_Lw_searchRows_81 : decode c_Lw_searchRows 81 = .ok (.iconst 1, 1) := by decide +kernel
theorem d_Lw_searchRows_82 : decode c_Lw_searchRows 82 = .ok (.isub, 1) := by decide +kernel
theorem d_Lw_searchRows_83 : decode c_Lw_searchRows 83 = .ok (.iload_n 2, 1) := by decide +kernel
theorem d_Lw_searchRows_84 : decode c_Lw_searchRows 84 = .ok (.iand, 1) := by decide +kernel
theorem d_Lw_searchRows_85 : decode c_Lw_searchRows 85 = .ok (.istore 6, 2) := by decide +kernel
theorem d_Lw_searchRows_87 : decode c_Lw_searchRows 87 = .ok (.goto (-65), 3) := by decide +kernel
theorem d_Lw_searchRows_90 : decode c_Lw_searchRows 90 = .ok (.return_, 1) := by decide +kernel
theorem d_Lw_keep_0 : decode c_Lw_keep 0 = .ok (.aload_n 0, 1) := by decide +kernel
theorem d_Lw_keep_1 : decode c_Lw_keep 1 = .ok (.iload_n 2, 1) := by decide +kernel
theorem d_Lw_keep_2 : decode c_Lw_keep 2 = .ok (.putfield 67, 3) := by decide +kernel
theorem d_Lw_keep_5 : decode c_Lw_keep 5 = .ok (.aload_n 0, 1) := by decide +kernel
theorem d_Lw_keep_6 : decode c_Lw_keep 6 = .ok (.iload_n 1, 1) := by decide +kernel
theorem d_Lw_keep_7 : decode c_Lw_keep 7 = .ok (.putfield 70, 3) := by decide +kernel
theorem d_Lw_keep_10 : decode c_Lw_keep 10 = .ok (.iconst 0, 1) := by decide +kernel
theorem d_Lw_keep_11 : decode c_Lw_keep 11 = .ok (.istore_n 3, 1) := by decide +kernel
theorem d_Lw_keep_12 : decode c_Lw_keep 12 = .ok (.iload_n 3, 1) := by decide +kernel
theorem d_Lw_keep_13 : decode c_Lw_keep 13 = .ok (.iload_n 1, 1) := by decide +kernel
theorem d_Lw_keep_14 : decode c_Lw_keep 14 = .ok (.if_icmp .ge 33, 3) := by decide +kernel
theorem d_Lw_keep_17 : decode c_Lw_keep 17 = .ok (.aload_n 0, 1) := by decide +kernel
theorem d_Lw_keep_18 : decode c_Lw_keep 18 = .ok (.getfield 30, 3) := by decide +kernel
theorem d_Lw_keep_21 : decode c_Lw_keep 21 = .ok (.iload_n 3, 1) := by decide +kernel
theorem d_Lw_keep_22 : decode c_Lw_keep 22 = .ok (.aload_n 0, 1) := by decide +kernel
theorem d_Lw_keep_23 : decode c_Lw_keep 23 = .ok (.getfield 24, 3) := by decide +kernel
theorem d_Lw_keep_26 : decode c_Lw_keep 26 = .ok (.iload_n 3, 1) := by decide +kernel
theorem d_Lw_keep_27 : decode c_Lw_keep 27 = .ok (.iaload, 1) := by decide +kernel
theorem d_Lw_keep_28 : decode c_Lw_keep 28 = .ok (.iastore, 1) := by decide +kernel
theorem d_Lw_keep_29 : decode c_Lw_keep 29 = .ok (.aload_n 0, 1) := by decide +kernel
theorem d_Lw_keep_30 : decode c_Lw_keep 30 = .ok (.getfield 33, 3) := by decide +kernel
theorem d_Lw_keep_33 : decode c_Lw_keep 33 = .ok (.iload_n 3, 1) := by decide +kernel
theorem d_Lw_keep_34 : decode c_Lw_keep 34 = .ok (.aload_n 0, 1) := by decide +kernel
theorem d_Lw_keep_35 : decode c_Lw_keep 35 = .ok (.getfield 27, 3) := by decide +kernel
theorem d_Lw_keep_38 : decode c_Lw_keep 38 = .ok (.iload_n 3, 1) := by decide +kernel
theorem d_Lw_keep_39 : decode c_Lw_keep 39 = .ok (.iaload, 1) := by decide +kernel
theorem d_Lw_keep_40 : decode c_Lw_keep 40 = .ok (.iastore, 1) := by decide +kernel
theorem d_Lw_keep_41 : decode c_Lw_keep 41 = .ok (.iinc 3 1, 3) := by decide +kernel
theorem d_Lw_keep_44 : decode c_Lw_keep 44 = .ok (.goto (-32), 3) := by decide +kernel
theorem d_Lw_keep_47 : decode c_Lw_keep 47 = .ok (.return_, 1) := by decide +kernel
theorem d_Lw_writeBest_0 : decode c_Lw_writeBest 0 = .ok (.iconst 0, 1) := by decide +kernel
theorem d_Lw_writeBest_1 : decode c_Lw_writeBest 1 = .ok (.istore 4, 2) := by decide +kernel
theorem d_Lw_writeBest_3 : decode c_Lw_writeBest 3 = .ok (.iload 4, 2) := by decide +kernel
theorem d_Lw_writeBest_5 : decode c_Lw_writeBest 5 = .ok (.aload_n 0, 1) := by decide +kernel
theorem d_Lw_writeBest_6 : decode c_Lw_writeBest 6 = .ok (.getfield 70, 3) := by decide +kernel
theorem d_Lw_writeBest_9 : decode c_Lw_writeBest 9 = .ok (.if_icmp .ge 86, 3) := by decide +kernel
theorem d_Lw_writeBest_12 : decode c_Lw_writeBest 12 = .ok (.aload_n 1, 1) := by decide +kernel
theorem d_Lw_writeBest_13 : decode c_Lw_writeBest 13 = .ok (.iload_n 3, 1) := by decide +kernel
theorem d_Lw_writeBest_14 : decode c_Lw_writeBest 14 = .ok (.aload_n 0, 1) := by decide +kernel
theorem d_Lw_writeBest_15 : decode c_Lw_writeBest 15 = .ok (.getfield 18, 3) := by decide +kernel
theorem d_Lw_writeBest_18 : decode c_Lw_writeBest 18 = .ok (.aload_n 0, 1) := by decide +kernel
theorem d_Lw_writeBest_19 : decode c_Lw_writeBest 19 = .ok (.getfield 30, 3) := by decide +kernel
theorem d_Lw_writeBest_22 : decode c_Lw_writeBest 22 = .ok (.iload 4, 2) := by decide +kernel
theorem d_Lw_writeBest_24 : decode c_Lw_writeBest 24 = .ok (.iaload, 1) := by decide +kernel
theorem d_Lw_writeBest_25 : decode c_Lw_writeBest 25 = .ok (.iaload, 1) := by decide +kernel
theorem d_Lw_writeBest_26 : decode c_Lw_writeBest 26 = .ok (.invokevirtual 107, 3) := by decide +kernel
theorem d_Lw_writeBest_29 : decode c_Lw_writeBest 29 = .ok (.istore 5, 2) := by decide +kernel
theorem d_Lw_writeBest_31 : decode c_Lw_writeBest 31 = .ok (.iload 5, 2) := by decide +kernel
theorem d_Lw_writeBest_33 : decode c_Lw_writeBest 33 = .ok (.bipush (-2), 2) := by decide +kernel
theorem d_Lw_writeBest_35 : decode c_Lw_writeBest 35 = .ok (.if_icmp .ne 5, 3) := by decide +kernel
theorem d_Lw_writeBest_38 : decode c_Lw_writeBest 38 = .ok (.iconst 0, 1) := by decide +kernel
theorem d_Lw_writeBest_39 : decode c_Lw_writeBest 39 = .ok (.ireturn, 1) := by decide +kernel
theorem d_Lw_writeBest_40 : decode c_Lw_writeBest 40 = .ok (.iload_n 2, 1) := by decide +kernel
theorem d_Lw_writeBest_41 : decode c_Lw_writeBest 41 = .ok (.istore 6, 2) := by decide +kernel
theorem d_Lw_writeBest_43 : decode c_Lw_writeBest 43 = .ok (.iload 6, 2) := by decide +kernel
theorem d_Lw_writeBest_45 : decode c_Lw_writeBest 45 = .ok (.aload_n 1, 1) := by decide +kernel
theorem d_Lw_writeBest_46 : decode c_Lw_writeBest 46 = .ok (.getfield 36, 3) := by decide +kernel
theorem d_Lw_writeBest_49 : decode c_Lw_writeBest 49 = .ok (.if_icmp .ge 40, 3) := by decide +kernel
theorem d_Lw_writeBest_52 : decode c_Lw_writeBest 52 = .ok (.aload_n 0, 1) := by decide +kernel
theorem d_Lw_writeBest_53 : decode c_Lw_writeBest 53 = .ok (.getfield 33, 3) := by decide +kernel
theorem d_Lw_writeBest_56 : decode c_Lw_writeBest 56 = .ok (.iload 4, 2) := by decide +kernel
theorem d_Lw_writeBest_58 : decode c_Lw_writeBest 58 = .ok (.iaload, 1) := by decide +kernel
theorem d_Lw_writeBest_59 : decode c_Lw_writeBest 59 = .ok (.aload_n 1, 1) := by decide +kernel
theorem d_Lw_writeBest_60 : decode c_Lw_writeBest 60 = .ok (.getfield 36, 3) := by decide +kernel
theorem d_Lw_writeBest_63 : decode c_Lw_writeBest 63 = .ok (.iconst 1, 1) := by decide +kernel
theorem d_Lw_writeBest_64 : decode c_Lw_writeBest 64 = .ok (.isub, 1) := by decide +kernel
theorem d_Lw_writeBest_65 : decode c_Lw_writeBest 65 = .ok (.iload 6, 2) := by decide +kernel
theorem d_Lw_writeBest_67 : decode c_Lw_writeBest 67 = .ok (.isub, 1) := by decide +kernel
theorem d_Lw_writeBest_68 : decode c_Lw_writeBest 68 = .ok (.ishr, 1) := by decide +kernel
theorem d_Lw_writeBest_69 : decode c_Lw_writeBest 69 = .ok (.iconst 1, 1) := by decide +kernel
theorem d_Lw_writeBest_70 : decode c_Lw_writeBest 70 = .ok (.iand, 1) := by decide +kernel
theorem d_Lw_writeBest_71 : decode c_Lw_writeBest 71 = .ok (.iconst 1, 1) := by decide +kernel
theorem d_Lw_writeBest_72 : decode c_Lw_writeBest 72 = .ok (.if_icmp .ne 11, 3) := by decide +kernel
theorem d_Lw_writeBest_75 : decode c_Lw_writeBest 75 = .ok (.aload_n 1, 1) := by decide +kernel
theorem d_Lw_writeBest_76 : decode c_Lw_writeBest 76 = .ok (.iload 6, 2) := by decide +kernel
theorem d_Lw_writeBest_78 : decode c_Lw_writeBest 78 = .ok (.iload 5, 2) := by decide +kernel
theorem d_Lw_writeBest_80 : decode c_Lw_writeBest 80 = .ok (.invokevirtual 110, 3) := by decide +kernel
theorem d_Lw_writeBest_83 : decode c_Lw_writeBest 83 = .ok (.iinc 6 1, 3) := by decide +kernel
theorem d_Lw_writeBest_86 : decode c_Lw_writeBest 86 = .ok (.goto (-43), 3) := by decide +kernel
theorem d_Lw_writeBest_89 : decode c_Lw_writeBest 89 = .ok (.iinc 4 1, 3) := by decide +kernel
theorem d_Lw_writeBest_92 : decode c_Lw_writeBest 92 = .ok (.goto (-89), 3) := by decide +kernel
theorem d_Lw_writeBest_95 : decode c_Lw_writeBest 95 = .ok (.iconst 1, 1) := by decide +kernel
theorem d_Lw_writeBest_96 : decode c_Lw_writeBest 96 = .ok (.ireturn, 1) := by decide +kernel
theorem d_Lw_highestBit_0 : decode c_Lw_highestBit 0 = .ok (.sipush 128, 3) := by decide +kernel
theorem d_Lw_highestBit_3 : decode c_Lw_highestBit 3 = .ok (.istore_n 1, 1) := by decide +kernel
theorem d_Lw_highestBit_4 : decode c_Lw_highestBit 4 = .ok (.iload_n 1, 1) := by decide +kernel
theorem d_Lw_highestBit_5 : decode c_Lw_highestBit 5 = .ok (.iconst 1, 1) := by decide +kernel
theorem d_Lw_highestBit_6 : decode c_Lw_highestBit 6 = .ok (.if_icmp .le 18, 3) := by decide +kernel
theorem d_Lw_highestBit_9 : decode c_Lw_highestBit 9 = .ok (.iload_n 0, 1) := by decide +kernel
theorem d_Lw_highestBit_10 : decode c_Lw_highestBit 10 = .ok (.iload_n 1, 1) := by decide +kernel
theorem d_Lw_highestBit_11 : decode c_Lw_highestBit 11 = .ok (.iand, 1) := by decide +kernel
theorem d_Lw_highestBit_12 : decode c_Lw_highestBit 12 = .ok (.ifCond .eq 5, 3) := by decide +kernel
theorem d_Lw_highestBit_15 : decode c_Lw_highestBit 15 = .ok (.iload_n 1, 1) := by decide +kernel
theorem d_Lw_highestBit_16 : decode c_Lw_highestBit 16 = .ok (.ireturn, 1) := by decide +kernel
theorem d_Lw_highestBit_17 : decode c_Lw_highestBit 17 = .ok (.iload_n 1, 1) := by decide +kernel
theorem d_Lw_highestBit_18 : decode c_Lw_highestBit 18 = .ok (.iconst 2, 1) := by decide +kernel
theorem d_Lw_highestBit_19 : decode c_Lw_highestBit 19 = .ok (.idiv, 1) := by decide +kernel
theorem d_Lw_highestBit_20 : decode c_Lw_highestBit 20 = .ok (.istore_n 1, 1) := by decide +kernel
theorem d_Lw_highestBit_21 : decode c_Lw_highestBit 21 = .ok (.goto (-17), 3) := by decide +kernel
theorem d_Lw_highestBit_24 : decode c_Lw_highestBit 24 = .ok (.iconst 1, 1) := by decide +kernel
theorem d_Lw_highestBit_25 : decode c_Lw_highestBit 25 = .ok (.ireturn, 1) := by decide +kernel
theorem d_Ln_init_0 : decode c_Ln_init 0 = .ok (.aload_n 0, 1) := by decide +kernel
theorem d_Ln_init_1 : decode c_Ln_init 1 = .ok (.invokespecial 3, 3) := by decide +kernel
theorem d_Ln_init_4 : decode c_Ln_init 4 = .ok (.aload_n 0, 1) := by decide +kernel
theorem d_Ln_init_5 : decode c_Ln_init 5 = .ok (.bipush 6, 2) := by decide +kernel
theorem d_Ln_init_7 : decode c_Ln_init 7 = .ok (.newarray .int, 2) := by decide +kernel
theorem d_Ln_init_9 : decode c_Ln_init 9 = .ok (.putfield 9, 3) := by decide +kernel
theorem d_Ln_init_12 : decode c_Ln_init 12 = .ok (.aload_n 0, 1) := by decide +kernel
theorem d_Ln_init_13 : decode c_Ln_init 13 = .ok (.iload_n 1, 1) := by decide +kernel
theorem d_Ln_init_14 : decode c_Ln_init 14 = .ok (.putfield 15, 3) := by decide +kernel
theorem d_Ln_init_17 : decode c_Ln_init 17 = .ok (.aload_n 0, 1) := by decide +kernel
theorem d_Ln_init_18 : decode c_Ln_init 18 = .ok (.aload_n 2, 1) := by decide +kernel
theorem d_Ln_init_19 : decode c_Ln_init 19 = .ok (.putfield 19, 3) := by decide +kernel
theorem d_Ln_init_22 : decode c_Ln_init 22 = .ok (.aload_n 0, 1) := by decide +kernel
theorem d_Ln_init_23 : decode c_Ln_init 23 = .ok (.iload_n 3, 1) := by decide +kernel
theorem d_Ln_init_24 : decode c_Ln_init 24 = .ok (.putfield 23, 3) := by decide +kernel
theorem d_Ln_init_27 : decode c_Ln_init 27 = .ok (.aload_n 0, 1) := by decide +kernel
theorem d_Ln_init_28 : decode c_Ln_init 28 = .ok (.iload 4, 2) := by decide +kernel
theorem d_Ln_init_30 : decode c_Ln_init 30 = .ok (.putfield 26, 3) := by decide +kernel
theorem d_Ln_init_33 : decode c_Ln_init 33 = .ok (.return_, 1) := by decide +kernel
theorem d_Ln_sumOfLegs_0 : decode c_Ln_sumOfLegs 0 = .ok (.iconst 0, 1) := by decide +kernel
theorem d_Ln_sumOfLegs_1 : decode c_Ln_sumOfLegs 1 = .ok (.istore_n 1, 1) := by decide +kernel
theorem d_Ln_sumOfLegs_2 : decode c_Ln_sumOfLegs 2 = .ok (.iconst 0, 1) := by decide +kernel
theorem d_Ln_sumOfLegs_3 : decode c_Ln_sumOfLegs 3 = .ok (.istore_n 2, 1) := by decide +kernel
theorem d_Ln_sumOfLegs_4 : decode c_Ln_sumOfLegs 4 = .ok (.iload_n 2, 1) := by decide +kernel
theorem d_Ln_sumOfLegs_5 : decode c_Ln_sumOfLegs 5 = .ok (.aload_n 0, 1) := by decide +kernel
theorem d_Ln_sumOfLegs_6 : decode c_Ln_sumOfLegs 6 = .ok (.getfield 9, 3) := by decide +kernel
theorem d_Ln_sumOfLegs_9 : decode c_Ln_sumOfLegs 9 = .ok (.arraylength, 1) := by decide +kernel
theorem d_Ln_sumOfLegs_10 : decode c_Ln_sumOfLegs 10 = .ok (.if_icmp .ge 18, 3) := by decide +kernel
theorem d_Ln_sumOfLegs_13 : decode c_Ln_sumOfLegs 13 = .ok (.iload_n 1, 1) := by decide +kernel
theorem d_Ln_sumOfLegs_14 : decode c_Ln_sumOfLegs 14 = .ok (.aload_n 0, 1) := by decide +kernel
theorem d_Ln_sumOfLegs_15 : decode c_Ln_sumOfLegs 15 = .ok (.getfield 9, 3) := by decide +kernel
theorem d_Ln_sumOfLegs_18 : decode c_Ln_sumOfLegs 18 = .ok (.iload_n 2, 1) := by decide +kernel
theorem d_Ln_sumOfLegs_19 : decode c_Ln_sumOfLegs 19 = .ok (.iaload, 1) := by decide +kernel
theorem d_Ln_sumOfLegs_20 : decode c_Ln_sumOfLegs 20 = .ok (.iadd, 1) := by decide +kernel
theorem d_Ln_sumOfLegs_21 : decode c_Ln_sumOfLegs 21 = .ok (.istore_n 1, 1) := by decide +kernel
theorem d_Ln_sumOfLegs_22 : decode c_Ln_sumOfLegs 22 = .ok (.iinc 2 1, 3) := by decide +kernel
theorem d_Ln_sumOfLegs_25 : decode c_Ln_sumOfLegs 25 = .ok (.goto (-21), 3) := by decide +kernel
theorem d_Ln_sumOfLegs_28 : decode c_Ln_sumOfLegs 28 = .ok (.iload_n 1, 1) := by decide +kernel
theorem d_Ln_sumOfLegs_29 : decode c_Ln_sumOfLegs 29 = .ok (.ireturn, 1) := by decide +kernel
theorem d_Ln_allLegsTold_0 : decode c_Ln_allLegsTold 0 = .ok (.iconst 0, 1) := by decide +kernel
theorem d_Ln_allLegsTold_1 : decode c_Ln_allLegsTold 1 = .ok (.istore_n 1, 1) := by decide +kernel
theorem d_Ln_allLegsTold_2 : decode c_Ln_allLegsTold 2 = .ok (.iload_n 1, 1) := by decide +kernel
theorem d_Ln_allLegsTold_3 : decode c_Ln_allLegsTold 3 = .ok (.aload_n 0, 1) := by decide +kernel
theorem d_Ln_allLegsTold_4 : decode c_Ln_allLegsTold 4 = .ok (.getfield 19, 3) := by decide +kernel
theorem d_Ln_allLegsTold_7 : decode c_Ln_allLegsTold 7 = .ok (.getfield 29, 3) := by decide +kernel
theorem d_Ln_allLegsTold_10 : decode c_Ln_allLegsTold 10 = .ok (.if_icmp .ge 20, 3) := by decide +kernel
theorem d_Ln_allLegsTold_13 : decode c_Ln_allLegsTold 13 = .ok (.aload_n 0, 1) := by decide +kernel
theorem d_Ln_allLegsTold_14 : decode c_Ln_allLegsTold 14 = .ok (.getfield 9, 3) := by decide +kernel
theorem d_Ln_allLegsTold_17 : decode c_Ln_allLegsTold 17 = .ok (.iload_n 1, 1) := by decide +kernel
theorem d_Ln_allLegsTold_18 : decode c_Ln_allLegsTold 18 = .ok (.iaload, 1) := by decide +kernel
theorem d_Ln_allLegsTold_19 : decode c_Ln_allLegsTold 19 = .ok (.ifCond .ne 5, 3) := by decide +kernel
theorem d_Ln_allLegsTold_22 : decode c_Ln_allLegsTold 22 = .ok (.iconst 0, 1) := by decide +kernel
theorem d_Ln_allLegsTold_23 : decode c_Ln_allLegsTold 23 = .ok (.ireturn, 1) := by decide +kernel
theorem d_Ln_allLegsTold_24 : decode c_Ln_allLegsTold 24 = .ok (.iinc 1 1, 3) := by decide +kernel
theorem d_Ln_allLegsTold_27 : decode c_Ln_allLegsTold 27 = .ok (.goto (-25), 3) := by decide +kernel
theorem d_Ln_allLegsTold_30 : decode c_Ln_allLegsTold 30 = .ok (.iconst 1, 1) := by decide +kernel
theorem d_Ln_allLegsTold_31 : decode c_Ln_allLegsTold 31 = .ok (.ireturn, 1) := by decide +kernel
theorem d_Ln_thing_0 : decode c_Ln_thing 0 = .ok (.iload_n 1, 1) := by decide +kernel
theorem d_Ln_thing_1 : decode c_Ln_thing 1 = .ok (.tableswitch 42 0 2 #[27, 32, 37], 27) := by decide +kernel
theorem d_Ln_thing_28 : decode c_Ln_thing 28 = .ok (.aload_n 0, 1) := by decide +kernel
theorem d_Ln_thing_29 : decode c_Ln_thing 29 = .ok (.getfield 15, 3) := by decide +kernel
theorem d_Ln_thing_32 : decode c_Ln_thing 32 = .ok (.ireturn, 1) := by decide +kernel
theorem d_Ln_thing_33 : decode c_Ln_thing 33 = .ok (.aload_n 0, 1) := by decide +kernel
theorem d_Ln_thing_34 : decode c_Ln_thing 34 = .ok (.getfield 23, 3) := by decide +kernel
theorem d_Ln_thing_37 : decode c_Ln_thing 37 = .ok (.ireturn, 1) := by decide +kernel
theorem d_Ln_thing_38 : decode c_Ln_thing 38 = .ok (.aload_n 0, 1) := by decide +kernel
theorem d_Ln_thing_39 : decode c_Ln_thing 39 = .ok (.getfield 26, 3) := by decide +kernel
theorem d_Ln_thing_42 : decode c_Ln_thing 42 = .ok (.ireturn, 1) := by decide +kernel
theorem d_Ln_thing_43 : decode c_Ln_thing 43 = .ok (.iload_n 1, 1) := by decide +kernel
theorem d_Ln_thing_44 : decode c_Ln_thing 44 = .ok (.iconst 3, 1) := by decide +kernel
theorem d_Ln_thing_45 : decode c_Ln_thing 45 = .ok (.isub, 1) := by decide +kernel
theorem d_Ln_thing_46 : decode c_Ln_thing 46 = .ok (.istore_n 2, 1) := by decide +kernel
theorem d_Ln_thing_47 : decode c_Ln_thing 47 = .ok (.iload_n 2, 1) := by decide +kernel
theorem d_Ln_thing_48 : decode c_Ln_thing 48 = .ok (.ifCond .lt 21, 3) := by decide +kernel
theorem d_Ln_thing_51 : decode c_Ln_thing 51 = .ok (.iload_n 2, 1) := by decide +kernel
theorem d_Ln_thing_52 : decode c_Ln_thing 52 = .ok (.aload_n 0, 1) := by decide +kernel
theorem d_Ln_thing_53 : decode c_Ln_thing 53 = .ok (.getfield 9, 3) := by decide +kernel
theorem d_Ln_thing_56 : decode c_Ln_thing 56 = .ok (.arraylength, 1) := by decide +kernel
theorem d_Ln_thing_57 : decode c_Ln_thing 57 = .ok (.if_icmp .ge 12, 3) := by decide +kernel
theorem d_Ln_thing_60 : decode c_Ln_thing 60 = .ok (.aload_n 0, 1) := by decide +kernel
theorem d_Ln_thing_61 : decode c_Ln_thing 61 = .ok (.getfield 9, 3) := by decide +kernel
theorem d_Ln_thing_64 : decode c_Ln_thing 64 = .ok (.iload_n 2, 1) := by decide +kernel
theorem d_Ln_thing_65 : decode c_Ln_thing 65 = .ok (.iaload, 1) := by decide +kernel
theorem d_Ln_thing_66 : decode c_Ln_thing 66 = .ok (.goto 4, 3) := by decide +kernel
theorem d_Ln_thing_69 : decode c_Ln_thing 69 = .ok (.iconst 0, 1) := by decide +kernel
theorem d_Ln_thing_70 : decode c_Ln_thing 70 = .ok (.ireturn, 1) := by decide +kernel
theorem d_Ln_signOfTag_0 : decode c_Ln_signOfTag 0 = .ok (.aload_n 0, 1) := by decide +kernel
theorem d_Ln_signOfTag_1 : decode c_Ln_signOfTag 1 = .ok (.getfield 23, 3) := by decide +kernel
theorem d_Ln_signOfTag_4 : decode c_Ln_signOfTag 4 = .ok (.bipush 10, 2) := by decide +kernel
theorem d_Ln_signOfTag_6 : decode c_Ln_signOfTag 6 = .ok (.idiv, 1) := by decide +kernel
theorem d_Ln_signOfTag_7 : decode c_Ln_signOfTag 7 = .ok (.istore_n 2, 1) := by decide +kernel
theorem d_Ln_signOfTag_8 : decode c_Ln_signOfTag 8 = .ok (.iload_n 2, 1) := by decide +kernel
theorem d_Ln_signOfTag_9 : decode c_Ln_signOfTag 9 = .ok (.ifCond .le 7, 3) := by decide +kernel
theorem d_Ln_signOfTag_12 : decode c_Ln_signOfTag 12 = .ok (.iconst 3, 1) := by decide +kernel
theorem d_Ln_signOfTag_13 : decode c_Ln_signOfTag 13 = .ok (.goto 4, 3) := by decide +kernel
theorem d_Ln_signOfTag_16 : decode c_Ln_signOfTag 16 = .ok (.iconst 2, 1) := by decide +kernel
theorem d_Ln_signOfTag_17 : decode c_Ln_signOfTag 17 = .ok (.istore_n 3, 1) := by decide +kernel
theorem d_Ln_signOfTag_18 : decode c_Ln_signOfTag 18 = .ok (.iload_n 1, 1) := by decide +kernel
theorem d_Ln_signOfTag_19 : decode c_Ln_signOfTag 19 = .ok (.ifCond .gt 19, 3) := by decide +kernel
theorem d_Ln_signOfTag_22 : decode c_Ln_signOfTag 22 = .ok (.iload_n 1, 1) := by decide +kernel
theorem d_Ln_signOfTag_23 : decode c_Ln_signOfTag 23 = .ok (.ifCond .ge 7, 3) := by decide +kernel
theorem d_Ln_signOfTag_26 : decode c_Ln_signOfTag 26 = .ok (.iconst (-1), 1) := by decide +kernel
theorem d_Ln_signOfTag_27 : decode c_Ln_signOfTag 27 = .ok (.goto 10, 3) := by decide +kernel
theorem d_Ln_signOfTag_30 : decode c_Ln_signOfTag 30 = .ok (.bipush 48, 2) := by decide +kernel
theorem d_Ln_signOfTag_32 : decode c_Ln_signOfTag 32 = .ok (.aload_n 0, 1) := by decide +kernel
theorem d_Ln_signOfTag_33 : decode c_Ln_signOfTag 33 = .ok (.getfield 26, 3) := by decide +kernel
theorem d_Ln_signOfTag_36 : decode c_Ln_signOfTag 36 = .ok (.iadd, 1) := by decide +kernel
theorem d_Ln_signOfTag_37 : decode c_Ln_signOfTag 37 = .ok (.ireturn, 1) := by decide +kernel
theorem d_Ln_signOfTag_38 : decode c_Ln_signOfTag 38 = .ok (.iload_n 1, 1) := by decide +kernel
theorem d_Ln_signOfTag_39 : decode c_Ln_signOfTag 39 = .ok (.iconst 1, 1) := by decide +kernel
theorem d_Ln_signOfTag_40 : decode c_Ln_signOfTag 40 = .ok (.if_icmp .ne 6, 3) := by decide +kernel
theorem d_Ln_signOfTag_43 : decode c_Ln_signOfTag 43 = .ok (.bipush 120, 2) := by decide +kernel
theorem d_Ln_signOfTag_45 : decode c_Ln_signOfTag 45 = .ok (.ireturn, 1) := by decide +kernel
theorem d_Ln_signOfTag_46 : decode c_Ln_signOfTag 46 = .ok (.iload_n 1, 1) := by decide +kernel
theorem d_Ln_signOfTag_47 : decode c_Ln_signOfTag 47 = .ok (.iload_n 3, 1) := by decide +kernel
theorem d_Ln_signOfTag_48 : decode c_Ln_signOfTag 48 = .ok (.if_icmp .ge 8, 3) := by decide +kernel
theorem d_Ln_signOfTag_51 : decode c_Ln_signOfTag 51 = .ok (.bipush 48, 2) := by decide +kernel
theorem d_Ln_signOfTag_53 : decode c_Ln_signOfTag 53 = .ok (.iload_n 2, 1) := by decide +kernel
theorem d_Ln_signOfTag_54 : decode c_Ln_signOfTag 54 = .ok (.iadd, 1) := by decide +kernel
theorem d_Ln_signOfTag_55 : decode c_Ln_signOfTag 55 = .ok (.ireturn, 1) := by decide +kernel
theorem d_Ln_signOfTag_56 : decode c_Ln_signOfTag 56 = .ok (.iload_n 1, 1) := by decide +kernel
theorem d_Ln_signOfTag_57 : decode c_Ln_signOfTag 57 = .ok (.iload_n 3, 1) := by decide +kernel
theorem d_Ln_signOfTag_58 : decode c_Ln_signOfTag 58 = .ok (.if_icmp .ne 14, 3) := by decide +kernel
theorem d_Ln_signOfTag_61 : decode c_Ln_signOfTag 61 = .ok (.bipush 48, 2) := by decide +kernel
theorem d_Ln_signOfTag_63 : decode c_Ln_signOfTag 63 = .ok (.aload_n 0, 1) := by decide +kernel
theorem d_Ln_signOfTag_64 : decode c_Ln_signOfTag 64 = .ok (.getfield 23, 3) := by decide +kernel
theorem d_Ln_signOfTag_67 : decode c_Ln_signOfTag 67 = .ok (.bipush 10, 2) := by decide +kernel
theorem d_Ln_signOfTag_69 : decode c_Ln_signOfTag 69 = .ok (.irem, 1) := by decide +kernel
theorem d_Ln_signOfTag_70 : decode c_Ln_signOfTag 70 = .ok (.iadd, 1) := by decide +kernel
theorem d_Ln_signOfTag_71 : decode c_Ln_signOfTag 71 = .ok (.ireturn, 1) := by decide +kernel
theorem d_Ln_signOfTag_72 : decode c_Ln_signOfTag 72 = .ok (.iload_n 1, 1) := by decide +kernel
theorem d_Ln_signOfTag_73 : decode c_Ln_signOfTag 73 = .ok (.iload_n 3, 1) := by decide +kernel
theorem d_Ln_signOfTag_74 : decode c_Ln_signOfTag 74 = .ok (.iconst 1, 1) := by decide +kernel
theorem d_Ln_signOfTag_75 : decode c_Ln_signOfTag 75 = .ok (.iadd, 1) := by decide +kernel
theorem d_Ln_signOfTag_76 : decode c_Ln_signOfTag 76 = .ok (.if_icmp .ne 6, 3) := by decide +kernel
theorem d_Ln_signOfTag_79 : decode c_Ln_signOfTag 79 = .ok (.bipush 58, 2) := by decide +kernel
theorem d_Ln_signOfTag_81 : decode c_Ln_signOfTag 81 = .ok (.ireturn, 1) := by decide +kernel
theorem d_Ln_signOfTag_82 : decode c_Ln_signOfTag 82 = .ok (.iload_n 1, 1) := by decide +kernel
theorem d_Ln_signOfTag_83 : decode c_Ln_signOfTag 83 = .ok (.iload_n 3, 1) := by decide +kernel
theorem d_Ln_signOfTag_84 : decode c_Ln_signOfTag 84 = .ok (.isub, 1) := by decide +kernel
theorem d_Ln_signOfTag_85 : decode c_Ln_signOfTag 85 = .ok (.iconst 2, 1) := by decide +kernel
theorem d_Ln_signOfTag_86 : decode c_Ln_signOfTag 86 = .ok (.isub, 1) := by decide +kernel
theorem d_Ln_signOfTag_87 : decode c_Ln_signOfTag 87 = .ok (.istore 4, 2) := by decide +kernel
theorem d_Ln_signOfTag_89 : decode c_Ln_signOfTag 89 = .ok (.iload 4, 2) := by decide +kernel
theorem d_Ln_signOfTag_91 : decode c_Ln_signOfTag 91 = .ok (.aload_n 0, 1) := by decide +kernel
theorem d_Ln_signOfTag_92 : decode c_Ln_signOfTag 92 = .ok (.getfield 19, 3) := by decide +kernel
theorem d_Ln_signOfTag_95 : decode c_Ln_signOfTag 95 = .ok (.getfield 33, 3) := by decide +kernel
theorem d_Ln_signOfTag_98 : decode c_Ln_signOfTag 98 = .ok (.arraylength, 1) := by decide +kernel
theorem d_Ln_signOfTag_99 : decode c_Ln_signOfTag 99 = .ok (.if_icmp .ge 16, 3) := by decide +kernel
theorem d_Ln_signOfTag_102 : decode c_Ln_signOfTag 102 = .ok (.aload_n 0, 1) := by decide +kernel
theorem d_Ln_signOfTag_103 : decode c_Ln_signOfTag 103 = .ok (.getfield 19, 3) := by decide +kernel
theorem d_Ln_signOfTag_106 : decode c_Ln_signOfTag 106 = .ok (.getfield 33, 3) := by decide +kernel
theorem d_Ln_signOfTag_109 : decode c_Ln_signOfTag 109 = .ok (.iload 4, 2) := by decide +kernel
theorem d_Ln_signOfTag_111 : decode c_Ln_signOfTag 111 = .ok (.caload, 1) := by decide +kernel
theorem d_Ln_signOfTag_112 : decode c_Ln_signOfTag 112 = .ok (.goto 4, 3) := by decide +kernel
theorem d_Ln_signOfTag_115 : decode c_Ln_signOfTag 115 = .ok (.iconst (-1), 1) := by decide +kernel
theorem d_Ln_signOfTag_116 : decode c_Ln_signOfTag 116 = .ok (.ireturn, 1) := by decide +kernel
theorem d_Pl_init_0 : decode c_Pl_init 0 = .ok (.aload_n 0, 1) := by decide +kernel
theorem d_Pl_init_1 : decode c_Pl_init 1 = .ok (.invokespecial 3, 3) := by decide +kernel
theorem d_Pl_init_4 : decode c_Pl_init 4 = .ok (.aload_n 0, 1) := by decide +kernel
theorem d_Pl_init_5 : decode c_Pl_init 5 = .ok (.bipush 60, 2) := by decide +kernel
theorem d_Pl_init_7 : decode c_Pl_init 7 = .ok (.newarray .int, 2) := by decide +kernel
theorem d_Pl_init_9 : decode c_Pl_init 9 = .ok (.putfield 9, 3) := by decide +kernel
theorem d_Pl_init_12 : decode c_Pl_init 12 = .ok (.aload_n 0, 1) := by decide +kernel
theorem d_Pl_init_13 : decode c_Pl_init 13 = .ok (.bipush 60, 2) := by decide +kernel
theorem d_Pl_init_15 : decode c_Pl_init 15 = .ok (.newarray .int, 2) := by decide +kernel
theorem d_Pl_init_17 : decode c_Pl_init 17 = .ok (.putfield 15, 3) := by decide +kernel
theorem d_Pl_init_20 : decode c_Pl_init 20 = .ok (.aload_n 0, 1) := by decide +kernel
theorem d_Pl_init_21 : decode c_Pl_init 21 = .ok (.bipush 60, 2) := by decide +kernel
theorem d_Pl_init_23 : decode c_Pl_init 23 = .ok (.newarray .int, 2) := by decide +kernel
theorem d_Pl_init_25 : decode c_Pl_init 25 = .ok (.putfield 18, 3) := by decide +kernel
theorem d_Pl_init_28 : decode c_Pl_init 28 = .ok (.aload_n 0, 1) := by decide +kernel
theorem d_Pl_init_29 : decode c_Pl_init 29 = .ok (.bipush 60, 2) := by decide +kernel
theorem d_Pl_init_31 : decode c_Pl_init 31 = .ok (.newarray .int, 2) := by decide +kernel
theorem d_Pl_init_33 : decode c_Pl_init 33 = .ok (.putfield 21, 3) := by decide +kernel
theorem d_Pl_init_36 : decode c_Pl_init 36 = .ok (.aload_n 0, 1) := by decide +kernel
theorem d_Pl_init_37 : decode c_Pl_init 37 = .ok (.bipush 60, 2) := by decide +kernel
theorem d_Pl_init_39 : decode c_Pl_init 39 = .ok (.newarray .int, 2) := by decide +kernel
theorem d_Pl_init_41 : decode c_Pl_init 41 = .ok (.putfield 24, 3) := by decide +kernel
theorem d_Pl_init_44 : decode c_Pl_init 44 = .ok (.aload_n 0, 1) := by decide +kernel
theorem d_Pl_init_45 : decode c_Pl_init 45 = .ok (.bipush 60, 2) := by decide +kernel
theorem d_Pl_init_47 : decode c_Pl_init 47 = .ok (.newarray .int, 2) := by decide +kernel
theorem d_Pl_init_49 : decode c_Pl_init 49 = .ok (.putfield 27, 3) := by decide +kernel
theorem d_Pl_init_52 : decode c_Pl_init 52 = .ok (.aload_n 0, 1) := by decide +kernel
theorem d_Pl_init_53 : decode c_Pl_init 53 = .ok (.bipush 60, 2) := by decide +kernel
theorem d_Pl_init_55 : decode c_Pl_init 55 = .ok (.newarray .int, 2) := by decide +kernel
theorem d_Pl_init_57 : decode c_Pl_init 57 = .ok (.putfield 30, 3) := by decide +kernel
theorem d_Pl_init_60 : decode c_Pl_init 60 = .ok (.return_, 1) := by decide +kernel
theorem d_Pl_clear_0 : decode c_Pl_clear 0 = .ok (.aload_n 0, 1) := by decide +kernel
theorem d_Pl_clear_1 : decode c_Pl_clear 1 = .ok (.iconst 0, 1) := by decide +kernel
theorem d_Pl_clear_2 : decode c_Pl_clear 2 = .ok (.putfield 33, 3) := by decide +kernel
theorem d_Pl_clear_5 : decode c_Pl_clear 5 = .ok (.aload_n 0, 1) := by decide +kernel
theorem d_Pl_clear_6 : decode c_Pl_clear 6 = .ok (.iconst 0, 1) := by decide +kernel
theorem d_Pl_clear_7 : decode c_Pl_clear 7 = .ok (.putfield 37, 3) := by decide +kernel
theorem d_Pl_clear_10 : decode c_Pl_clear 10 = .ok (.aload_n 0, 1) := by decide +kernel
theorem d_Pl_clear_11 : decode c_Pl_clear 11 = .ok (.iconst 0, 1) := by decide +kernel
theorem d_Pl_clear_12 : decode c_Pl_clear 12 = .ok (.putfield 40, 3) := by decide +kernel
theorem d_Pl_clear_15 : decode c_Pl_clear 15 = .ok (.aload_n 0, 1) := by decide +kernel
theorem d_Pl_clear_16 : decode c_Pl_clear 16 = .ok (.iconst 0, 1) := by decide +kernel
theorem d_Pl_clear_17 : decode c_Pl_clear 17 = .ok (.putfield 43, 3) := by decide +kernel
theorem d_Pl_clear_20 : decode c_Pl_clear 20 = .ok (.aload_n 0, 1) := by decide +kernel
theorem d_Pl_clear_21 : decode c_Pl_clear 21 = .ok (.iconst 0, 1) := by decide +kernel
theorem d_Pl_clear_22 : decode c_Pl_clear 22 = .ok (.putfield 46, 3) := by decide +kernel
theorem d_Pl_clear_25 : decode c_Pl_clear 25 = .ok (.return_, 1) := by decide +kernel
theorem d_Pl_addPiece_0 : decode c_Pl_addPiece 0 = .ok (.aload_n 0, 1) := by decide +kernel
theorem d_Pl_addPiece_1 : decode c_Pl_addPiece 1 = .ok (.getfield 33, 3) := by decide +kernel
theorem d_Pl_addPiece_4 : decode c_Pl_addPiece 4 = .ok (.bipush 60, 2) := by decide +kernel
theorem d_Pl_addPiece_6 : decode c_Pl_addPiece 6 = .ok (.if_icmp .lt 4, 3) := by decide +kernel
theorem d_Pl_addPiece_9 : decode c_Pl_addPiece 9 = .ok (.return_, 1) := by decide +kernel
theorem d_Pl_addPiece_10 : decode c_Pl_addPiece 10 = .ok (.aload_n 0, 1) := by decide +kernel
theorem d_Pl_addPiece_11 : decode c_Pl_addPiece 11 = .ok (.getfield 33, 3) := by decide +kernel
theorem d_Pl_addPiece_14 : decode c_Pl_addPiece 14 = .ok (.istore 4, 2) := by decide +kernel
theorem d_Pl_addPiece_16 : decode c_Pl_addPiece 16 = .ok (.iload 4, 2) := by decide +kernel
theorem d_Pl_addPiece_18 : decode c_Pl_addPiece 18 = .ok (.iload_n 1, 1) := by decide +kernel
theorem d_Pl_addPiece_19 : decode c_Pl_addPiece 19 = .ok (.if_icmp .le 54, 3) := by decide +kernel
theorem d_Pl_addPiece_22 : decode c_Pl_addPiece 22 = .ok (.aload_n 0, 1) := by decide +kernel
theorem d_Pl_addPiece_23 : decode c_Pl_addPiece 23 = .ok (.getfield 15, 3) := by decide +kernel
theorem d_Pl_addPiece_26 : decode c_Pl_addPiece 26 = .ok (.iload 4, 2) := by decide +kernel
theorem d_Pl_addPiece_28 : decode c_Pl_addPiece 28 = .ok (.iconst 1, 1) := by decide +kernel
theorem d_Pl_addPiece_29 : decode c_Pl_addPiece 29 = .ok (.isub, 1) := by decide +kernel
theorem d_Pl_addPiece_30 : decode c_Pl_addPiece 30 = .ok (.iaload, 1) := by decide +kernel
theorem d_Pl_addPiece_31 : decode c_Pl_addPiece 31 = .ok (.iload_n 3, 1) := by decide +kernel
theorem d_Pl_addPiece_32 : decode c_Pl_addPiece 32 = .ok (.if_icmp .ge 41, 3) := by decide +kernel
theorem d_Pl_addPiece_35 : decode c_Pl_addPiece 35 = .ok (.aload_n 0, 1) := by decide +kernel
theorem d_Pl_addPiece_36 : decode c_Pl_addPiece 36 = .ok (.getfield 9, 3) := by decide +kernel
theorem d_Pl_addPiece_39 : decode c_Pl_addPiece 39 = .ok (.iload 4, 2) := by decide +kernel
theorem d_Pl_addPiece_41 : decode c_Pl_addPiece 41 = .ok (.aload_n 0, 1) := by decide +kernel
theorem d_Pl_addPiece_42 : decode c_Pl_addPiece 42 = .ok (.getfield 9, 3) := by decide +kernel
theorem d_Pl_addPiece_45 : decode c_Pl_addPiece 45 = .ok (.iload 4, 2) := by decide +kernel
theorem d_Pl_addPiece_47 : decode c_Pl_addPiece 47 = .ok (.iconst 1, 1) := by decide +kernel
theorem d_Pl_addPiece_48 : decode c_Pl_addPiece 48 = .ok (.isub, 1) := by decide +kernel
theorem d_Pl_addPiece_49 : decode c_Pl_addPiece 49 = .ok (.iaload, 1) := by decide +kernel
theorem d_Pl_addPiece_50 : decode c_Pl_addPiece 50 = .ok (.iastore, 1) := by decide +kernel
theorem d_Pl_addPiece_51 : decode c_Pl_addPiece 51 = .ok (.aload_n 0, 1) := by decide +kernel
theorem d_Pl_addPiece_52 : decode c_Pl_addPiece 52 = .ok (.getfield 15, 3) := by decide +kernel
theorem d_Pl_addPiece_55 : decode c_Pl_addPiece 55 = .ok (.iload 4, 2) := by decide +kernel
theorem d_Pl_addPiece_57 : decode c_Pl_addPiece 57 = .ok (.aload_n 0, 1) := by decide +kernel
theorem d_Pl_addPiece_58 : decode c_Pl_addPiece 58 = .ok (.getfield 15, 3) := by decide +kernel
theorem d_Pl_addPiece_61 : decode c_Pl_addPiece 61 = .ok (.iload 4, 2) := by decide +kernel
theorem d_Pl_addPiece_63 : decode c_Pl_addPiece 63 = .ok (.iconst 1, 1) := by decide +kernel
theorem d_Pl_addPiece_64 : decode c_Pl_addPiece 64 = .ok (.isub, 1) := by decide +kernel
theorem d_Pl_addPiece_65 : decode c_Pl_addPiece 65 = .ok (.iaload, 1) := by decide +kernel
theorem d_Pl_addPiece_66 : decode c_Pl_addPiece 66 = .ok (.iastore, 1) := by decide +kernel
theorem d_Pl_addPiece_67 : decode c_Pl_addPiece 67 = .ok (.iinc 4 (-1), 3) := by decide +kernel
theorem d_Pl_addPiece_70 : decode c_Pl_addPiece 70 = .ok (.goto (-54), 3) := by decide +kernel
theorem d_Pl_addPiece_73 : decode c_Pl_addPiece 73 = .ok (.aload_n 0, 1) := by decide +kernel
theorem d_Pl_addPiece_74 : decode c_Pl_addPiece 74 = .ok (.getfield 9, 3) := by decide +kernel
theorem d_Pl_addPiece_77 : decode c_Pl_addPiece 77 = .ok (.iload 4, 2) := by decide +kernel
theorem d_Pl_addPiece_79 : decode c_Pl_addPiece 79 = .ok (.iload_n 2, 1) := by decide +kernel
theorem d_Pl_addPiece_80 : decode c_Pl_addPiece 80 = .ok (.iastore, 1) := by decide +kernel
theorem d_Pl_addPiece_81 : decode c_Pl_addPiece 81 = .ok (.aload_n 0, 1) := by decide +kernel
theorem d_Pl_addPiece_82 : decode c_Pl_addPiece 82 = .ok (.getfield 15, 3) := by decide +kernel
theorem d_Pl_addPiece_85 : decode c_Pl_addPiece 85 = .ok (.iload 4, 2) := by decide +kernel
theorem d_Pl_addPiece_87 : decode c_Pl_addPiece 87 = .ok (.iload_n 3, 1) := by decide +kernel
theorem d_Pl_addPiece_88 : decode c_Pl_addPiece 88 = .ok (.iastore, 1) := by decide +kernel
theorem d_Pl_addPiece_89 : decode c_Pl_addPiece 89 = .ok (.aload_n 0, 1) := by decide +kernel
theorem d_Pl_addPiece_90 : decode c_Pl_addPiece 90 = .ok (.dup, 1) := by decide +kernel
theorem d_Pl_addPiece_91 : decode c_Pl_addPiece 91 = .ok (.getfield 33, 3) := by decide +kernel
theorem d_Pl_addPiece_94 : decode c_Pl_addPiece 94 = .ok (.iconst 1, 1) := by decide +kernel
theorem d_Pl_addPiece_95 : decode c_Pl_addPiece 95 = .ok (.iadd, 1) := by decide +kernel
theorem d_Pl_addPiece_96 : decode c_Pl_addPiece 96 = .ok (.putfield 33, 3) := by decide +kernel
theorem d_Pl_addPiece_99 : decode c_Pl_addPiece 99 = .ok (.return_, 1) := by decide +kernel
theorem d_Pl_openBar_0 : decode c_Pl_openBar 0 = .ok (.aload_n 0, 1) := by decide +kernel
theorem d_Pl_openBar_1 : decode c_Pl_openBar 1 = .ok (.getfield 37, 3) := by decide +kernel
theorem d_Pl_openBar_4 : decode c_Pl_openBar 4 = .ok (.bipush 60, 2) := by decide +kernel
theorem d_Pl_openBar_6 : decode c_Pl_openBar 6 = .ok (.if_icmp .lt 6, 3) := by decide +kernel
theorem d_Pl_openBar_9 : decode c_Pl_openBar 9 = .ok (.bipush (-2), 2) := by decide +kernel
theorem d_Pl_openBar_11 : decode c_Pl_openBar 11 = .ok (.ireturn, 1) := by decide +kernel
theorem d_Pl_openBar_12 : decode c_Pl_openBar 12 = .ok (.aload_n 0, 1) := by decide +kernel
theorem d_Pl_openBar_13 : decode c_Pl_openBar 13 = .ok (.getfield 21, 3) := by decide +kernel
theorem d_Pl_openBar_16 : decode c_Pl_openBar 16 = .ok (.aload_n 0, 1) := by decide +kernel
theorem d_Pl_openBar_17 : decode c_Pl_openBar 17 = .ok (.getfield 37, 3) := by decide +kernel
theorem d_Pl_openBar_20 : decode c_Pl_openBar 20 = .ok (.iload_n 1, 1) := by decide +kernel
theorem d_Pl_openBar_21 : decode c_Pl_openBar 21 = .ok (.iastore, 1) := by decide +kernel
theorem d_Pl_openBar_22 : decode c_Pl_openBar 22 = .ok (.aload_n 0, 1) := by decide +kernel
theorem d_Pl_openBar_23 : decode c_Pl_openBar 23 = .ok (.getfield 24, 3) := by decide +kernel
theorem d_Pl_openBar_26 : decode c_Pl_openBar 26 = .ok (.aload_n 0, 1) := by decide +kernel
theorem d_Pl_openBar_27 : decode c_Pl_openBar 27 = .ok (.getfield 37, 3) := by decide +kernel
theorem d_Pl_openBar_30 : decode c_Pl_openBar 30 = .ok (.iload_n 2, 1) := by decide +kernel
theorem d_Pl_openBar_31 : decode c_Pl_openBar 31 = .ok (.iastore, 1) := by decide +kernel
theorem d_Pl_openBar_32 : decode c_Pl_openBar 32 = .ok (.aload_n 0, 1) := by decide +kernel
theorem d_Pl_openBar_33 : decode c_Pl_openBar 33 = .ok (.getfield 27, 3) := by decide +kernel
theorem d_Pl_openBar_36 : decode c_Pl_openBar 36 = .ok (.aload_n 0, 1) := by decide +kernel
theorem d_Pl_openBar_37 : decode c_Pl_openBar 37 = .ok (.getfield 37, 3) := by decide +kernel
theorem d_Pl_openBar_40 : decode c_Pl_openBar 40 = .ok (.iload_n 2, 1) := by decide +kernel
theorem d_Pl_openBar_41 : decode c_Pl_openBar 41 = .ok (.iastore, 1) := by decide +kernel
theorem d_Pl_openBar_42 : decode c_Pl_openBar 42 = .ok (.aload_n 0, 1) := by decide +kernel
theorem d_Pl_openBar_43 : decode c_Pl_openBar 43 = .ok (.getfield 30, 3) := by decide +kernel
theorem d_Pl_openBar_46 : decode c_Pl_openBar 46 = .ok (.aload_n 0, 1) := by decide +kernel
theorem d_Pl_openBar_47 : decode c_Pl_openBar 47 = .ok (.getfield 37, 3) := by decide +kernel
theorem d_Pl_openBar_50 : decode c_Pl_openBar 50 = .ok (.iconst 0, 1) := by decide +kernel
theorem d_Pl_openBar_51 : decode c_Pl_openBar 51 = .ok (.iastore, 1) := by decide +kernel
theorem d_Pl_openBar_52 : decode c_Pl_openBar 52 = .ok (.aload_n 0, 1) := by decide +kernel
theorem d_Pl_openBar_53 : decode c_Pl_openBar 53 = .ok (.dup, 1) := by decide +kernel
theorem d_Pl_openBar_54 : decode c_Pl_openBar 54 = .ok (.getfield 37, 3) := by decide +kernel
theorem d_Pl_openBar_57 : decode c_Pl_openBar 57 = .ok (.iconst 1, 1) := by decide +kernel
theorem d_Pl_openBar_58 : decode c_Pl_openBar 58 = .ok (.iadd, 1) := by decide +kernel
theorem d_Pl_openBar_59 : decode c_Pl_openBar 59 = .ok (.putfield 37, 3) := by decide +kernel
theorem d_Pl_openBar_62 : decode c_Pl_openBar 62 = .ok (.aload_n 0, 1) := by decide +kernel
theorem d_Pl_openBar_63 : decode c_Pl_openBar 63 = .ok (.getfield 37, 3) := by decide +kernel
theorem d_Pl_openBar_66 : decode c_Pl_openBar 66 = .ok (.iconst 1, 1) := by decide +kernel
theorem d_Pl_openBar_67 : decode c_Pl_openBar 67 = .ok (.isub, 1) := by decide +kernel
theorem d_Pl_openBar_68 : decode c_Pl_openBar 68 = .ok (.ireturn, 1) := by decide +kernel
theorem d_Pl_putPiece_0 : decode c_Pl_putPiece 0 = .ok (.aload_n 0, 1) := by decide +kernel
theorem d_Pl_putPiece_1 : decode c_Pl_putPiece 1 = .ok (.getfield 18, 3) := by decide +kernel
theorem d_Pl_putPiece_4 : decode c_Pl_putPiece 4 = .ok (.iload_n 1, 1) := by decide +kernel
theorem d_Pl_putPiece_5 : decode c_Pl_putPiece 5 = .ok (.iload_n 2, 1) := by decide +kernel
theorem d_Pl_putPiece_6 : decode c_Pl_putPiece 6 = .ok (.iastore, 1) := by decide +kernel
theorem d_Pl_putPiece_7 : decode c_Pl_putPiece 7 = .ok (.aload_n 0, 1) := by decide +kernel
theorem d_Pl_putPiece_8 : decode c_Pl_putPiece 8 = .ok (.getfield 27, 3) := by decide +kernel
theorem d_Pl_putPiece_11 : decode c_Pl_putPiece 11 = .ok (.iload_n 2, 1) := by decide +kernel
theorem d_Pl_putPiece_12 : decode c_Pl_putPiece 12 = .ok (.dup2, 1) := by decide +kernel
theorem d_Pl_putPiece_13 : decode c_Pl_putPiece 13 = .ok (.iaload, 1) := by decide +kernel
theorem d_Pl_putPiece_14 : decode c_Pl_putPiece 14 = .ok (.aload_n 0, 1) := by decide +kernel
theorem d_Pl_putPiece_15 : decode c_Pl_putPiece 15 = .ok (.getfield 15, 3) := by decide +kernel
theorem d_Pl_putPiece_18 : decode c_Pl_putPiece 18 = .ok (.iload_n 1, 1) := by decide +kernel
theorem d_Pl_putPiece_19 : decode c_Pl_putPiece 19 = .ok (.iaload, 1) := by decide +kernel
theorem d_Pl_putPiece_20 : decode c_Pl_putPiece 20 = .ok (.isub, 1) := by decide +kernel
theorem d_Pl_putPiece_21 : decode c_Pl_putPiece 21 = .ok (.iastore, 1) := by decide +kernel
theorem d_Pl_putPiece_22 : decode c_Pl_putPiece 22 = .ok (.aload_n 0, 1) := by decide +kernel
theorem d_Pl_putPiece_23 : decode c_Pl_putPiece 23 = .ok (.getfield 30, 3) := by decide +kernel
theorem d_Pl_putPiece_26 : decode c_Pl_putPiece 26 = .ok (.iload_n 2, 1) := by decide +kernel
theorem d_Pl_putPiece_27 : decode c_Pl_putPiece 27 = .ok (.dup2, 1) := by decide +kernel
theorem d_Pl_putPiece_28 : decode c_Pl_putPiece 28 = .ok (.iaload, 1) := by decide +kernel
theorem d_Pl_putPiece_29 : decode c_Pl_putPiece 29 = .ok (.iconst 1, 1) := by decide +kernel
theorem d_Pl_putPiece_30 : decode c_Pl_putPiece 30 = .ok (.iadd, 1) := by decide +kernel
theorem d_Pl_putPiece_31 : decode c_Pl_putPiece 31 = .ok (.iastore, 1) := by decide +kernel
theorem d_Pl_putPiece_32 : decode c_Pl_putPiece 32 = .ok (.return_, 1) := by decide +kernel
theorem d_Pl_lineOfPiece_0 : decode c_Pl_lineOfPiece 0 = .ok (.iconst 0, 1) := by decide +kernel
theorem d_Pl_lineOfPiece_1 : decode c_Pl_lineOfPiece 1 = .ok (.istore_n 3, 1) := by decide +kernel
theorem d_Pl_lineOfPiece_2 : decode c_Pl_lineOfPiece 2 = .ok (.iconst 0, 1) := by decide +kernel
theorem d_Pl_lineOfPiece_3 : decode c_Pl_lineOfPiece 3 = .ok (.istore 4, 2) := by decide +kernel
theorem d_Pl_lineOfPiece_5 : decode c_Pl_lineOfPiece 5 = .ok (.iload 4, 2) := by decide +kernel
theorem d_Pl_lineOfPiece_7 : decode c_Pl_lineOfPiece 7 = .ok (.aload_n 0, 1) := by decide +kernel
theorem d_Pl_lineOfPiece_8 : decode c_Pl_lineOfPiece 8 = .ok (.getfield 33, 3) := by decide +kernel
theorem d_Pl_lineOfPiece_11 : decode c_Pl_lineOfPiece 11 = .ok (.if_icmp .ge 36, 3) := by decide +kernel
theorem d_Pl_lineOfPiece_14 : decode c_Pl_lineOfPiece 14 = .ok (.aload_n 0, 1) := by decide +kernel
theorem d_Pl_lineOfPiece_15 : decode c_Pl_lineOfPiece 15 = .ok (.getfield 18, 3) := by decide +kernel
theorem d_Pl_lineOfPiece_18 : decode c_Pl_lineOfPiece 18 = .ok (.iload 4, 2) := by decide +kernel
theorem d_Pl_lineOfPiece_20 : decode c_Pl_lineOfPiece 20 = .ok (.iaload, 1) := by decide +kernel
theorem d_Pl_lineOfPiece_21 : decode c_Pl_lineOfPiece 21 = .ok (.iload_n 1, 1) := by decide +kernel
theorem d_Pl_lineOfPiece_22 : decode c_Pl_lineOfPiece 22 = .ok (.if_icmp .ne 19, 3) := by decide +kernel
theorem d_Pl_lineOfPiece_25 : decode c_Pl_lineOfPiece 25 = .ok (.iload_n 3, 1) := by decide +kernel
theorem d_Pl_lineOfPiece_26 : decode c_Pl_lineOfPiece 26 = .ok (.iload_n 2, 1) := by decide +kernel
theorem d_Pl_lineOfPiece_27 : decode c_Pl_lineOfPiece 27 = .ok (.if_icmp .ne 11, 3) := by decide +kernel
theorem d_Pl_lineOfPiece_30 : decode c_Pl_lineOfPiece 30 = .ok (.aload_n 0, 1) := by decide +kernel
theorem d_Pl_lineOfPiece_31 : decode c_Pl_lineOfPiece 31 = .ok (.getfield 9, 3) := by decide +kernel
theorem d_Pl_lineOfPiece_34 : decode c_Pl_lineOfPiece 34 = .ok (.iload 4, 2) := by decide +kernel
theorem d_Pl_lineOfPiece_36 : decode c_Pl_lineOfPiece 36 = .ok (.iaload, 1) := by decide +kernel
theorem d_Pl_lineOfPiece_37 : decode c_Pl_lineOfPiece 37 = .ok (.ireturn, 1) := by decide +kernel
theorem d_Pl_lineOfPiece_38 : decode c_Pl_lineOfPiece 38 = .ok (.iinc 3 1, 3) := by decide +kernel
theorem d_Pl_lineOfPiece_41 : decode c_Pl_lineOfPiece 41 = .ok (.iinc 4 1, 3) := by decide +kernel
theorem d_Pl_lineOfPiece_44 : decode c_Pl_lineOfPiece 44 = .ok (.goto (-39), 3) := by decide +kernel
theorem d_Pl_lineOfPiece_47 : decode c_Pl_lineOfPiece 47 = .ok (.iconst (-1), 1) := by decide +kernel
theorem d_Pl_lineOfPiece_48 : decode c_Pl_lineOfPiece 48 = .ok (.ireturn, 1) := by decide +kernel
theorem d_Pl_sumOfBars_0 : decode c_Pl_sumOfBars 0 = .ok (.iconst 0, 1) := by decide +kernel
theorem d_Pl_sumOfBars_1 : decode c_Pl_sumOfBars 1 = .ok (.istore_n 1, 1) := by decide +kernel
theorem d_Pl_sumOfBars_2 : decode c_Pl_sumOfBars 2 = .ok (.iconst 0, 1) := by decide +kernel
theorem d_Pl_sumOfBars_3 : decode c_Pl_sumOfBars 3 = .ok (.istore_n 2, 1) := by decide +kernel
theorem d_Pl_sumOfBars_4 : decode c_Pl_sumOfBars 4 = .ok (.iload_n 2, 1) := by decide +kernel
theorem d_Pl_sumOfBars_5 : decode c_Pl_sumOfBars 5 = .ok (.aload_n 0, 1) := by decide +kernel
theorem d_Pl_sumOfBars_6 : decode c_Pl_sumOfBars 6 = .ok (.getfield 37, 3) := by decide +kernel
theorem d_Pl_sumOfBars_9 : decode c_Pl_sumOfBars 9 = .ok (.if_icmp .ge 18, 3) := by decide +kernel
theorem d_Pl_sumOfBars_12 : decode c_Pl_sumOfBars 12 = .ok (.iload_n 1, 1) := by decide +kernel
theorem d_Pl_sumOfBars_13 : decode c_Pl_sumOfBars 13 = .ok (.aload_n 0, 1) := by decide +kernel
theorem d_Pl_sumOfBars_14 : decode c_Pl_sumOfBars 14 = .ok (.getfield 24, 3) := by decide +kernel
theorem d_Pl_sumOfBars_17 : decode c_Pl_sumOfBars 17 = .ok (.iload_n 2, 1) := by decide +kernel
theorem d_Pl_sumOfBars_18 : decode c_Pl_sumOfBars 18 = .ok (.iaload, 1) := by decide +kernel
theorem d_Pl_sumOfBars_19 : decode c_Pl_sumOfBars 19 = .ok (.iadd, 1) := by decide +kernel
theorem d_Pl_sumOfBars_20 : decode c_Pl_sumOfBars 20 = .ok (.istore_n 1, 1) := by decide +kernel
theorem d_Pl_sumOfBars_21 : decode c_Pl_sumOfBars 21 = .ok (.iinc 2 1, 3) := by decide +kernel
theorem d_Pl_sumOfBars_24 : decode c_Pl_sumOfBars 24 = .ok (.goto (-20), 3) := by decide +kernel
theorem d_Pl_sumOfBars_27 : decode c_Pl_sumOfBars 27 = .ok (.iload_n 1, 1) := by decide +kernel
theorem d_Pl_sumOfBars_28 : decode c_Pl_sumOfBars 28 = .ok (.ireturn, 1) := by decide +kernel
theorem d_Pl_sumOfPieces_0 : decode c_Pl_sumOfPieces 0 = .ok (.iconst 0, 1) := by decide +kernel
theorem d_Pl_sumOfPieces_1 : decode c_Pl_sumOfPieces 1 = .ok (.istore_n 1, 1) := by decide +kernel
theorem d_Pl_sumOfPieces_2 : decode c_Pl_sumOfPieces 2 = .ok (.iconst 0, 1) := by decide +kernel
theorem d_Pl_sumOfPieces_3 : decode c_Pl_sumOfPieces 3 = .ok (.istore_n 2, 1) := by decide +kernel
theorem d_Pl_sumOfPieces_4 : decode c_Pl_sumOfPieces 4 = .ok (.iload_n 2, 1) := by decide +kernel
theorem d_Pl_sumOfPieces_5 : decode c_Pl_sumOfPieces 5 = .ok (.aload_n 0, 1) := by decide +kernel
theorem d_Pl_sumOfPieces_6 : decode c_Pl_sumOfPieces 6 = .ok (.getfield 33, 3) := by decide +kernel
theorem d_Pl_sumOfPieces_9 : decode c_Pl_sumOfPieces 9 = .ok (.if_icmp .ge 18, 3) := by decide +kernel
theorem d_Pl_sumOfPieces_12 : decode c_Pl_sumOfPieces 12 = .ok (.iload_n 1, 1) := by decide +kernel
theorem d_Pl_sumOfPieces_13 : decode c_Pl_sumOfPieces 13 = .ok (.aload_n 0, 1) := by decide +kernel
theorem d_Pl_sumOfPieces_14 : decode c_Pl_sumOfPieces 14 = .ok (.getfield 15, 3) := by decide +kernel
theorem d_Pl_sumOfPieces_17 : decode c_Pl_sumOfPieces 17 = .ok (.iload_n 2, 1) := by decide +kernel
theorem d_Pl_sumOfPieces_18 : decode c_Pl_sumOfPieces 18 = .ok (.iaload, 1) := by decide +kernel
theorem d_Pl_sumOfPieces_19 : decode c_Pl_sumOfPieces 19 = .ok (.iadd, 1) := by decide +kernel
theorem d_Pl_sumOfPieces_20 : decode c_Pl_sumOfPieces 20 = .ok (.istore_n 1, 1) := by decide +kernel
theorem d_Pl_sumOfPieces_21 : decode c_Pl_sumOfPieces 21 = .ok (.iinc 2 1, 3) := by decide +kernel
theorem d_Pl_sumOfPieces_24 : decode c_Pl_sumOfPieces 24 = .ok (.goto (-20), 3) := by decide +kernel
theorem d_Pl_sumOfPieces_27 : decode c_Pl_sumOfPieces 27 = .ok (.iload_n 1, 1) := by decide +kernel
theorem d_Pl_sumOfPieces_28 : decode c_Pl_sumOfPieces 28 = .ok (.ireturn, 1) := by decide +kernel
theorem d_Sh_init_0 : decode c_Sh_init 0 = .ok (.aload_n 0, 1) := by decide +kernel
theorem d_Sh_init_1 : decode c_Sh_init 1 = .ok (.invokespecial 1, 3) := by decide +kernel
theorem d_Sh_init_4 : decode c_Sh_init 4 = .ok (.aload_n 0, 1) := by decide +kernel
theorem d_Sh_init_5 : decode c_Sh_init 5 = .ok (.aload_n 1, 1) := by decide +kernel
theorem d_Sh_init_6 : decode c_Sh_init 6 = .ok (.putfield 7, 3) := by decide +kernel
theorem d_Sh_init_9 : decode c_Sh_init 9 = .ok (.aload_n 0, 1) := by decide +kernel
theorem d_Sh_init_10 : decode c_Sh_init 10 = .ok (.aload_n 1, 1) := by decide +kernel
theorem d_Sh_init_11 : decode c_Sh_init 11 = .ok (.arraylength, 1) := by decide +kernel
theorem d_Sh_init_12 : decode c_Sh_init 12 = .ok (.iconst 1, 1) := by decide +kernel
theorem d_Sh_init_13 : decode c_Sh_init 13 = .ok (.iadd, 1) := by decide +kernel
theorem d_Sh_init_14 : decode c_Sh_init 14 = .ok (.iconst 2, 1) := by decide +kernel
theorem d_Sh_init_15 : decode c_Sh_init 15 = .ok (.idiv, 1) := by decide +kernel
theorem d_Sh_init_16 : decode c_Sh_init 16 = .ok (.putfield 13, 3) := by decide +kernel
theorem d_Sh_init_19 : decode c_Sh_init 19 = .ok (.aload_n 0, 1) := by decide +kernel
theorem d_Sh_init_20 : decode c_Sh_init 20 = .ok (.iload_n 2, 1) := by decide +kernel
theorem d_Sh_init_21 : decode c_Sh_init 21 = .ok (.putfield 17, 3) := by decide +kernel
theorem d_Sh_init_24 : decode c_Sh_init 24 = .ok (.return_, 1) := by decide +kernel
theorem d_Sh_bendBefore_0 : decode c_Sh_bendBefore 0 = .ok (.iconst 2, 1) := by decide +kernel
theorem d_Sh_bendBefore_1 : decode c_Sh_bendBefore 1 = .ok (.iload_n 1, 1) := by decide +kernel
theorem d_Sh_bendBefore_2 : decode c_Sh_bendBefore 2 = .ok (.imul, 1) := by decide +kernel
theorem d_Sh_bendBefore_3 : decode c_Sh_bendBefore 3 = .ok (.iconst 1, 1) := by decide +kernel
theorem d_Sh_bendBefore_4 : decode c_Sh_bendBefore 4 = .ok (.isub, 1) := by decide +kernel
theorem d_Sh_bendBefore_5 : decode c_Sh_bendBefore 5 = .ok (.istore_n 2, 1) := by decide +kernel
theorem d_Sh_bendBefore_6 : decode c_Sh_bendBefore 6 = .ok (.iload_n 2, 1) := by decide +kernel
theorem d_Sh_bendBefore_7 : decode c_Sh_bendBefore 7 = .ok (.ifCond .le 21, 3) := by decide +kernel
theorem d_Sh_bendBefore_10 : decode c_Sh_bendBefore 10 = .ok (.iload_n 2, 1) := by decide +kernel
theorem d_Sh_bendBefore_11 : decode c_Sh_bendBefore 11 = .ok (.aload_n 0, 1) := by decide +kernel
theorem d_Sh_bendBefore_12 : decode c_Sh_bendBefore 12 = .ok (.getfield 7, 3) := by decide +kernel
theorem d_Sh_bendBefore_15 : decode c_Sh_bendBefore 15 = .ok (.arraylength, 1) := by decide +kernel
theorem d_Sh_bendBefore_16 : decode c_Sh_bendBefore 16 = .ok (.if_icmp .ge 12, 3) := by decide +kernel
theorem d_Sh_bendBefore_19 : decode c_Sh_bendBefore 19 = .ok (.aload_n 0, 1) := by decide +kernel
theorem d_Sh_bendBefore_20 : decode c_Sh_bendBefore 20 = .ok (.getfield 7, 3) := by decide +kernel
theorem d_Sh_bendBefore_23 : decode c_Sh_bendBefore 23 = .ok (.iload_n 2, 1) := by decide +kernel
theorem d_Sh_bendBefore_24 : decode c_Sh_bendBefore 24 = .ok (.caload, 1) := by decide +kernel
theorem d_Sh_bendBefore_25 : decode c_Sh_bendBefore 25 = .ok (.goto 5, 3) := by decide +kernel
theorem d_Sh_bendBefore_28 : decode c_Sh_bendBefore 28 = .ok (.bipush 32, 2) := by decide +kernel
theorem d_Sh_bendBefore_30 : decode c_Sh_bendBefore 30 = .ok (.ireturn, 1) := by decide +kernel
theorem d_Sf_init_0 : decode c_Sf_init 0 = .ok (.aload_n 0, 1) := by decide +kernel
theorem d_Sf_init_1 : decode c_Sf_init 1 = .ok (.invokespecial 3, 3) := by decide +kernel
theorem d_Sf_init_4 : decode c_Sf_init 4 = .ok (.aload_n 0, 1) := by decide +kernel
theorem d_Sf_init_5 : decode c_Sf_init 5 = .ok (.iconst 3, 1) := by decide +kernel
theorem d_Sf_init_6 : decode c_Sf_init 6 = .ok (.newarray .int, 2) := by decide +kernel
theorem d_Sf_init_8 : decode c_Sf_init 8 = .ok (.putfield 9, 3) := by decide +kernel
theorem d_Sf_init_11 : decode c_Sf_init 11 = .ok (.aload_n 0, 1) := by decide +kernel
theorem d_Sf_init_12 : decode c_Sf_init 12 = .ok (.iconst 3, 1) := by decide +kernel
theorem d_Sf_init_13 : decode c_Sf_init 13 = .ok (.newarray .int, 2) := by decide +kernel
theorem d_Sf_init_15 : decode c_Sf_init 15 = .ok (.putfield 15, 3) := by decide +kernel
theorem d_Sf_init_18 : decode c_Sf_init 18 = .ok (.return_, 1) := by decide +kernel
theorem d_Sf_add_0 : decode c_Sf_add 0 = .ok (.aload_n 0, 1) := by decide +kernel
theorem d_Sf_add_1 : decode c_Sf_add 1 = .ok (.getfield 18, 3) := by decide +kernel
theorem d_Sf_add_4 : decode c_Sf_add 4 = .ok (.iconst 3, 1) := by decide +kernel
theorem d_Sf_add_5 : decode c_Sf_add 5 = .ok (.if_icmp .lt 5, 3) := by decide +kernel
theorem d_Sf_add_8 : decode c_Sf_add 8 = .ok (.iconst 0, 1) := by decide +kernel
theorem d_Sf_add_9 : decode c_Sf_add 9 = .ok (.ireturn, 1) := by decide +kernel
theorem d_Sf_add_10 : decode c_Sf_add 10 = .ok (.aload_n 0, 1) := by decide +kernel
theorem d_Sf_add_11 : decode c_Sf_add 11 = .ok (.getfield 9, 3) := by decide +kernel
theorem d_Sf_add_14 : decode c_Sf_add 14 = .ok (.aload_n 0, 1) := by decide +kernel
theorem d_Sf_add_15 : decode c_Sf_add 15 = .ok (.getfield 18, 3) := by decide +kernel
theorem d_Sf_add_18 : decode c_Sf_add 18 = .ok (.iload_n 1, 1) := by decide +kernel
theorem d_Sf_add_19 : decode c_Sf_add 19 = .ok (.iastore, 1) := by decide +kernel
theorem d_Sf_add_20 : decode c_Sf_add 20 = .ok (.aload_n 0, 1) := by decide +kernel
theorem d_Sf_add_21 : decode c_Sf_add 21 = .ok (.getfield 15, 3) := by decide +kernel
theorem d_Sf_add_24 : decode c_Sf_add 24 = .ok (.aload_n 0, 1) := by decide +kernel
theorem d_Sf_add_25 : decode c_Sf_add 25 = .ok (.getfield 18, 3) := by decide +kernel
theorem d_Sf_add_28 : decode c_Sf_add 28 = .ok (.iload_n 2, 1) := by decide +kernel
theorem d_Sf_add_29 : decode c_Sf_add 29 = .ok (.iastore, 1) := by decide +kernel
theorem d_Sf_add_30 : decode c_Sf_add 30 = .ok (.aload_n 0, 1) := by decide +kernel
theorem d_Sf_add_31 : decode c_Sf_add 31 = .ok (.dup, 1) := by decide +kernel
theorem d_Sf_add_32 : decode c_Sf_add 32 = .ok (.getfield 18, 3) := by decide +kernel
theorem d_Sf_add_35 : decode c_Sf_add 35 = .ok (.iconst 1, 1) := by decide +kernel
theorem d_Sf_add_36 : decode c_Sf_add 36 = .ok (.iadd, 1) := by decide +kernel
theorem d_Sf_add_37 : decode c_Sf_add 37 = .ok (.putfield 18, 3) := by decide +kernel
theorem d_Sf_add_40 : decode c_Sf_add 40 = .ok (.iconst 1, 1) := by decide +kernel
theorem d_Sf_add_41 : decode c_Sf_add 41 = .ok (.ireturn, 1) := by decide +kernel
theorem d_Sf_greatest_0 : decode c_Sf_greatest 0 = .ok (.iconst 0, 1) := by decide +kernel
theorem d_Sf_greatest_1 : decode c_Sf_greatest 1 = .ok (.istore_n 1, 1) := by decide +kernel
theorem d_Sf_greatest_2 : decode c_Sf_greatest 2 = .ok (.iconst 0, 1) := by decide +kernel
theorem d_Sf_greatest_3 : decode c_Sf_greatest 3 = .ok (.istore_n 2, 1) := by decide +kernel
theorem d_Sf_greatest_4 : decode c_Sf_greatest 4 = .ok (.iload_n 2, 1) := by decide +kernel
theorem d_Sf_greatest_5 : decode c_Sf_greatest 5 = .ok (.aload_n 0, 1) := by decide +kernel
theorem d_Sf_greatest_6 : decode c_Sf_greatest 6 = .ok (.getfield 18, 3) := by decide +kernel
theorem d_Sf_greatest_9 : decode c_Sf_greatest 9 = .ok (.if_icmp .ge 20, 3) := by decide +kernel
theorem d_Sf_greatest_12 : decode c_Sf_greatest 12 = .ok (.iload_n 1, 1) := by decide +kernel
theorem d_Sf_greatest_13 : decode c_Sf_greatest 13 = .ok (.aload_n 0, 1) := by decide +kernel
theorem d_Sf_greatest_14 : decode c_Sf_greatest 14 = .ok (.getfield 9, 3) := by decide +kernel
theorem d_Sf_greatest_17 : decode c_Sf_greatest 17 = .ok (.iload_n 2, 1) := by decide +kernel
theorem d_Sf_greatest_18 : decode c_Sf_greatest 18 = .ok (.iaload, 1) := by decide +kernel
theorem d_Sf_greatest_19 : decode c_Sf_greatest 19 = .ok (.invokestatic 22, 3) := by decide +kernel
theorem d_Sf_greatest_22 : decode c_Sf_greatest 22 = .ok (.istore_n 1, 1) := by decide +kernel
theorem d_Sf_greatest_23 : decode c_Sf_greatest 23 = .ok (.iinc 2 1, 3) := by decide +kernel
theorem d_Sf_greatest_26 : decode c_Sf_greatest 26 = .ok (.goto (-22), 3) := by decide +kernel
theorem d_Sf_greatest_29 : decode c_Sf_greatest 29 = .ok (.iload_n 1, 1) := by decide +kernel
theorem d_Sf_greatest_30 : decode c_Sf_greatest 30 = .ok (.ireturn, 1) := by decide +kernel
theorem d_Sg_init_0 : decode c_Sg_init 0 = .ok (.aload_n 0, 1) := by decide +kernel
theorem d_Sg_init_1 : decode c_Sg_init 1 = .ok (.invokespecial 3, 3) := by decide +kernel
theorem d_Sg_init_4 : decode c_Sg_init 4 = .ok (.aload_n 0, 1) := by decide +kernel
theorem d_Sg_init_5 : decode c_Sg_init 5 = .ok (.bipush 40, 2) := by decide +kernel
theorem d_Sg_init_7 : decode c_Sg_init 7 = .ok (.newarray .char, 2) := by decide +kernel
theorem d_Sg_init_9 : decode c_Sg_init 9 = .ok (.putfield 9, 3) := by decide +kernel
theorem d_Sg_init_12 : decode c_Sg_init 12 = .ok (.return_, 1) := by decide +kernel
theorem d_Sg_collect_0 : decode c_Sg_collect 0 = .ok (.iload_n 1, 1) := by decide +kernel
theorem d_Sg_collect_1 : decode c_Sg_collect 1 = .ok (.bipush 32, 2) := by decide +kernel
theorem d_Sg_collect_3 : decode c_Sg_collect 3 = .ok (.if_icmp .lt 18, 3) := by decide +kernel
theorem d_Sg_collect_6 : decode c_Sg_collect 6 = .ok (.iload_n 1, 1) := by decide +kernel
theorem d_Sg_collect_7 : decode c_Sg_collect 7 = .ok (.bipush 126, 2) := by decide +kernel
theorem d_Sg_collect_9 : decode c_Sg_collect 9 = .ok (.if_icmp .gt 12, 3) := by decide +kernel
theorem d_Sg_collect_12 : decode c_Sg_collect 12 = .ok (.aload_n 0, 1) := by decide +kernel
theorem d_Sg_collect_13 : decode c_Sg_collect 13 = .ok (.getfield 15, 3) := by decide +kernel
theorem d_Sg_collect_16 : decode c_Sg_collect 16 = .ok (.bipush 40, 2) := by decide +kernel
theorem d_Sg_collect_18 : decode c_Sg_collect 18 = .ok (.if_icmp .lt 5, 3) := by decide +kernel
theorem d_Sg_collect_21 : decode c_Sg_collect 21 = .ok (.iconst 0, 1) := by decide +kernel
theorem d_Sg_collect_22 : decode c_Sg_collect 22 = .ok (.ireturn, 1) := by decide +kernel
theorem d_Sg_collect_23 : decode c_Sg_collect 23 = .ok (.aload_n 0, 1) := by decide +kernel
theorem d_Sg_collect_24 : decode c_Sg_collect 24 = .ok (.getfield 9, 3) := by decide +kernel
theorem d_Sg_collect_27 : decode c_Sg_collect 27 = .ok (.aload_n 0, 1) := by decide +kernel
theorem d_Sg_collect_28 : decode c_Sg_collect 28 = .ok (.getfield 15, 3) := by decide +kernel
theorem d_Sg_collect_31 : decode c_Sg_collect 31 = .ok (.iload_n 1, 1) := by decide +kernel
theorem d_Sg_collect_32 : decode c_Sg_collect 32 = .ok (.i2c, 1) := by decide +kernel
theorem d_Sg_collect_33 : decode c_Sg_collect 33 = .ok (.castore, 1) := by decide +kernel
theorem d_Sg_collect_34 : decode c_Sg_collect 34 = .ok (.aload_n 0, 1) := by decide +kernel
theorem d_Sg_collect_35 : decode c_Sg_collect 35 = .ok (.dup, 1) := by decide +kernel
theorem d_Sg_collect_36 : decode c_Sg_collect 36 = .ok (.getfield 15, 3) := by decide +kernel
theorem d_Sg_collect_39 : decode c_Sg_collect 39 = .ok (.iconst 1, 1) := by decide +kernel
theorem d_Sg_collect_40 : decode c_Sg_collect 40 = .ok (.iadd, 1) := by decide +kernel
theorem d_Sg_collect_41 : decode c_Sg_collect 41 = .ok (.putfield 15, 3) := by decide +kernel
theorem d_Sg_collect_44 : decode c_Sg_collect 44 = .ok (.iconst 1, 1) := by decide +kernel
theorem d_Sg_collect_45 : decode c_Sg_collect 45 = .ok (.ireturn, 1) := by decide +kernel
theorem d_Sg_firstWrong_0 : decode c_Sg_firstWrong 0 = .ok (.iconst 0, 1) := by decide +kernel
theorem d_Sg_firstWrong_1 : decode c_Sg_firstWrong 1 = .ok (.istore_n 1, 1) := by decide +kernel
theorem d_Sg_firstWrong_2 : decode c_Sg_firstWrong 2 = .ok (.iload_n 1, 1) := by decide +kernel
theorem d_Sg_firstWrong_3 : decode c_Sg_firstWrong 3 = .ok (.aload_n 0, 1) := by decide +kernel
theorem d_Sg_firstWrong_4 : decode c_Sg_firstWrong 4 = .ok (.getfield 15, 3) := by decide +kernel
theorem d_Sg_firstWrong_7 : decode c_Sg_firstWrong 7 = .ok (.if_icmp .ge 54, 3) := by decide +kernel
theorem d_Sg_firstWrong_10 : decode c_Sg_firstWrong 10 = .ok (.iload_n 1, 1) := by decide +kernel
theorem d_Sg_firstWrong_11 : decode c_Sg_firstWrong 11 = .ok (.iconst 2, 1) := by decide +kernel
theorem d_Sg_firstWrong_12 : decode c_Sg_firstWrong 12 = .ok (.irem, 1) := by decide +kernel
theorem d_Sg_firstWrong_13 : decode c_Sg_firstWrong 13 = .ok (.ifCond .ne 18, 3) := by decide +kernel
theorem d_Sg_firstWrong_16 : decode c_Sg_firstWrong 16 = .ok (.aload_n 0, 1) := by decide +kernel
theorem d_Sg_firstWrong_17 : decode c_Sg_firstWrong 17 = .ok (.getfield 9, 3) := by decide +kernel
theorem d_Sg_firstWrong_20 : decode c_Sg_firstWrong 20 = .ok (.iload_n 1, 1) := by decide +kernel
theorem d_Sg_firstWrong_21 : decode c_Sg_firstWrong 21 = .ok (.caload, 1) := by decide +kernel
theorem d_Sg_firstWrong_22 : decode c_Sg_firstWrong 22 = .ok (.iload_n 1, 1) := by decide +kernel
theorem d_Sg_firstWrong_23 : decode c_Sg_firstWrong 23 = .ok (.iconst 2, 1) := by decide +kernel
theorem d_Sg_firstWrong_24 : decode c_Sg_firstWrong 24 = .ok (.idiv, 1) := by decide +kernel
theorem d_Sg_firstWrong_25 : decode c_Sg_firstWrong 25 = .ok (.invokestatic 19, 3) := by decide +kernel
theorem d_Sg_firstWrong_28 : decode c_Sg_firstWrong 28 = .ok (.goto 20, 3) := by decide +kernel
theorem d_Sg_firstWrong_31 : decode c_Sg_firstWrong 31 = .ok (.aload_n 0, 1) := by decide +kernel
theorem d_Sg_firstWrong_32 : decode c_Sg_firstWrong 32 = .ok (.getfield 9, 3) := by decide +kernel
theorem d_Sg_firstWrong_35 : decode c_Sg_firstWrong 35 = .ok (.iload_n 1, 1) := by decide +kernel
theorem d_Sg_firstWrong_36 : decode c_Sg_firstWrong 36 = .ok (.caload, 1) := by decide +kernel
theorem d_Sg_firstWrong_37 : decode c_Sg_firstWrong 37 = .ok (.invokestatic 23, 3) := by decide +kernel
theorem d_Sg_firstWrong_40 : decode c_Sg_firstWrong 40 = .ok (.ifCond .le 7, 3) := by decide +kernel
theorem d_Sg_firstWrong_43 : decode c_Sg_firstWrong 43 = .ok (.iconst 1, 1) := by decide +kernel
theorem d_Sg_firstWrong_44 : decode c_Sg_firstWrong 44 = .ok (.goto 4, 3) := by decide +kernel
theorem d_Sg_firstWrong_47 : decode c_Sg_firstWrong 47 = .ok (.iconst 0, 1) := by decide +kernel
theorem d_Sg_firstWrong_48 : decode c_Sg_firstWrong 48 = .ok (.istore_n 2, 1) := by decide +kernel
theorem d_Sg_firstWrong_49 : decode c_Sg_firstWrong 49 = .ok (.iload_n 2, 1) := by decide +kernel
theorem d_Sg_firstWrong_50 : decode c_Sg_firstWrong 50 = .ok (.ifCond .ne 5, 3) := by decide +kernel
theorem d_Sg_firstWrong_53 : decode c_Sg_firstWrong 53 = .ok (.iload_n 1, 1) := by decide +kernel
theorem d_Sg_firstWrong_54 : decode c_Sg_firstWrong 54 = .ok (.ireturn, 1) := by decide +kernel
theorem d_Sg_firstWrong_55 : decode c_Sg_firstWrong 55 = .ok (.iinc 1 1, 3) := by decide +kernel
theorem d_Sg_firstWrong_58 : decode c_Sg_firstWrong 58 = .ok (.goto (-56), 3) := by decide +kernel
theorem d_Sg_firstWrong_61 : decode c_Sg_firstWrong 61 = .ok (.aload_n 0, 1) := by decide +kernel
theorem d_Sg_firstWrong_62 : decode c_Sg_firstWrong 62 = .ok (.getfield 15, 3) := by decide +kernel
theorem d_Sg_firstWrong_65 : decode c_Sg_firstWrong 65 = .ok (.iconst 2, 1) := by decide +kernel
theorem d_Sg_firstWrong_66 : decode c_Sg_firstWrong 66 = .ok (.irem, 1) := by decide +kernel
theorem d_Sg_firstWrong_67 : decode c_Sg_firstWrong 67 = .ok (.ifCond .ne 10, 3) := by decide +kernel
theorem d_Sg_firstWrong_70 : decode c_Sg_firstWrong 70 = .ok (.aload_n 0, 1) := by decide +kernel
theorem d_Sg_firstWrong_71 : decode c_Sg_firstWrong 71 = .ok (.getfield 15, 3) := by decide +kernel
theorem d_Sg_firstWrong_74 : decode c_Sg_firstWrong 74 = .ok (.goto 4, 3) := by decide +kernel
theorem d_Sg_firstWrong_77 : decode c_Sg_firstWrong 77 = .ok (.iconst (-1), 1) := by decide +kernel
theorem d_Sg_firstWrong_78 : decode c_Sg_firstWrong 78 = .ok (.ireturn, 1) := by decide +kernel
theorem d_Sg_toShape_0 : decode c_Sg_toShape 0 = .ok (.aload_n 0, 1) := by decide +kernel
theorem d_Sg_toShape_1 : decode c_Sg_toShape 1 = .ok (.getfield 15, 3) := by decide +kernel
theorem d_Sg_toShape_4 : decode c_Sg_toShape 4 = .ok (.newarray .char, 2) := by decide +kernel
theorem d_Sg_toShape_6 : decode c_Sg_toShape 6 = .ok (.astore_n 1, 1) := by decide +kernel
theorem d_Sg_toShape_7 : decode c_Sg_toShape 7 = .ok (.iconst 0, 1) := by decide +kernel
theorem d_Sg_toShape_8 : decode c_Sg_toShape 8 = .ok (.istore_n 2, 1) := by decide +kernel
theorem d_Sg_toShape_9 : decode c_Sg_toShape 9 = .ok (.iconst 0, 1) := by decide +kernel
theorem d_Sg_toShape_10 : decode c_Sg_toShape 10 = .ok (.istore_n 3, 1) := by decide +kernel
theorem d_Sg_toShape_11 : decode c_Sg_toShape 11 = .ok (.iload_n 3, 1) := by decide +kernel
theorem d_Sg_toShape_12 : decode c_Sg_toShape 12 = .ok (.aload_n 0, 1) := by decide +kernel
theorem d_Sg_toShape_13 : decode c_Sg_toShape 13 = .ok (.getfield 15, 3) := by decide +kernel
theorem d_Sg_toShape_16 : decode c_Sg_toShape 16 = .ok (.if_icmp .ge 40, 3) := by decide +kernel
theorem d_Sg_toShape_19 : decode c_Sg_toShape 19 = .ok (.aload_n 1, 1) := by decide +kernel
theorem d_Sg_toShape_20 : decode c_Sg_toShape 20 = .ok (.iload_n 3, 1) := by decide +kernel
theorem d_Sg_toShape_21 : decode c_Sg_toShape 21 = .ok (.aload_n 0, 1) := by decide +kernel
theorem d_Sg_toShape_22 : decode c_Sg_toShape 22 = .ok (.getfield 9, 3) := by decide +kernel
theorem d_Sg_toShape_25 : decode c_Sg_toShape 25 = .ok (.iload_n 3, 1) := by decide +kernel
theorem d_Sg_toShape_26 : decode c_Sg_toShape 26 = .ok (.caload, 1) := by decide +kernel
theorem d_Sg_toShape_27 : decode c_Sg_toShape 27 = .ok (.castore, 1) := by decide +kernel
theorem d_Sg_toShape_28 : decode c_Sg_toShape 28 = .ok (.iload_n 2, 1) := by decide +kernel
theorem d_Sg_toShape_29 : decode c_Sg_toShape 29 = .ok (.iload_n 3, 1) := by decide +kernel
theorem d_Sg_toShape_30 : decode c_Sg_toShape 30 = .ok (.iconst 2, 1) := by decide +kernel
theorem d_Sg_toShape_31 : decode c_Sg_toShape 31 = .ok (.irem, 1) := by decide +kernel
theorem d_Sg_toShape_32 : decode c_Sg_toShape 32 = .ok (.ifCond .ne 7, 3) := by decide +kernel
theorem d_Sg_toShape_35 : decode c_Sg_toShape 35 = .ok (.iconst 0, 1) := by decide +kernel
theorem d_Sg_toShape_36 : decode c_Sg_toShape 36 = .ok (.goto 12, 3) := by decide +kernel
theorem d_Sg_toShape_39 : decode c_Sg_toShape 39 = .ok (.aload_n 0, 1) := by decide +kernel
theorem d_Sg_toShape_40 : decode c_Sg_toShape 40 = .ok (.getfield 9, 3) := by decide +kernel
theorem d_Sg_toShape_43 : decode c_Sg_toShape 43 = .ok (.iload_n 3, 1) := by decide +kernel
theorem d_Sg_toShape_44 : decode c_Sg_toShape 44 = .ok (.caload, 1) := by decide +kernel
theorem d_Sg_toShape_45 : decode c_Sg_toShape 45 = .ok (.invokestatic 23, 3) := by decide +kernel
theorem d_Sg_toShape_48 : decode c_Sg_toShape 48 = .ok (.iadd, 1) := by decide +kernel
theorem d_Sg_toShape_49 : decode c_Sg_toShape 49 = .ok (.istore_n 2, 1) := by decide +kernel
theorem d_Sg_toShape_50 : decode c_Sg_toShape 50 = .ok (.iinc 3 1, 3) := by decide +kernel
theorem d_Sg_toShape_53 : decode c_Sg_toShape 53 = .ok (.goto (-42), 3) := by decide +kernel
theorem d_Sg_toShape_56 : decode c_Sg_toShape 56 = .ok (.new 27, 3) := by decide +kernel
theorem d_Sg_toShape_59 : decode c_Sg_toShape 59 = .ok (.dup, 1) := by decide +kernel
theorem d_Sg_toShape_60 : decode c_Sg_toShape 60 = .ok (.aload_n 1, 1) := by decide +kernel
theorem d_Sg_toShape_61 : decode c_Sg_toShape 61 = .ok (.iload_n 2, 1) := by decide +kernel
theorem d_Sg_toShape_62 : decode c_Sg_toShape 62 = .ok (.invokespecial 29, 3) := by decide +kernel
theorem d_Sg_toShape_65 : decode c_Sg_toShape 65 = .ok (.areturn, 1) := by decide +kernel
theorem d_Sg_isLeg_0 : decode c_Sg_isLeg 0 = .ok (.iload_n 1, 1) := by decide +kernel
theorem d_Sg_isLeg_1 : decode c_Sg_isLeg 1 = .ok (.bipush 6, 2) := by decide +kernel
theorem d_Sg_isLeg_3 : decode c_Sg_isLeg 3 = .ok (.if_icmp .ge 15, 3) := by decide +kernel
theorem d_Sg_isLeg_6 : decode c_Sg_isLeg 6 = .ok (.iload_n 0, 1) := by decide +kernel
theorem d_Sg_isLeg_7 : decode c_Sg_isLeg 7 = .ok (.bipush 65, 2) := by decide +kernel
theorem d_Sg_isLeg_9 : decode c_Sg_isLeg 9 = .ok (.iload_n 1, 1) := by decide +kernel
theorem d_Sg_isLeg_10 : decode c_Sg_isLeg 10 = .ok (.iadd, 1) := by decide +kernel
theorem d_Sg_isLeg_11 : decode c_Sg_isLeg 11 = .ok (.if_icmp .ne 7, 3) := by decide +kernel
theorem d_Sg_isLeg_14 : decode c_Sg_isLeg 14 = .ok (.iconst 1, 1) := by decide +kernel
theorem d_Sg_isLeg_15 : decode c_Sg_isLeg 15 = .ok (.goto 4, 3) := by decide +kernel
theorem d_Sg_isLeg_18 : decode c_Sg_isLeg 18 = .ok (.iconst 0, 1) := by decide +kernel
theorem d_Sg_isLeg_19 : decode c_Sg_isLeg 19 = .ok (.ireturn, 1) := by decide +kernel
theorem d_Sg_quartersOf_0 : decode c_Sg_quartersOf 0 = .ok (.iload_n 0, 1) := by decide +kernel
theorem d_Sg_quartersOf_1 : decode c_Sg_quartersOf 1 = .ok (.lookupswitch 39 #[(76, 35), (82, 35), (85, 37)], 35) := by decide +kernel
theorem d_Sg_quartersOf_36 : decode c_Sg_quartersOf 36 = .ok (.iconst 1, 1) := by decide +kernel
theorem d_Sg_quartersOf_37 : decode c_Sg_quartersOf 37 = .ok (.ireturn, 1) := by decide +kernel
theorem d_Sg_quartersOf_38 : decode c_Sg_quartersOf 38 = .ok (.iconst 2, 1) := by decide +kernel
theorem d_Sg_quartersOf_39 : decode c_Sg_quartersOf 39 = .ok (.ireturn, 1) := by decide +kernel
theorem d_Sg_quartersOf_40 : decode c_Sg_quartersOf 40 = .ok (.iconst 0, 1) := by decide +kernel
theorem d_Sg_quartersOf_41 : decode c_Sg_quartersOf 41 = .ok (.ireturn, 1) := by decide +kernel
theorem d_Tr_init_0 : decode c_Tr_init 0 = .ok (.aload_n 0, 1) := by decide +kernel
theorem d_Tr_init_1 : decode c_Tr_init 1 = .ok (.invokespecial 3, 3) := by decide +kernel
theorem d_Tr_init_4 : decode c_Tr_init 4 = .ok (.aload_n 0, 1) := by decide +kernel
theorem d_Tr_init_5 : decode c_Tr_init 5 = .ok (.bipush 11, 2) := by decide +kernel
theorem d_Tr_init_7 : decode c_Tr_init 7 = .ok (.newarray .int, 2) := by decide +kernel
theorem d_Tr_init_9 : decode c_Tr_init 9 = .ok (.putfield 11, 3) := by decide +kernel
theorem d_Tr_init_12 : decode c_Tr_init 12 = .ok (.aload_n 0, 1) := by decide +kernel
theorem d_Tr_init_13 : decode c_Tr_init 13 = .ok (.bipush 11, 2) := by decide +kernel
theorem d_Tr_init_15 : decode c_Tr_init 15 = .ok (.newarray .int, 2) := by decide +kernel
theorem d_Tr_init_17 : decode c_Tr_init 17 = .ok (.putfield 15, 3) := by decide +kernel
theorem d_Tr_init_20 : decode c_Tr_init 20 = .ok (.aload_n 0, 1) := by decide +kernel
theorem d_Tr_init_21 : decode c_Tr_init 21 = .ok (.bipush 11, 2) := by decide +kernel
theorem d_Tr_init_23 : decode c_Tr_init 23 = .ok (.newarray .int, 2) := by decide +kernel
theorem d_Tr_init_25 : decode c_Tr_init 25 = .ok (.putfield 18, 3) := by decide +kernel
theorem d_Tr_init_28 : decode c_Tr_init 28 = .ok (.aload_n 0, 1) := by decide +kernel
theorem d_Tr_init_29 : decode c_Tr_init 29 = .ok (.bipush 11, 2) := by decide +kernel
theorem d_Tr_init_31 : decode c_Tr_init 31 = .ok (.newarray .int, 2) := by decide +kernel
theorem d_Tr_init_33 : decode c_Tr_init 33 = .ok (.putfield 21, 3) := by decide +kernel
theorem d_Tr_init_36 : decode c_Tr_init 36 = .ok (.aload_n 0, 1) := by decide +kernel
theorem d_Tr_init_37 : decode c_Tr_init 37 = .ok (.bipush 11, 2) := by decide +kernel
theorem d_Tr_init_39 : decode c_Tr_init 39 = .ok (.newarray .boolean, 2) := by decide +kernel
theorem d_Tr_init_41 : decode c_Tr_init 41 = .ok (.putfield 24, 3) := by decide +kernel
theorem d_Tr_init_44 : decode c_Tr_init 44 = .ok (.return_, 1) := by decide +kernel
theorem d_Tr_follow_0 : decode c_Tr_follow 0 = .ok (.aload_n 0, 1) := by decide +kernel
theorem d_Tr_follow_1 : decode c_Tr_follow 1 = .ok (.iconst 0, 1) := by decide +kernel
theorem d_Tr_follow_2 : decode c_Tr_follow 2 = .ok (.putfield 28, 3) := by decide +kernel
theorem d_Tr_follow_5 : decode c_Tr_follow 5 = .ok (.aload_n 0, 1) := by decide +kernel
theorem d_Tr_follow_6 : decode c_Tr_follow 6 = .ok (.aload_n 1, 1) := by decide +kernel
theorem d_Tr_follow_7 : decode c_Tr_follow 7 = .ok (.getfield 32, 3) := by decide +kernel
theorem d_Tr_follow_10 : decode c_Tr_follow 10 = .ok (.putfield 37, 3) := by decide +kernel
theorem d_Tr_follow_13 : decode c_Tr_follow 13 = .ok (.aload_n 0, 1) := by decide +kernel
theorem d_Tr_follow_14 : decode c_Tr_follow 14 = .ok (.aload_n 1, 1) := by decide +kernel
theorem d_Tr_follow_15 : decode c_Tr_follow 15 = .ok (.getfield 38, 3) := by decide +kernel
theorem d_Tr_follow_18 : decode c_Tr_follow 18 = .ok (.putfield 41, 3) := by decide +kernel
theorem d_Tr_follow_21 : decode c_Tr_follow 21 = .ok (.iconst 1, 1) := by decide +kernel
theorem d_Tr_follow_22 : decode c_Tr_follow 22 = .ok (.istore_n 2, 1) := by decide +kernel
theorem d_Tr_follow_23 : decode c_Tr_follow 23 = .ok (.iconst 0, 1) := by decide +kernel
theorem d_Tr_follow_24 : decode c_Tr_follow 24 = .ok (.istore_n 3, 1) := by decide +kernel
theorem d_Tr_follow_25 : decode c_Tr_follow 25 = .ok (.iconst 0, 1) := by decide +kernel
theorem d_Tr_follow_26 : decode c_Tr_follow 26 = .ok (.istore 4, 2) := by decide +kernel
theorem d_Tr_follow_28 : decode c_Tr_follow 28 = .ok (.iload 4, 2) := by decide +kernel
theorem d_Tr_follow_30 : decode c_Tr_follow 30 = .ok (.aload_n 1, 1) := by decide +kernel
theorem d_Tr_follow_31 : decode c_Tr_follow 31 = .ok (.getfield 42, 3) := by decide +kernel
theorem d_Tr_follow_34 : decode c_Tr_follow 34 = .ok (.getfield 46, 3) := by decide +kernel
theorem d_Tr_follow_37 : decode c_Tr_follow 37 = .ok (.if_icmp .ge 135, 3) := by decide +kernel
theorem d_Tr_follow_40 : decode c_Tr_follow 40 = .ok (.iload_n 2, 1) := by decide +kernel
theorem d_Tr_follow_41 : decode c_Tr_follow 41 = .ok (.istore 5, 2) := by decide +kernel
theorem d_Tr_follow_43 : decode c_Tr_follow 43 = .ok (.iload_n 3, 1) := by decide +kernel
theorem d_Tr_follow_44 : decode c_Tr_follow 44 = .ok (.istore 6, 2) := by decide +kernel
theorem d_Tr_follow_46 : decode c_Tr_follow 46 = .ok (.aload_n 1, 1) := by decide +kernel
theorem d_Tr_follow_47 : decode c_Tr_follow 47 = .ok (.getfield 42, 3) := by decide +kernel
theorem d_Tr_follow_50 : decode c_Tr_follow 50 = .ok (.iload 4, 2) := by decide +kernel
theorem d_Tr_follow_52 : decode c_Tr_follow 52 = .ok (.invokevirtual 51, 3) := by decide +kernel
theorem d_Tr_follow_55 : decode c_Tr_follow 55 = .ok (.lookupswitch 88 #[(76, 33), (82, 43), (85, 53)], 33) := by decide +kernel
theorem d_Tr_follow_88 : decode c_Tr_follow 88 = .ok (.iload 6, 2) := by decide +kernel
theorem d_Tr_follow_90 : decode c_Tr_follow 90 = .ok (.ineg, 1) := by decide +kernel
theorem d_Tr_follow_91 : decode c_Tr_follow 91 = .ok (.istore_n 2, 1) := by decide +kernel
theorem d_Tr_follow_92 : decode c_Tr_follow 92 = .ok (.iload 5, 2) := by decide +kernel
theorem d_Tr_follow_94 : decode c_Tr_follow 94 = .ok (.istore_n 3, 1) := by decide +kernel
theorem d_Tr_follow_95 : decode c_Tr_follow 95 = .ok (.goto 48, 3) := by decide +kernel
theorem d_Tr_follow_98 : decode c_Tr_follow 98 = .ok (.iload 6, 2) := by decide +kernel
theorem d_Tr_follow_100 : decode c_Tr_follow 100 = .ok (.istore_n 2, 1) := by decide +kernel
theorem d_Tr_follow_101 : decode c_Tr_follow 101 = .ok (.iload 5, 2) := by decide +kernel
theorem d_Tr_follow_103 : decode c_Tr_follow 103 = .ok (.ineg, 1) := by decide +kernel
theorem d_Tr_follow_104 : decode c_Tr_follow 104 = .ok (.istore_n 3, 1) := by decide +kernel
theorem d_Tr_follow_105 : decode c_Tr_follow 105 = .ok (.goto 38, 3) := by decide +kernel
theorem d_Tr_follow_108 : decode c_Tr_follow 108 = .ok (.iconst 3, 1) := by decide +kernel
theorem d_Tr_follow_109 : decode c_Tr_follow 109 = .ok (.aload_n 1, 1) := by decide +kernel
theorem d_Tr_follow_110 : decode c_Tr_follow 110 = .ok (.getfield 55, 3) := by decide +kernel
theorem d_Tr_follow_113 : decode c_Tr_follow 113 = .ok (.imul, 1) := by decide +kernel
theorem d_Tr_follow_114 : decode c_Tr_follow 114 = .ok (.istore 7, 2) := by decide +kernel
theorem d_Tr_follow_116 : decode c_Tr_follow 116 = .ok (.aload_n 0, 1) := by decide +kernel
theorem d_Tr_follow_117 : decode c_Tr_follow 117 = .ok (.iload 6, 2) := by decide +kernel
theorem d_Tr_follow_119 : decode c_Tr_follow 119 = .ok (.ineg, 1) := by decide +kernel
theorem d_Tr_follow_120 : decode c_Tr_follow 120 = .ok (.iload 7, 2) := by decide +kernel
theorem d_Tr_follow_122 : decode c_Tr_follow 122 = .ok (.imul, 1) := by decide +kernel
theorem d_Tr_follow_123 : decode c_Tr_follow 123 = .ok (.iload 5, 2) := by decide +kernel
theorem d_Tr_follow_125 : decode c_Tr_follow 125 = .ok (.iload 7, 2) := by decide +kernel
theorem d_Tr_follow_127 : decode c_Tr_follow 127 = .ok (.imul, 1) := by decide +kernel
theorem d_Tr_follow_128 : decode c_Tr_follow 128 = .ok (.iconst 0, 1) := by decide +kernel
theorem d_Tr_follow_129 : decode c_Tr_follow 129 = .ok (.invokevirtual 58, 3) := by decide +kernel
theorem d_Tr_follow_132 : decode c_Tr_follow 132 = .ok (.iload 5, 2) := by decide +kernel
theorem d_Tr_follow_134 : decode c_Tr_follow 134 = .ok (.ineg, 1) := by decide +kernel
theorem d_Tr_follow_135 : decode c_Tr_follow 135 = .ok (.istore_n 2, 1) := by decide +kernel
theorem d_Tr_follow_136 : decode c_Tr_follow 136 = .ok (.iload 6, 2) := by decide +kernel
theorem d_Tr_follow_138 : decode c_Tr_follow 138 = .ok (.ineg, 1) := by decide +kernel
theorem d_Tr_follow_139 : decode c_Tr_follow 139 = .ok (.istore_n 3, 1) := by decide +kernel
theorem d_Tr_follow_140 : decode c_Tr_follow 140 = .ok (.goto 3, 3) := by decide +kernel
theorem d_Tr_follow_143 : decode c_Tr_follow 143 = .ok (.aload_n 0, 1) := by decide +kernel
theorem d_Tr_follow_144 : decode c_Tr_follow 144 = .ok (.iload_n 2, 1) := by decide +kernel
theorem d_Tr_follow_145 : decode c_Tr_follow 145 = .ok (.aload_n 1, 1) := by decide +kernel
theorem d_Tr_follow_146 : decode c_Tr_follow 146 = .ok (.getfield 62, 3) := by decide +kernel
theorem d_Tr_follow_149 : decode c_Tr_follow 149 = .ok (.iload 4, 2) := by decide +kernel
theorem d_Tr_follow_151 : decode c_Tr_follow 151 = .ok (.iaload, 1) := by decide +kernel
theorem d_Tr_follow_152 : decode c_Tr_follow 152 = .ok (.imul, 1) := by decide +kernel
theorem d_Tr_follow_153 : decode c_Tr_follow 153 = .ok (.iload_n 3, 1) := by decide +kernel
theorem d_Tr_follow_154 : decode c_Tr_follow 154 = .ok (.aload_n 1, 1) := by decide +kernel
theorem d_Tr_follow_155 : decode c_Tr_follow 155 = .ok (.getfield 62, 3) := by decide +kernel
theorem d_Tr_follow_158 : decode c_Tr_follow 158 = .ok (.iload 4, 2) := by decide +kernel
theorem d_Tr_follow_160 : decode c_Tr_follow 160 = .ok (.iaload, 1) := by decide +kernel
theorem d_Tr_follow_161 : decode c_Tr_follow 161 = .ok (.imul, 1) := by decide +kernel
theorem d_Tr_follow_162 : decode c_Tr_follow 162 = .ok (.iconst 1, 1) := by decide +kernel
theorem d_Tr_follow_163 : decode c_Tr_follow 163 = .ok (.invokevirtual 58, 3) := by decide +kernel
theorem d_Tr_follow_166 : decode c_Tr_follow 166 = .ok (.iinc 4 1, 3) := by decide +kernel
theorem d_Tr_follow_169 : decode c_Tr_follow 169 = .ok (.goto (-141), 3) := by decide +kernel
theorem d_Tr_follow_172 : decode c_Tr_follow 172 = .ok (.return_, 1) := by decide +kernel
theorem d_Tr_go_0 : decode c_Tr_go 0 = .ok (.aload_n 0, 1) := by decide +kernel
theorem d_Tr_go_1 : decode c_Tr_go 1 = .ok (.getfield 28, 3) := by decide +kernel
theorem d_Tr_go_4 : decode c_Tr_go 4 = .ok (.bipush 11, 2) := by decide +kernel
theorem d_Tr_go_6 : decode c_Tr_go 6 = .ok (.if_icmp .lt 4, 3) := by decide +kernel
theorem d_Tr_go_9 : decode c_Tr_go 9 = .ok (.return_, 1) := by decide +kernel
theorem d_Tr_go_10 : decode c_Tr_go 10 = .ok (.aload_n 0, 1) := by decide +kernel
theorem d_Tr_go_11 : decode c_Tr_go 11 = .ok (.getfield 11, 3) := by decide +kernel
theorem d_Tr_go_14 : decode c_Tr_go 14 = .ok (.aload_n 0, 1) := by decide +kernel
theorem d_Tr_go_15 : decode c_Tr_go 15 = .ok (.getfield 28, 3) := by decide +kernel
theorem d_Tr_go_18 : decode c_Tr_go 18 = .ok (.aload_n 0, 1) := by decide +kernel
theorem d_Tr_go_19 : decode c_Tr_go 19 = .ok (.getfield 37, 3) := by decide +kernel
theorem d_Tr_go_22 : decode c_Tr_go 22 = .ok (.iastore, 1) := by decide +kernel
theorem d_Tr_go_23 : decode c_Tr_go 23 = .ok (.aload_n 0, 1) := by decide +kernel
theorem d_Tr_go_24 : decode c_Tr_go 24 = .ok (.getfield 15, 3) := by decide +kernel
theorem d_Tr_go_27 : decode c_Tr_go 27 = .ok (.aload_n 0, 1) := by decide +kernel
theorem d_Tr_go_28 : decode c_Tr_go 28 = .ok (.getfield 28, 3) := by decide +kernel
theorem d_Tr_go_31 : decode c_Tr_go 31 = .ok (.aload_n 0, 1) := by decide +kernel
theorem d_Tr_go_32 : decode c_Tr_go 32 = .ok (.getfield 41, 3) := by decide +kernel
theorem d_Tr_go_35 : decode c_Tr_go 35 = .ok (.iastore, 1) := by decide +kernel
theorem d_Tr_go_36 : decode c_Tr_go 36 = .ok (.aload_n 0, 1) := by decide +kernel
theorem d_Tr_go_37 : decode c_Tr_go 37 = .ok (.getfield 18, 3) := by decide +kernel
theorem d_Tr_go_40 : decode c_Tr_go 40 = .ok (.aload_n 0, 1) := by decide +kernel
theorem d_Tr_go_41 : decode c_Tr_go 41 = .ok (.getfield 28, 3) := by decide +kernel
theorem d_Tr_go_44 : decode c_Tr_go 44 = .ok (.iload_n 1, 1) := by decide +kernel
theorem d_Tr_go_45 : decode c_Tr_go 45 = .ok (.iastore, 1) := by decide +kernel
theorem d_Tr_go_46 : decode c_Tr_go 46 = .ok (.aload_n 0, 1) := by decide +kernel
theorem d_Tr_go_47 : decode c_Tr_go 47 = .ok (.getfield 21, 3) := by decide +kernel
theorem d_Tr_go_50 : decode c_Tr_go 50 = .ok (.aload_n 0, 1) := by decide +kernel
theorem d_Tr_go_51 : decode c_Tr_go 51 = .ok (.getfield 28, 3) := by decide +kernel
theorem d_Tr_go_54 : decode c_Tr_go 54 = .ok (.iload_n 2, 1) := by decide +kernel
theorem d_Tr_go_55 : decode c_Tr_go 55 = .ok (.iastore, 1) := by decide +kernel
theorem d_Tr_go_56 : decode c_Tr_go 56 = .ok (.aload_n 0, 1) := by decide +kernel
theorem d_Tr_go_57 : decode c_Tr_go 57 = .ok (.getfield 24, 3) := by decide +kernel
theorem d_Tr_go_60 : decode c_Tr_go 60 = .ok (.aload_n 0, 1) := by decide +kernel
theorem d_Tr_go_61 : decode c_Tr_go 61 = .ok (.getfield 28, 3) := by decide +kernel
theorem d_Tr_go_64 : decode c_Tr_go 64 = .ok (.iload_n 3, 1) := by decide +kernel
theorem d_Tr_go_65 : decode c_Tr_go 65 = .ok (.bastore, 1) := by decide +kernel
theorem d_Tr_go_66 : decode c_Tr_go 66 = .ok (.aload_n 0, 1) := by decide +kernel
theorem d_Tr_go_67 : decode c_Tr_go 67 = .ok (.dup, 1) := by decide +kernel
theorem d_Tr_go_68 : decode c_Tr_go 68 = .ok (.getfield 37, 3) := by decide +kernel
theorem d_Tr_go_71 : decode c_Tr_go 71 = .ok (.iload_n 1, 1) := by decide +kernel
theorem d_Tr_go_72 : decode c_Tr_go 72 = .ok (.iadd, 1) := by decide +kernel
theorem d_Tr_go_73 : decode c_Tr_go 73 = .ok (.putfield 37, 3) := by decide +kernel
theorem d_Tr_go_76 : decode c_Tr_go 76 = .ok (.aload_n 0, 1) := by decide +kernel
theorem d_Tr_go_77 : decode c_Tr_go 77 = .ok (.dup, 1) := by decide +kernel
theorem d_Tr_go_78 : decode c_Tr_go 78 = .ok (.getfield 41, 3) := by decide +kernel
theorem d_Tr_go_81 : decode c_Tr_go 81 = .ok (.iload_n 2, 1) := by decide +kernel
theorem d_Tr_go_82 : decode c_Tr_go 82 = .ok (.iadd, 1) := by decide +kernel
theorem d_Tr_go_83 : decode c_Tr_go 83 = .ok (.putfield 41, 3) := by decide +kernel
theorem d_Tr_go_86 : decode c_Tr_go 86 = .ok (.aload_n 0, 1) := by decide +kernel
theorem d_Tr_go_87 : decode c_Tr_go 87 = .ok (.dup, 1) := by decide +kernel
theorem d_Tr_go_88 : decode c_Tr_go 88 = .ok (.getfield 28, 3) := by decide +kernel
theorem d_Tr_go_91 : decode c_Tr_go 91 = .ok (.iconst 1, 1) := by decide +kernel
theorem d_Tr_go_92 : decode c_Tr_go 92 = .ok (.iadd, 1) := by decide +kernel
theorem d_Tr_go_93 : decode c_Tr_go 93 = .ok (.putfield 28, 3) := by decide +kernel
theorem d_Tr_go_96 : decode c_Tr_go 96 = .ok (.return_, 1) := by decide +kernel
theorem d_Tr_leastSquareTo_0 : decode c_Tr_leastSquareTo 0 = .ok (.ldc2_w 64, 3) := by decide +kernel
theorem d_Tr_leastSquareTo_3 : decode c_Tr_leastSquareTo 3 = .ok (.lstore_n 2, 1) := by decide +kernel
theorem d_Tr_leastSquareTo_4 : decode c_Tr_leastSquareTo 4 = .ok (.iconst 0, 1) := by decide +kernel
theorem d_Tr_leastSquareTo_5 : decode c_Tr_leastSquareTo 5 = .ok (.istore 4, 2) := by decide +kernel
theorem d_Tr_leastSquareTo_7 : decode c_Tr_leastSquareTo 7 = .ok (.iload 4, 2) := by decide +kernel
theorem d_Tr_leastSquareTo_9 : decode c_Tr_leastSquareTo 9 = .ok (.aload_n 0, 1) := by decide +kernel
theorem d_Tr_leastSquareTo_10 : decode c_Tr_leastSquareTo 10 = .ok (.getfield 28, 3) := by decide +kernel
theorem d_Tr_leastSquareTo_13 : decode c_Tr_leastSquareTo 13 = .ok (.if_icmp .ge 131, 3) := by decide +kernel
theorem d_Tr_leastSquareTo_16 : decode c_Tr_leastSquareTo 16 = .ok (.iconst 0, 1) := by decide +kernel
theorem d_Tr_leastSquareTo_17 : decode c_Tr_leastSquareTo 17 = .ok (.istore 5, 2) := by decide +kernel
theorem d_Tr_leastSquareTo_19 : decode c_Tr_leastSquareTo 19 = .ok (.iload 5, 2) := by decide +kernel
theorem d_Tr_leastSquareTo_21 : decode c_Tr_leastSquareTo 21 = .ok (.aload_n 1, 1) := by decide +kernel
theorem d_Tr_leastSquareTo_22 : decode c_Tr_leastSquareTo 22 = .ok (.getfield 28, 3) := by decide +kernel
theorem d_Tr_leastSquareTo_25 : decode c_Tr_leastSquareTo 25 = .ok (.if_icmp .ge 113, 3) := by decide +kernel
theorem d_Tr_leastSquareTo_28 : decode c_Tr_leastSquareTo 28 = .ok (.aload_n 0, 1) := by decide +kernel
theorem d_Tr_leastSquareTo_29 : decode c_Tr_leastSquareTo 29 = .ok (.getfield 24, 3) := by decide +kernel
theorem d_Tr_leastSquareTo_32 : decode c_Tr_leastSquareTo 32 = .ok (.iload 4, 2) := by decide +kernel
theorem d_Tr_leastSquareTo_34 : decode c_Tr_leastSquareTo 34 = .ok (.baload, 1) := by decide +kernel
theorem d_Tr_leastSquareTo_35 : decode c_Tr_leastSquareTo 35 = .ok (.ifCond .eq 97, 3) := by decide +kernel
theorem d_Tr_leastSquareTo_38 : decode c_Tr_leastSquareTo 38 = .ok (.aload_n 1, 1) := by decide +kernel
theorem d_Tr_leastSquareTo_39 : decode c_Tr_leastSquareTo 39 = .ok (.getfield 24, 3) := by decide +kernel
theorem d_Tr_leastSquareTo_42 : decode c_Tr_leastSquareTo 42 = .ok (.iload 5, 2) := by decide +kernel
theorem d_Tr_leastSquareTo_44 : decode c_Tr_leastSquareTo 44 = .ok (.baload, 1) := by decide +kernel
theorem d_Tr_leastSquareTo_45 : decode c_Tr_leastSquareTo 45 = .ok (.ifCond .eq 87, 3) := by decide +kernel
theorem d_Tr_leastSquareTo_48 : decode c_Tr_leastSquareTo 48 = .ok (.aload_n 0, 1) := by decide +kernel
theorem d_Tr_leastSquareTo_49 : decode c_Tr_leastSquareTo 49 = .ok (.getfield 11, 3) := by decide +kernel
theorem d_Tr_leastSquareTo_52 : decode c_Tr_leastSquareTo 52 = .ok (.iload 4, 2) := by decide +kernel
theorem d_Tr_leastSquareTo_54 : decode c_Tr_leastSquareTo 54 = .ok (.iaload, 1) := by decide +kernel
theorem d_Tr_leastSquareTo_55 : decode c_Tr_leastSquareTo 55 = .ok (.aload_n 0, 1) := by decide +kernel
theorem d_Tr_leastSquareTo_56 : decode c_Tr_leastSquareTo 56 = .ok (.getfield 18, 3) := by decide +kernel
theorem d_Tr_leastSquareTo_59 : decode c_Tr_leastSquareTo 59 = .ok (.iload 4, 2) := by decide +kernel
theorem d_Tr_leastSquareTo_61 : decode c_Tr_leastSquareTo 61 = .ok (.iaload, 1) := by decide +kernel
theorem d_Tr_leastSquareTo_62 : decode c_Tr_leastSquareTo 62 = .ok (.aload_n 1, 1) := by decide +kernel
theorem d_Tr_leastSquareTo_63 : decode c_Tr_leastSquareTo 63 = .ok (.getfield 11, 3) := by decide +kernel
theorem d_Tr_leastSquareTo_66 : decode c_Tr_leastSquareTo 66 = .ok (.iload 5, 2) := by decide +kernel
theorem d_Tr_leastSquareTo_68 : decode c_Tr_leastSquareTo 68 = .ok (.iaload, 1) := by decide +kernel
theorem d_Tr_leastSquareTo_69 : decode c_Tr_leastSquareTo 69 = .ok (.aload_n 1, 1) := by decide +kernel
theorem d_Tr_leastSquareTo_70 : decode c_Tr_leastSquareTo 70 = .ok (.getfield 18, 3) := by decide +kernel
theorem d_Tr_leastSquareTo_73 : decode c_Tr_leastSquareTo 73 = .ok (.iload 5, 2) := by decide +kernel
theorem d_Tr_leastSquareTo_75 : decode c_Tr_leastSquareTo 75 = .ok (.iaload, 1) := by decide +kernel
theorem d_Tr_leastSquareTo_76 : decode c_Tr_leastSquareTo 76 = .ok (.invokestatic 66, 3) := by decide +kernel
theorem d_Tr_leastSquareTo_79 : decode c_Tr_leastSquareTo 79 = .ok (.i2l, 1) := by decide +kernel
theorem d_Tr_leastSquareTo_80 : decode c_Tr_leastSquareTo 80 = .ok (.lstore 6, 2) := by decide +kernel
theorem d_Tr_leastSquareTo_82 : decode c_Tr_leastSquareTo 82 = .ok (.aload_n 0, 1) := by decide +kernel
theorem d_Tr_leastSquareTo_83 : decode c_Tr_leastSquareTo 83 = .ok (.getfield 15, 3) := by decide +kernel
theorem d_Tr_leastSquareTo_86 : decode c_Tr_leastSquareTo 86 = .ok (.iload 4, 2) := by decide +kernel
theorem d_Tr_leastSquareTo_88 : decode c_Tr_leastSquareTo 88 = .ok (.iaload, 1) := by decide +kernel
theorem d_Tr_leastSquareTo_89 : decode c_Tr_leastSquareTo 89 = .ok (.aload_n 0, 1) := by decide +kernel
theorem d_Tr_leastSquareTo_90 : decode c_Tr_leastSquareTo 90 = .ok (.getfield 21, 3) := by decide +kernel
theorem d_Tr_leastSquareTo_93 : decode c_Tr_leastSquareTo 93 = .ok (.iload 4, 2) := by decide +kernel
theorem d_Tr_leastSquareTo_95 : decode c_Tr_leastSquareTo 95 = .ok (.iaload, 1) := by decide +kernel
theorem d_Tr_leastSquareTo_96 : decode c_Tr_leastSquareTo 96 = .ok (.aload_n 1, 1) := by decide +kernel
theorem d_Tr_leastSquareTo_97 : decode c_Tr_leastSquareTo 97 = .ok (.getfield 15, 3) := by decide +kernel
theorem d_Tr_leastSquareTo_100 : decode c_Tr_leastSquareTo 100 = .ok (.iload 5, 2) := by decide +kernel
theorem d_Tr_leastSquareTo_102 : decode c_Tr_leastSquareTo 102 = .ok (.iaload, 1) := by decide +kernel
theorem d_Tr_leastSquareTo_103 : decode c_Tr_leastSquareTo 103 = .ok (.aload_n 1, 1) := by decide +kernel
theorem d_Tr_leastSquareTo_104 : decode c_Tr_leastSquareTo 104 = .ok (.getfield 21, 3) := by decide +kernel
theorem d_Tr_leastSquareTo_107 : decode c_Tr_leastSquareTo 107 = .ok (.iload 5, 2) := by decide +kernel
theorem d_Tr_leastSquareTo_109 : decode c_Tr_leastSquareTo 109 = .ok (.iaload, 1) := by decide +kernel
theorem d_Tr_leastSquareTo_110 : decode c_Tr_leastSquareTo 110 = .ok (.invokestatic 66, 3) := by decide +kernel
theorem d_Tr_leastSquareTo_113 : decode c_Tr_leastSquareTo 113 = .ok (.i2l, 1) := by decide +kernel
theorem d_Tr_leastSquareTo_114 : decode c_Tr_leastSquareTo 114 = .ok (.lstore 8, 2) := by decide +kernel
theorem d_Tr_leastSquareTo_116 : decode c_Tr_leastSquareTo 116 = .ok (.lload_n 2, 1) := by decide +kernel
theorem d_Tr_leastSquareTo_117 : decode c_Tr_leastSquareTo 117 = .ok (.lload 6, 2) := by decide +kernel
theorem d_Tr_leastSquareTo_119 : decode c_Tr_leastSquareTo 119 = .ok (.lload 6, 2) := by decide +kernel
theorem d_Tr_leastSquareTo_121 : decode c_Tr_leastSquareTo 121 = .ok (.lmul, 1) := by decide +kernel
theorem d_Tr_leastSquareTo_122 : decode c_Tr_leastSquareTo 122 = .ok (.lload 8, 2) := by decide +kernel
theorem d_Tr_leastSquareTo_124 : decode c_Tr_leastSquareTo 124 = .ok (.lload 8, 2) := by decide +kernel
theorem d_Tr_leastSquareTo_126 : decode c_Tr_leastSquareTo 126 = .ok (.lmul, 1) := by decide +kernel
theorem d_Tr_leastSquareTo_127 : decode c_Tr_leastSquareTo 127 = .ok (.ladd, 1) := by decide +kernel
theorem d_Tr_leastSquareTo_128 : decode c_Tr_leastSquareTo 128 = .ok (.invokestatic 70, 3) := by decide +kernel
theorem d_Tr_leastSquareTo_131 : decode c_Tr_leastSquareTo 131 = .ok (.lstore_n 2, 1) := by decide +kernel
theorem d_Tr_leastSquareTo_132 : decode c_Tr_leastSquareTo 132 = .ok (.iinc 5 1, 3) := by decide +kernel
theorem d_Tr_leastSquareTo_135 : decode c_Tr_leastSquareTo 135 = .ok (.goto (-116), 3) := by decide +kernel
theorem d_Tr_leastSquareTo_138 : decode c_Tr_leastSquareTo 138 = .ok (.iinc 4 1, 3) := by decide +kernel
theorem d_Tr_leastSquareTo_141 : decode c_Tr_leastSquareTo 141 = .ok (.goto (-134), 3) := by decide +kernel
theorem d_Tr_leastSquareTo_144 : decode c_Tr_leastSquareTo 144 = .ok (.lload_n 2, 1) := by decide +kernel
theorem d_Tr_leastSquareTo_145 : decode c_Tr_leastSquareTo 145 = .ok (.lreturn, 1) := by decide +kernel
theorem d_Tr_gap_0 : decode c_Tr_gap 0 = .ok (.iload_n 2, 1) := by decide +kernel
theorem d_Tr_gap_1 : decode c_Tr_gap 1 = .ok (.iload_n 2, 1) := by decide +kernel
theorem d_Tr_gap_2 : decode c_Tr_gap 2 = .ok (.iload_n 3, 1) := by decide +kernel
theorem d_Tr_gap_3 : decode c_Tr_gap 3 = .ok (.iadd, 1) := by decide +kernel
theorem d_Tr_gap_4 : decode c_Tr_gap 4 = .ok (.invokestatic 76, 3) := by decide +kernel
theorem d_Tr_gap_7 : decode c_Tr_gap 7 = .ok (.iload_n 0, 1) := by decide +kernel
theorem d_Tr_gap_8 : decode c_Tr_gap 8 = .ok (.iload_n 0, 1) := by decide +kernel
theorem d_Tr_gap_9 : decode c_Tr_gap 9 = .ok (.iload_n 1, 1) := by decide +kernel
theorem d_Tr_gap_10 : decode c_Tr_gap 10 = .ok (.iadd, 1) := by decide +kernel
theorem d_Tr_gap_11 : decode c_Tr_gap 11 = .ok (.invokestatic 79, 3) := by decide +kernel
theorem d_Tr_gap_14 : decode c_Tr_gap 14 = .ok (.isub, 1) := by decide +kernel
theorem d_Tr_gap_15 : decode c_Tr_gap 15 = .ok (.istore 4, 2) := by decide +kernel
theorem d_Tr_gap_17 : decode c_Tr_gap 17 = .ok (.iload_n 0, 1) := by decide +kernel
theorem d_Tr_gap_18 : decode c_Tr_gap 18 = .ok (.iload_n 0, 1) := by decide +kernel
theorem d_Tr_gap_19 : decode c_Tr_gap 19 = .ok (.iload_n 1, 1) := by decide +kernel
theorem d_Tr_gap_20 : decode c_Tr_gap 20 = .ok (.iadd, 1) := by decide +kernel
theorem d_Tr_gap_21 : decode c_Tr_gap 21 = .ok (.invokestatic 76, 3) := by decide +kernel
theorem d_Tr_gap_24 : decode c_Tr_gap 24 = .ok (.iload_n 2, 1) := by decide +kernel
theorem d_Tr_gap_25 : decode c_Tr_gap 25 = .ok (.iload_n 2, 1) := by decide +kernel
theorem d_Tr_gap_26 : decode c_Tr_gap 26 = .ok (.iload_n 3, 1) := by decide +kernel
theorem d_Tr_gap_27 : decode c_Tr_gap 27 = .ok (.iadd, 1) := by decide +kernel
theorem d_Tr_gap_28 : decode c_Tr_gap 28 = .ok (.invokestatic 79, 3) := by decide +kernel
theorem d_Tr_gap_31 : decode c_Tr_gap 31 = .ok (.isub, 1) := by decide +kernel
theorem d_Tr_gap_32 : decode c_Tr_gap 32 = .ok (.istore 5, 2) := by decide +kernel
theorem d_Tr_gap_34 : decode c_Tr_gap 34 = .ok (.iconst 0, 1) := by decide +kernel
theorem d_Tr_gap_35 : decode c_Tr_gap 35 = .ok (.iload 4, 2) := by decide +kernel
theorem d_Tr_gap_37 : decode c_Tr_gap 37 = .ok (.iload 5, 2) := by decide +kernel
theorem d_Tr_gap_39 : decode c_Tr_gap 39 = .ok (.invokestatic 79, 3) := by decide +kernel
theorem d_Tr_gap_42 : decode c_Tr_gap 42 = .ok (.invokestatic 79, 3) := by decide +kernel
theorem d_Tr_gap_45 : decode c_Tr_gap 45 = .ok (.ireturn, 1) := by decide +kernel
