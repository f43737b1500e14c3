theorem d_Bc_init_0 : decode c_Bc_init 0 = .ok (.aload_n 0, 1) := by decide +kernel
theorem d_Bc_init_1 : decode c_Bc_init 1 = .ok (.invokespecial 3, 3) := by decide +kernel
theorem d_Bc_init_4 : decode c_Bc_init 4 = .ok (.aload_n 0, 1) := by decide +kernel
theorem d_Bc_init_5 : decode c_Bc_init 5 = .ok (.new 9, 3) := by decide +kernel
theorem d_Bc_init_8 : decode c_Bc_init 8 = .ok (.dup, 1) := by decide +kernel
theorem d_Bc_init_9 : decode c_Bc_init 9 = .ok (.invokespecial 11, 3) := by decide +kernel
theorem d_Bc_init_12 : decode c_Bc_init 12 = .ok (.putfield 12, 3) := by decide +kernel
theorem d_Bc_init_15 : decode c_Bc_init 15 = .ok (.aload_n 0, 1) := by decide +kernel
theorem d_Bc_init_16 : decode c_Bc_init 16 = .ok (.bipush 10, 2) := by decide +kernel
theorem d_Bc_init_18 : decode c_Bc_init 18 = .ok (.anewarray 16, 3) := by decide +kernel
theorem d_Bc_init_21 : decode c_Bc_init 21 = .ok (.putfield 18, 3) := by decide +kernel
theorem d_Bc_init_24 : decode c_Bc_init 24 = .ok (.aload_n 0, 1) := by decide +kernel
theorem d_Bc_init_25 : decode c_Bc_init 25 = .ok (.bipush 12, 2) := by decide +kernel
theorem d_Bc_init_27 : decode c_Bc_init 27 = .ok (.anewarray 22, 3) := by decide +kernel
theorem d_Bc_init_30 : decode c_Bc_init 30 = .ok (.putfield 24, 3) := by decide +kernel
theorem d_Bc_init_33 : decode c_Bc_init 33 = .ok (.aload_n 0, 1) := by decide +kernel
theorem d_Bc_init_34 : decode c_Bc_init 34 = .ok (.bipush 37, 2) := by decide +kernel
theorem d_Bc_init_36 : decode c_Bc_init 36 = .ok (.newarray .int, 2) := by decide +kernel
theorem d_Bc_init_38 : decode c_Bc_init 38 = .ok (.putfield 28, 3) := by decide +kernel
theorem d_Bc_init_41 : decode c_Bc_init 41 = .ok (.aload_n 0, 1) := by decide +kernel
theorem d_Bc_init_42 : decode c_Bc_init 42 = .ok (.bipush 37, 2) := by decide +kernel
theorem d_Bc_init_44 : decode c_Bc_init 44 = .ok (.anewarray 32, 3) := by decide +kernel
theorem d_Bc_init_47 : decode c_Bc_init 47 = .ok (.putfield 34, 3) := by decide +kernel
theorem d_Bc_init_50 : decode c_Bc_init 50 = .ok (.aload_n 0, 1) := by decide +kernel
theorem d_Bc_init_51 : decode c_Bc_init 51 = .ok (.new 38, 3) := by decide +kernel
theorem d_Bc_init_54 : decode c_Bc_init 54 = .ok (.dup, 1) := by decide +kernel
theorem d_Bc_init_55 : decode c_Bc_init 55 = .ok (.invokespecial 40, 3) := by decide +kernel
theorem d_Bc_init_58 : decode c_Bc_init 58 = .ok (.putfield 41, 3) := by decide +kernel
theorem d_Bc_init_61 : decode c_Bc_init 61 = .ok (.aload_n 0, 1) := by decide +kernel
theorem d_Bc_init_62 : decode c_Bc_init 62 = .ok (.new 45, 3) := by decide +kernel
theorem d_Bc_init_65 : decode c_Bc_init 65 = .ok (.dup, 1) := by decide +kernel
theorem d_Bc_init_66 : decode c_Bc_init 66 = .ok (.invokespecial 47, 3) := by decide +kernel
theorem d_Bc_init_69 : decode c_Bc_init 69 = .ok (.putfield 48, 3) := by decide +kernel
theorem d_Bc_init_72 : decode c_Bc_init 72 = .ok (.aload_n 0, 1) := by decide +kernel
theorem d_Bc_init_73 : decode c_Bc_init 73 = .ok (.new 52, 3) := by decide +kernel
theorem d_Bc_init_76 : decode c_Bc_init 76 = .ok (.dup, 1) := by decide +kernel
theorem d_Bc_init_77 : decode c_Bc_init 77 = .ok (.invokespecial 54, 3) := by decide +kernel
theorem d_Bc_init_80 : decode c_Bc_init 80 = .ok (.putfield 55, 3) := by decide +kernel
theorem d_Bc_init_83 : decode c_Bc_init 83 = .ok (.aload_n 0, 1) := by decide +kernel
theorem d_Bc_init_84 : decode c_Bc_init 84 = .ok (.new 59, 3) := by decide +kernel
theorem d_Bc_init_87 : decode c_Bc_init 87 = .ok (.dup, 1) := by decide +kernel
theorem d_Bc_init_88 : decode c_Bc_init 88 = .ok (.invokespecial 61, 3) := by decide +kernel
theorem d_Bc_init_91 : decode c_Bc_init 91 = .ok (.putfield 62, 3) := by decide +kernel
theorem d_Bc_init_94 : decode c_Bc_init 94 = .ok (.aload_n 0, 1) := by decide +kernel
theorem d_Bc_init_95 : decode c_Bc_init 95 = .ok (.new 59, 3) := by decide +kernel
theorem d_Bc_init_98 : decode c_Bc_init 98 = .ok (.dup, 1) := by decide +kernel
theorem d_Bc_init_99 : decode c_Bc_init 99 = .ok (.invokespecial 61, 3) := by decide +kernel
theorem d_Bc_init_102 : decode c_Bc_init 102 = .ok (.putfield 66, 3) := by decide +kernel
theorem d_Bc_init_105 : decode c_Bc_init 105 = .ok (.aload_n 0, 1) := by decide +kernel
theorem d_Bc_init_106 : decode c_Bc_init 106 = .ok (.iconst 0, 1) := by decide +kernel
theorem d_Bc_init_107 : decode c_Bc_init 107 = .ok (.putfield 69, 3) := by decide +kernel
theorem d_Bc_init_110 : decode c_Bc_init 110 = .ok (.aload_n 0, 1) := by decide +kernel
theorem d_Bc_init_111 : decode c_Bc_init 111 = .ok (.iconst 0, 1) := by decide +kernel
theorem d_Bc_init_112 : decode c_Bc_init 112 = .ok (.putfield 73, 3) := by decide +kernel
theorem d_Bc_init_115 : decode c_Bc_init 115 = .ok (.return_, 1) := by decide +kernel
theorem d_Bc_unit_0 : decode c_Bc_unit 0 = .ok (.aload_n 0, 1) := by decide +kernel
theorem d_Bc_unit_1 : decode c_Bc_unit 1 = .ok (.getfield 12, 3) := by decide +kernel
theorem d_Bc_unit_4 : decode c_Bc_unit 4 = .ok (.iload_n 1, 1) := by decide +kernel
theorem d_Bc_unit_5 : decode c_Bc_unit 5 = .ok (.invokevirtual 76, 3) := by decide +kernel
theorem d_Bc_unit_8 : decode c_Bc_unit 8 = .ok (.ireturn, 1) := by decide +kernel
theorem d_Bc_shape_0 : decode c_Bc_shape 0 = .ok (.aload_n 0, 1) := by decide +kernel
theorem d_Bc_shape_1 : decode c_Bc_shape 1 = .ok (.getfield 12, 3) := by decide +kernel
theorem d_Bc_shape_4 : decode c_Bc_shape 4 = .ok (.invokevirtual 80, 3) := by decide +kernel
theorem d_Bc_shape_7 : decode c_Bc_shape 7 = .ok (.istore_n 1, 1) := by decide +kernel
theorem d_Bc_shape_8 : decode c_Bc_shape 8 = .ok (.aload_n 0, 1) := by decide +kernel
theorem d_Bc_shape_9 : decode c_Bc_shape 9 = .ok (.getfield 12, 3) := by decide +kernel
theorem d_Bc_shape_12 : decode c_Bc_shape 12 = .ok (.getfield 84, 3) := by decide +kernel
theorem d_Bc_shape_15 : decode c_Bc_shape 15 = .ok (.istore_n 2, 1) := by decide +kernel
theorem d_Bc_shape_16 : decode c_Bc_shape 16 = .ok (.iload_n 1, 1) := by decide +kernel
theorem d_Bc_shape_17 : decode c_Bc_shape 17 = .ok (.ifCond .ge 22, 3) := by decide +kernel
theorem d_Bc_shape_20 : decode c_Bc_shape 20 = .ok (.aload_n 0, 1) := by decide +kernel
theorem d_Bc_shape_21 : decode c_Bc_shape 21 = .ok (.getfield 69, 3) := by decide +kernel
theorem d_Bc_shape_24 : decode c_Bc_shape 24 = .ok (.bipush 10, 2) := by decide +kernel
theorem d_Bc_shape_26 : decode c_Bc_shape 26 = .ok (.if_icmp .ge 13, 3) := by decide +kernel
theorem d_Bc_shape_29 : decode c_Bc_shape 29 = .ok (.aload_n 0, 1) := by decide +kernel
theorem d_Bc_shape_30 : decode c_Bc_shape 30 = .ok (.getfield 12, 3) := by decide +kernel
theorem d_Bc_shape_33 : decode c_Bc_shape 33 = .ok (.invokevirtual 87, 3) := by decide +kernel
theorem d_Bc_shape_36 : decode c_Bc_shape 36 = .ok (.goto 4, 3) := by decide +kernel
theorem d_Bc_shape_39 : decode c_Bc_shape 39 = .ok (.aconst_null, 1) := by decide +kernel
theorem d_Bc_shape_40 : decode c_Bc_shape 40 = .ok (.astore_n 3, 1) := by decide +kernel
theorem d_Bc_shape_41 : decode c_Bc_shape 41 = .ok (.aload_n 0, 1) := by decide +kernel
theorem d_Bc_shape_42 : decode c_Bc_shape 42 = .ok (.getfield 12, 3) := by decide +kernel
theorem d_Bc_shape_45 : decode c_Bc_shape 45 = .ok (.iconst 0, 1) := by decide +kernel
theorem d_Bc_shape_46 : decode c_Bc_shape 46 = .ok (.putfield 84, 3) := by decide +kernel
theorem d_Bc_shape_49 : decode c_Bc_shape 49 = .ok (.aload_n 3, 1) := by decide +kernel
theorem d_Bc_shape_50 : decode c_Bc_shape 50 = .ok (.ifnonnull 15, 3) := by decide +kernel
theorem d_Bc_shape_53 : decode c_Bc_shape 53 = .ok (.iconst (-1), 1) := by decide +kernel
theorem d_Bc_shape_54 : decode c_Bc_shape 54 = .ok (.iload_n 1, 1) := by decide +kernel
theorem d_Bc_shape_55 : decode c_Bc_shape 55 = .ok (.ifCond .ge 7, 3) := by decide +kernel
theorem d_Bc_shape_58 : decode c_Bc_shape 58 = .ok (.iload_n 2, 1) := by decide +kernel
theorem d_Bc_shape_59 : decode c_Bc_shape 59 = .ok (.goto 4, 3) := by decide +kernel
theorem d_Bc_shape_62 : decode c_Bc_shape 62 = .ok (.iload_n 1, 1) := by decide +kernel
theorem d_Bc_shape_63 : decode c_Bc_shape 63 = .ok (.isub, 1) := by decide +kernel
theorem d_Bc_shape_64 : decode c_Bc_shape 64 = .ok (.ireturn, 1) := by decide +kernel
theorem d_Bc_shape_65 : decode c_Bc_shape 65 = .ok (.aload_n 0, 1) := by decide +kernel
theorem d_Bc_shape_66 : decode c_Bc_shape 66 = .ok (.getfield 18, 3) := by decide +kernel
theorem d_Bc_shape_69 : decode c_Bc_shape 69 = .ok (.aload_n 0, 1) := by decide +kernel
theorem d_Bc_shape_70 : decode c_Bc_shape 70 = .ok (.getfield 69, 3) := by decide +kernel
theorem d_Bc_shape_73 : decode c_Bc_shape 73 = .ok (.aload_n 3, 1) := by decide +kernel
theorem d_Bc_shape_74 : decode c_Bc_shape 74 = .ok (.aastore, 1) := by decide +kernel
theorem d_Bc_shape_75 : decode c_Bc_shape 75 = .ok (.aload_n 0, 1) := by decide +kernel
theorem d_Bc_shape_76 : decode c_Bc_shape 76 = .ok (.dup, 1) := by decide +kernel
theorem d_Bc_shape_77 : decode c_Bc_shape 77 = .ok (.getfield 69, 3) := by decide +kernel
theorem d_Bc_shape_80 : decode c_Bc_shape 80 = .ok (.iconst 1, 1) := by decide +kernel
theorem d_Bc_shape_81 : decode c_Bc_shape 81 = .ok (.iadd, 1) := by decide +kernel
theorem d_Bc_shape_82 : decode c_Bc_shape 82 = .ok (.putfield 69, 3) := by decide +kernel
theorem d_Bc_shape_85 : decode c_Bc_shape 85 = .ok (.aload_n 0, 1) := by decide +kernel
theorem d_Bc_shape_86 : decode c_Bc_shape 86 = .ok (.getfield 69, 3) := by decide +kernel
theorem d_Bc_shape_89 : decode c_Bc_shape 89 = .ok (.iconst 1, 1) := by decide +kernel
theorem d_Bc_shape_90 : decode c_Bc_shape 90 = .ok (.isub, 1) := by decide +kernel
theorem d_Bc_shape_91 : decode c_Bc_shape 91 = .ok (.ireturn, 1) := by decide +kernel
theorem d_Bc_rule_0 : decode c_Bc_rule 0 = .ok (.iload_n 1, 1) := by decide +kernel
theorem d_Bc_rule_1 : decode c_Bc_rule 1 = .ok (.invokestatic 91, 3) := by decide +kernel
theorem d_Bc_rule_4 : decode c_Bc_rule 4 = .ok (.ifCond .eq 17, 3) := by decide +kernel
theorem d_Bc_rule_7 : decode c_Bc_rule 7 = .ok (.lload_n 2, 1) := by decide +kernel
theorem d_Bc_rule_8 : decode c_Bc_rule 8 = .ok (.lconst 0, 1) := by decide +kernel
theorem d_Bc_rule_9 : decode c_Bc_rule 9 = .ok (.lcmp, 1) := by decide +kernel
theorem d_Bc_rule_10 : decode c_Bc_rule 10 = .ok (.ifCond .lt 11, 3) := by decide +kernel
theorem d_Bc_rule_13 : decode c_Bc_rule 13 = .ok (.lload_n 2, 1) := by decide +kernel
theorem d_Bc_rule_14 : decode c_Bc_rule 14 = .ok (.ldc2_w 94, 3) := by decide +kernel
theorem d_Bc_rule_17 : decode c_Bc_rule 17 = .ok (.lcmp, 1) := by decide +kernel
theorem d_Bc_rule_18 : decode c_Bc_rule 18 = .ok (.ifCond .le 5, 3) := by decide +kernel
theorem d_Bc_rule_21 : decode c_Bc_rule 21 = .ok (.iconst 0, 1) := by decide +kernel
theorem d_Bc_rule_22 : decode c_Bc_rule 22 = .ok (.ireturn, 1) := by decide +kernel
theorem d_Bc_rule_23 : decode c_Bc_rule 23 = .ok (.aload_n 0, 1) := by decide +kernel
theorem d_Bc_rule_24 : decode c_Bc_rule 24 = .ok (.getfield 28, 3) := by decide +kernel
theorem d_Bc_rule_27 : decode c_Bc_rule 27 = .ok (.iload_n 1, 1) := by decide +kernel
theorem d_Bc_rule_28 : decode c_Bc_rule 28 = .ok (.iconst 4, 1) := by decide +kernel
theorem d_Bc_rule_29 : decode c_Bc_rule 29 = .ok (.isub, 1) := by decide +kernel
theorem d_Bc_rule_30 : decode c_Bc_rule 30 = .ok (.lload_n 2, 1) := by decide +kernel
theorem d_Bc_rule_31 : decode c_Bc_rule 31 = .ok (.l2i, 1) := by decide +kernel
theorem d_Bc_rule_32 : decode c_Bc_rule 32 = .ok (.iastore, 1) := by decide +kernel
theorem d_Bc_rule_33 : decode c_Bc_rule 33 = .ok (.aload_n 0, 1) := by decide +kernel
theorem d_Bc_rule_34 : decode c_Bc_rule 34 = .ok (.getfield 41, 3) := by decide +kernel
theorem d_Bc_rule_37 : decode c_Bc_rule 37 = .ok (.invokevirtual 96, 3) := by decide +kernel
theorem d_Bc_rule_40 : decode c_Bc_rule 40 = .ok (.iconst 1, 1) := by decide +kernel
theorem d_Bc_rule_41 : decode c_Bc_rule 41 = .ok (.ireturn, 1) := by decide +kernel
theorem d_Bc_bar_0 : decode c_Bc_bar 0 = .ok (.iload_n 1, 1) := by decide +kernel
theorem d_Bc_bar_1 : decode c_Bc_bar 1 = .ok (.ifCond .lt 18, 3) := by decide +kernel
theorem d_Bc_bar_4 : decode c_Bc_bar 4 = .ok (.iload_n 1, 1) := by decide +kernel
theorem d_Bc_bar_5 : decode c_Bc_bar 5 = .ok (.aload_n 0, 1) := by decide +kernel
theorem d_Bc_bar_6 : decode c_Bc_bar 6 = .ok (.getfield 69, 3) := by decide +kernel
theorem d_Bc_bar_9 : decode c_Bc_bar 9 = .ok (.if_icmp .ge 10, 3) := by decide +kernel
theorem d_Bc_bar_12 : decode c_Bc_bar 12 = .ok (.iload_n 2, 1) := by decide +kernel
theorem d_Bc_bar_13 : decode c_Bc_bar 13 = .ok (.invokestatic 91, 3) := by decide +kernel
theorem d_Bc_bar_16 : decode c_Bc_bar 16 = .ok (.ifCond .ne 5, 3) := by decide +kernel
theorem d_Bc_bar_19 : decode c_Bc_bar 19 = .ok (.iconst (-1), 1) := by decide +kernel
theorem d_Bc_bar_20 : decode c_Bc_bar 20 = .ok (.ireturn, 1) := by decide +kernel
theorem d_Bc_bar_21 : decode c_Bc_bar 21 = .ok (.iload_n 3, 1) := by decide +kernel
theorem d_Bc_bar_22 : decode c_Bc_bar 22 = .ok (.iconst 1, 1) := by decide +kernel
theorem d_Bc_bar_23 : decode c_Bc_bar 23 = .ok (.if_icmp .lt 17, 3) := by decide +kernel
theorem d_Bc_bar_26 : decode c_Bc_bar 26 = .ok (.iload_n 3, 1) := by decide +kernel
theorem d_Bc_bar_27 : decode c_Bc_bar 27 = .ok (.iconst 5, 1) := by decide +kernel
theorem d_Bc_bar_28 : decode c_Bc_bar 28 = .ok (.if_icmp .gt 12, 3) := by decide +kernel
theorem d_Bc_bar_31 : decode c_Bc_bar 31 = .ok (.aload_n 0, 1) := by decide +kernel
theorem d_Bc_bar_32 : decode c_Bc_bar 32 = .ok (.getfield 73, 3) := by decide +kernel
theorem d_Bc_bar_35 : decode c_Bc_bar 35 = .ok (.bipush 12, 2) := by decide +kernel
theorem d_Bc_bar_37 : decode c_Bc_bar 37 = .ok (.if_icmp .lt 5, 3) := by decide +kernel
theorem d_Bc_bar_40 : decode c_Bc_bar 40 = .ok (.iconst (-1), 1) := by decide +kernel
theorem d_Bc_bar_41 : decode c_Bc_bar 41 = .ok (.ireturn, 1) := by decide +kernel
theorem d_Bc_bar_42 : decode c_Bc_bar 42 = .ok (.aload_n 0, 1) := by decide +kernel
theorem d_Bc_bar_43 : decode c_Bc_bar 43 = .ok (.getfield 24, 3) := by decide +kernel
theorem d_Bc_bar_46 : decode c_Bc_bar 46 = .ok (.aload_n 0, 1) := by decide +kernel
theorem d_Bc_bar_47 : decode c_Bc_bar 47 = .ok (.getfield 73, 3) := by decide +kernel
theorem d_Bc_bar_50 : decode c_Bc_bar 50 = .ok (.new 22, 3) := by decide +kernel
theorem d_Bc_bar_53 : decode c_Bc_bar 53 = .ok (.dup, 1) := by decide +kernel
theorem d_Bc_bar_54 : decode c_Bc_bar 54 = .ok (.iload_n 1, 1) := by decide +kernel
theorem d_Bc_bar_55 : decode c_Bc_bar 55 = .ok (.aload_n 0, 1) := by decide +kernel
theorem d_Bc_bar_56 : decode c_Bc_bar 56 = .ok (.getfield 18, 3) := by decide +kernel
theorem d_Bc_bar_59 : decode c_Bc_bar 59 = .ok (.iload_n 1, 1) := by decide +kernel
theorem d_Bc_bar_60 : decode c_Bc_bar 60 = .ok (.aaload, 1) := by decide +kernel
theorem d_Bc_bar_61 : decode c_Bc_bar 61 = .ok (.iload_n 2, 1) := by decide +kernel
theorem d_Bc_bar_62 : decode c_Bc_bar 62 = .ok (.iload_n 3, 1) := by decide +kernel
theorem d_Bc_bar_63 : decode c_Bc_bar 63 = .ok (.invokespecial 99, 3) := by decide +kernel
theorem d_Bc_bar_66 : decode c_Bc_bar 66 = .ok (.aastore, 1) := by decide +kernel
theorem d_Bc_bar_67 : decode c_Bc_bar 67 = .ok (.aload_n 0, 1) := by decide +kernel
theorem d_Bc_bar_68 : decode c_Bc_bar 68 = .ok (.dup, 1) := by decide +kernel
theorem d_Bc_bar_69 : decode c_Bc_bar 69 = .ok (.getfield 73, 3) := by decide +kernel
theorem d_Bc_bar_72 : decode c_Bc_bar 72 = .ok (.iconst 1, 1) := by decide +kernel
theorem d_Bc_bar_73 : decode c_Bc_bar 73 = .ok (.iadd, 1) := by decide +kernel
theorem d_Bc_bar_74 : decode c_Bc_bar 74 = .ok (.putfield 73, 3) := by decide +kernel
theorem d_Bc_bar_77 : decode c_Bc_bar 77 = .ok (.aload_n 0, 1) := by decide +kernel
theorem d_Bc_bar_78 : decode c_Bc_bar 78 = .ok (.getfield 41, 3) := by decide +kernel
theorem d_Bc_bar_81 : decode c_Bc_bar 81 = .ok (.invokevirtual 96, 3) := by decide +kernel
theorem d_Bc_bar_84 : decode c_Bc_bar 84 = .ok (.aload_n 0, 1) := by decide +kernel
theorem d_Bc_bar_85 : decode c_Bc_bar 85 = .ok (.getfield 73, 3) := by decide +kernel
theorem d_Bc_bar_88 : decode c_Bc_bar 88 = .ok (.iconst 1, 1) := by decide +kernel
theorem d_Bc_bar_89 : decode c_Bc_bar 89 = .ok (.isub, 1) := by decide +kernel
theorem d_Bc_bar_90 : decode c_Bc_bar 90 = .ok (.ireturn, 1) := by decide +kernel
theorem d_Bc_leg_0 : decode c_Bc_leg 0 = .ok (.aload_n 0, 1) := by decide +kernel
theorem d_Bc_leg_1 : decode c_Bc_leg 1 = .ok (.iload_n 1, 1) := by decide +kernel
theorem d_Bc_leg_2 : decode c_Bc_leg 2 = .ok (.invokevirtual 102, 3) := by decide +kernel
theorem d_Bc_leg_5 : decode c_Bc_leg 5 = .ok (.astore 5, 2) := by decide +kernel
theorem d_Bc_leg_7 : decode c_Bc_leg 7 = .ok (.aload 5, 2) := by decide +kernel
theorem d_Bc_leg_9 : decode c_Bc_leg 9 = .ok (.ifnull 33, 3) := by decide +kernel
theorem d_Bc_leg_12 : decode c_Bc_leg 12 = .ok (.iload_n 2, 1) := by decide +kernel
theorem d_Bc_leg_13 : decode c_Bc_leg 13 = .ok (.ifCond .lt 29, 3) := by decide +kernel
theorem d_Bc_leg_16 : decode c_Bc_leg 16 = .ok (.iload_n 2, 1) := by decide +kernel
theorem d_Bc_leg_17 : decode c_Bc_leg 17 = .ok (.aload 5, 2) := by decide +kernel
theorem d_Bc_leg_19 : decode c_Bc_leg 19 = .ok (.getfield 106, 3) := by decide +kernel
theorem d_Bc_leg_22 : decode c_Bc_leg 22 = .ok (.getfield 110, 3) := by decide +kernel
theorem d_Bc_leg_25 : decode c_Bc_leg 25 = .ok (.if_icmp .ge 17, 3) := by decide +kernel
theorem d_Bc_leg_28 : decode c_Bc_leg 28 = .ok (.lload_n 3, 1) := by decide +kernel
theorem d_Bc_leg_29 : decode c_Bc_leg 29 = .ok (.lconst 1, 1) := by decide +kernel
theorem d_Bc_leg_30 : decode c_Bc_leg 30 = .ok (.lcmp, 1) := by decide +kernel
theorem d_Bc_leg_31 : decode c_Bc_leg 31 = .ok (.ifCond .lt 11, 3) := by decide +kernel
theorem d_Bc_leg_34 : decode c_Bc_leg 34 = .ok (.lload_n 3, 1) := by decide +kernel
theorem d_Bc_leg_35 : decode c_Bc_leg 35 = .ok (.ldc2_w 113, 3) := by decide +kernel
theorem d_Bc_leg_38 : decode c_Bc_leg 38 = .ok (.lcmp, 1) := by decide +kernel
theorem d_Bc_leg_39 : decode c_Bc_leg 39 = .ok (.ifCond .le 5, 3) := by decide +kernel
theorem d_Bc_leg_42 : decode c_Bc_leg 42 = .ok (.iconst 0, 1) := by decide +kernel
theorem d_Bc_leg_43 : decode c_Bc_leg 43 = .ok (.ireturn, 1) := by decide +kernel
theorem d_Bc_leg_44 : decode c_Bc_leg 44 = .ok (.aload 5, 2) := by decide +kernel
theorem d_Bc_leg_46 : decode c_Bc_leg 46 = .ok (.getfield 115, 3) := by decide +kernel
theorem d_Bc_leg_49 : decode c_Bc_leg 49 = .ok (.iload_n 2, 1) := by decide +kernel
theorem d_Bc_leg_50 : decode c_Bc_leg 50 = .ok (.lload_n 3, 1) := by decide +kernel
theorem d_Bc_leg_51 : decode c_Bc_leg 51 = .ok (.l2i, 1) := by decide +kernel
theorem d_Bc_leg_52 : decode c_Bc_leg 52 = .ok (.iastore, 1) := by decide +kernel
theorem d_Bc_leg_53 : decode c_Bc_leg 53 = .ok (.aload_n 0, 1) := by decide +kernel
theorem d_Bc_leg_54 : decode c_Bc_leg 54 = .ok (.getfield 41, 3) := by decide +kernel
theorem d_Bc_leg_57 : decode c_Bc_leg 57 = .ok (.invokevirtual 96, 3) := by decide +kernel
theorem d_Bc_leg_60 : decode c_Bc_leg 60 = .ok (.iconst 1, 1) := by decide +kernel
theorem d_Bc_leg_61 : decode c_Bc_leg 61 = .ok (.ireturn, 1) := by decide +kernel
theorem d_Bc_length_0 : decode c_Bc_length 0 = .ok (.aload_n 0, 1) := by decide +kernel
theorem d_Bc_length_1 : decode c_Bc_length 1 = .ok (.iload_n 1, 1) := by decide +kernel
theorem d_Bc_length_2 : decode c_Bc_length 2 = .ok (.invokevirtual 102, 3) := by decide +kernel
theorem d_Bc_length_5 : decode c_Bc_length 5 = .ok (.astore_n 3, 1) := by decide +kernel
theorem d_Bc_length_6 : decode c_Bc_length 6 = .ok (.aload_n 3, 1) := by decide +kernel
theorem d_Bc_length_7 : decode c_Bc_length 7 = .ok (.ifnonnull 7, 3) := by decide +kernel
theorem d_Bc_length_10 : decode c_Bc_length 10 = .ok (.ldc2_w 117, 3) := by decide +kernel
theorem d_Bc_length_13 : decode c_Bc_length 13 = .ok (.lreturn, 1) := by decide +kernel
theorem d_Bc_length_14 : decode c_Bc_length 14 = .ok (.iload_n 2, 1) := by decide +kernel
theorem d_Bc_length_15 : decode c_Bc_length 15 = .ok (.tableswitch 64 0 4 #[33, 40, 46, 52, 58], 33) := by decide +kernel
theorem d_Bc_length_48 : decode c_Bc_length 48 = .ok (.aload_n 0, 1) := by decide +kernel
theorem d_Bc_length_49 : decode c_Bc_length 49 = .ok (.aload_n 3, 1) := by decide +kernel
theorem d_Bc_length_50 : decode c_Bc_length 50 = .ok (.invokevirtual 119, 3) := by decide +kernel
theorem d_Bc_length_53 : decode c_Bc_length 53 = .ok (.i2l, 1) := by decide +kernel
theorem d_Bc_length_54 : decode c_Bc_length 54 = .ok (.lreturn, 1) := by decide +kernel
theorem d_Bc_length_55 : decode c_Bc_length 55 = .ok (.aload_n 3, 1) := by decide +kernel
theorem d_Bc_length_56 : decode c_Bc_length 56 = .ok (.getfield 123, 3) := by decide +kernel
theorem d_Bc_length_59 : decode c_Bc_length 59 = .ok (.i2l, 1) := by decide +kernel
theorem d_Bc_length_60 : decode c_Bc_length 60 = .ok (.lreturn, 1) := by decide +kernel
theorem d_Bc_length_61 : decode c_Bc_length 61 = .ok (.aload_n 3, 1) := by decide +kernel
theorem d_Bc_length_62 : decode c_Bc_length 62 = .ok (.invokevirtual 126, 3) := by decide +kernel
theorem d_Bc_length_65 : decode c_Bc_length 65 = .ok (.i2l, 1) := by decide +kernel
theorem d_Bc_length_66 : decode c_Bc_length 66 = .ok (.lreturn, 1) := by decide +kernel
theorem d_Bc_length_67 : decode c_Bc_length 67 = .ok (.aload_n 3, 1) := by decide +kernel
theorem d_Bc_length_68 : decode c_Bc_length 68 = .ok (.getfield 129, 3) := by decide +kernel
theorem d_Bc_length_71 : decode c_Bc_length 71 = .ok (.i2l, 1) := by decide +kernel
theorem d_Bc_length_72 : decode c_Bc_length 72 = .ok (.lreturn, 1) := by decide +kernel
theorem d_Bc_length_73 : decode c_Bc_length 73 = .ok (.aload_n 3, 1) := by decide +kernel
theorem d_Bc_length_74 : decode c_Bc_length 74 = .ok (.getfield 132, 3) := by decide +kernel
theorem d_Bc_length_77 : decode c_Bc_length 77 = .ok (.i2l, 1) := by decide +kernel
theorem d_Bc_length_78 : decode c_Bc_length 78 = .ok (.lreturn, 1) := by decide +kernel
theorem d_Bc_length_79 : decode c_Bc_length 79 = .ok (.ldc2_w 117, 3) := by decide +kernel
theorem d_Bc_length_82 : decode c_Bc_length 82 = .ok (.lreturn, 1) := by decide +kernel
theorem d_Bc_stock_0 : decode c_Bc_stock 0 = .ok (.iload_n 1, 1) := by decide +kernel
theorem d_Bc_stock_1 : decode c_Bc_stock 1 = .ok (.invokestatic 91, 3) := by decide +kernel
theorem d_Bc_stock_4 : decode c_Bc_stock 4 = .ok (.ifCond .eq 17, 3) := by decide +kernel
theorem d_Bc_stock_7 : decode c_Bc_stock 7 = .ok (.lload_n 2, 1) := by decide +kernel
theorem d_Bc_stock_8 : decode c_Bc_stock 8 = .ok (.lconst 1, 1) := by decide +kernel
theorem d_Bc_stock_9 : decode c_Bc_stock 9 = .ok (.lcmp, 1) := by decide +kernel
theorem d_Bc_stock_10 : decode c_Bc_stock 10 = .ok (.ifCond .lt 11, 3) := by decide +kernel
theorem d_Bc_stock_13 : decode c_Bc_stock 13 = .ok (.lload_n 2, 1) := by decide +kernel
theorem d_Bc_stock_14 : decode c_Bc_stock 14 = .ok (.ldc2_w 135, 3) := by decide +kernel
theorem d_Bc_stock_17 : decode c_Bc_stock 17 = .ok (.lcmp, 1) := by decide +kernel
theorem d_Bc_stock_18 : decode c_Bc_stock 18 = .ok (.ifCond .le 5, 3) := by decide +kernel
theorem d_Bc_stock_21 : decode c_Bc_stock 21 = .ok (.iconst 0, 1) := by decide +kernel
theorem d_Bc_stock_22 : decode c_Bc_stock 22 = .ok (.ireturn, 1) := by decide +kernel
theorem d_Bc_stock_23 : decode c_Bc_stock 23 = .ok (.iload 4, 2) := by decide +kernel
theorem d_Bc_stock_25 : decode c_Bc_stock 25 = .ok (.ifCond .lt 10, 3) := by decide +kernel
theorem d_Bc_stock_28 : decode c_Bc_stock 28 = .ok (.iload 4, 2) := by decide +kernel
theorem d_Bc_stock_30 : decode c_Bc_stock 30 = .ok (.bipush 20, 2) := by decide +kernel
theorem d_Bc_stock_32 : decode c_Bc_stock 32 = .ok (.if_icmp .le 5, 3) := by decide +kernel
theorem d_Bc_stock_35 : decode c_Bc_stock 35 = .ok (.iconst 0, 1) := by decide +kernel
theorem d_Bc_stock_36 : decode c_Bc_stock 36 = .ok (.ireturn, 1) := by decide +kernel
theorem d_Bc_stock_37 : decode c_Bc_stock 37 = .ok (.aload_n 0, 1) := by decide +kernel
theorem d_Bc_stock_38 : decode c_Bc_stock 38 = .ok (.getfield 34, 3) := by decide +kernel
theorem d_Bc_stock_41 : decode c_Bc_stock 41 = .ok (.iload_n 1, 1) := by decide +kernel
theorem d_Bc_stock_42 : decode c_Bc_stock 42 = .ok (.iconst 4, 1) := by decide +kernel
theorem d_Bc_stock_43 : decode c_Bc_stock 43 = .ok (.isub, 1) := by decide +kernel
theorem d_Bc_stock_44 : decode c_Bc_stock 44 = .ok (.aaload, 1) := by decide +kernel
theorem d_Bc_stock_45 : decode c_Bc_stock 45 = .ok (.astore 5, 2) := by decide +kernel
theorem d_Bc_stock_47 : decode c_Bc_stock 47 = .ok (.aload 5, 2) := by decide +kernel
theorem d_Bc_stock_49 : decode c_Bc_stock 49 = .ok (.ifnonnull 22, 3) := by decide +kernel
theorem d_Bc_stock_52 : decode c_Bc_stock 52 = .ok (.new 32, 3) := by decide +kernel
theorem d_Bc_stock_55 : decode c_Bc_stock 55 = .ok (.dup, 1) := by decide +kernel
theorem d_Bc_stock_56 : decode c_Bc_stock 56 = .ok (.invokespecial 137, 3) := by decide +kernel
theorem d_Bc_stock_59 : decode c_Bc_stock 59 = .ok (.astore 5, 2) := by decide +kernel
theorem d_Bc_stock_61 : decode c_Bc_stock 61 = .ok (.aload_n 0, 1) := by decide +kernel
theorem d_Bc_stock_62 : decode c_Bc_stock 62 = .ok (.getfield 34, 3) := by decide +kernel
theorem d_Bc_stock_65 : decode c_Bc_stock 65 = .ok (.iload_n 1, 1) := by decide +kernel
theorem d_Bc_stock_66 : decode c_Bc_stock 66 = .ok (.iconst 4, 1) := by decide +kernel
theorem d_Bc_stock_67 : decode c_Bc_stock 67 = .ok (.isub, 1) := by decide +kernel
theorem d_Bc_stock_68 : decode c_Bc_stock 68 = .ok (.aload 5, 2) := by decide +kernel
theorem d_Bc_stock_70 : decode c_Bc_stock 70 = .ok (.aastore, 1) := by decide +kernel
theorem d_Bc_stock_71 : decode c_Bc_stock 71 = .ok (.aload 5, 2) := by decide +kernel
theorem d_Bc_stock_73 : decode c_Bc_stock 73 = .ok (.lload_n 2, 1) := by decide +kernel
theorem d_Bc_stock_74 : decode c_Bc_stock 74 = .ok (.l2i, 1) := by decide +kernel
theorem d_Bc_stock_75 : decode c_Bc_stock 75 = .ok (.iload 4, 2) := by decide +kernel
theorem d_Bc_stock_77 : decode c_Bc_stock 77 = .ok (.invokevirtual 138, 3) := by decide +kernel
theorem d_Bc_stock_80 : decode c_Bc_stock 80 = .ok (.ifCond .ne 5, 3) := by decide +kernel
theorem d_Bc_stock_83 : decode c_Bc_stock 83 = .ok (.iconst 0, 1) := by decide +kernel
theorem d_Bc_stock_84 : decode c_Bc_stock 84 = .ok (.ireturn, 1) := by decide +kernel
theorem d_Bc_stock_85 : decode c_Bc_stock 85 = .ok (.aload_n 0, 1) := by decide +kernel
theorem d_Bc_stock_86 : decode c_Bc_stock 86 = .ok (.getfield 41, 3) := by decide +kernel
theorem d_Bc_stock_89 : decode c_Bc_stock 89 = .ok (.invokevirtual 96, 3) := by decide +kernel
theorem d_Bc_stock_92 : decode c_Bc_stock 92 = .ok (.iconst 1, 1) := by decide +kernel
theorem d_Bc_stock_93 : decode c_Bc_stock 93 = .ok (.ireturn, 1) := by decide +kernel
theorem d_Bc_run_0 : decode c_Bc_run 0 = .ok (.lload_n 1, 1) := by decide +kernel
theorem d_Bc_run_1 : decode c_Bc_run 1 = .ok (.lconst 0, 1) := by decide +kernel
theorem d_Bc_run_2 : decode c_Bc_run 2 = .ok (.lcmp, 1) := by decide +kernel
theorem d_Bc_run_3 : decode c_Bc_run 3 = .ok (.ifCond .lt 11, 3) := by decide +kernel
theorem d_Bc_run_6 : decode c_Bc_run 6 = .ok (.lload_n 1, 1) := by decide +kernel
theorem d_Bc_run_7 : decode c_Bc_run 7 = .ok (.ldc2_w 142, 3) := by decide +kernel
theorem d_Bc_run_10 : decode c_Bc_run 10 = .ok (.lcmp, 1) := by decide +kernel
theorem d_Bc_run_11 : decode c_Bc_run 11 = .ok (.ifCond .le 5, 3) := by decide +kernel
theorem d_Bc_run_14 : decode c_Bc_run 14 = .ok (.iconst (-1), 1) := by decide +kernel
theorem d_Bc_run_15 : decode c_Bc_run 15 = .ok (.ireturn, 1) := by decide +kernel
theorem d_Bc_run_16 : decode c_Bc_run 16 = .ok (.aload_n 0, 1) := by decide +kernel
theorem d_Bc_run_17 : decode c_Bc_run 17 = .ok (.getfield 41, 3) := by decide +kernel
theorem d_Bc_run_20 : decode c_Bc_run 20 = .ok (.invokevirtual 96, 3) := by decide +kernel
theorem d_Bc_run_23 : decode c_Bc_run 23 = .ok (.iconst 4, 1) := by decide +kernel
theorem d_Bc_run_24 : decode c_Bc_run 24 = .ok (.istore_n 3, 1) := by decide +kernel
theorem d_Bc_run_25 : decode c_Bc_run 25 = .ok (.iload_n 3, 1) := by decide +kernel
theorem d_Bc_run_26 : decode c_Bc_run 26 = .ok (.bipush 40, 2) := by decide +kernel
theorem d_Bc_run_28 : decode c_Bc_run 28 = .ok (.if_icmp .gt 28, 3) := by decide +kernel
theorem d_Bc_run_31 : decode c_Bc_run 31 = .ok (.aload_n 0, 1) := by decide +kernel
theorem d_Bc_run_32 : decode c_Bc_run 32 = .ok (.iload_n 3, 1) := by decide +kernel
theorem d_Bc_run_33 : decode c_Bc_run 33 = .ok (.lload_n 1, 1) := by decide +kernel
theorem d_Bc_run_34 : decode c_Bc_run 34 = .ok (.l2i, 1) := by decide +kernel
theorem d_Bc_run_35 : decode c_Bc_run 35 = .ok (.invokevirtual 144, 3) := by decide +kernel
theorem d_Bc_run_38 : decode c_Bc_run 38 = .ok (.ifCond .ne 12, 3) := by decide +kernel
theorem d_Bc_run_41 : decode c_Bc_run 41 = .ok (.aload_n 0, 1) := by decide +kernel
theorem d_Bc_run_42 : decode c_Bc_run 42 = .ok (.getfield 41, 3) := by decide +kernel
theorem d_Bc_run_45 : decode c_Bc_run 45 = .ok (.invokevirtual 96, 3) := by decide +kernel
theorem d_Bc_run_48 : decode c_Bc_run 48 = .ok (.iconst (-1), 1) := by decide +kernel
theorem d_Bc_run_49 : decode c_Bc_run 49 = .ok (.ireturn, 1) := by decide +kernel
theorem d_Bc_run_50 : decode c_Bc_run 50 = .ok (.iinc 3 1, 3) := by decide +kernel
theorem d_Bc_run_53 : decode c_Bc_run 53 = .ok (.goto (-28), 3) := by decide +kernel
theorem d_Bc_run_56 : decode c_Bc_run 56 = .ok (.aload_n 0, 1) := by decide +kernel
theorem d_Bc_run_57 : decode c_Bc_run 57 = .ok (.getfield 41, 3) := by decide +kernel
theorem d_Bc_run_60 : decode c_Bc_run 60 = .ok (.iconst 1, 1) := by decide +kernel
theorem d_Bc_run_61 : decode c_Bc_run 61 = .ok (.putfield 147, 3) := by decide +kernel
theorem d_Bc_run_64 : decode c_Bc_run 64 = .ok (.aload_n 0, 1) := by decide +kernel
theorem d_Bc_run_65 : decode c_Bc_run 65 = .ok (.getfield 41, 3) := by decide +kernel
theorem d_Bc_run_68 : decode c_Bc_run 68 = .ok (.getfield 151, 3) := by decide +kernel
theorem d_Bc_run_71 : decode c_Bc_run 71 = .ok (.ireturn, 1) := by decide +kernel
theorem d_Bc_loss_0 : decode c_Bc_loss 0 = .ok (.aload_n 0, 1) := by decide +kernel
theorem d_Bc_loss_1 : decode c_Bc_loss 1 = .ok (.getfield 41, 3) := by decide +kernel
theorem d_Bc_loss_4 : decode c_Bc_loss 4 = .ok (.getfield 147, 3) := by decide +kernel
theorem d_Bc_loss_7 : decode c_Bc_loss 7 = .ok (.ifCond .ne 7, 3) := by decide +kernel
theorem d_Bc_loss_10 : decode c_Bc_loss 10 = .ok (.ldc2_w 117, 3) := by decide +kernel
theorem d_Bc_loss_13 : decode c_Bc_loss 13 = .ok (.lreturn, 1) := by decide +kernel
theorem d_Bc_loss_14 : decode c_Bc_loss 14 = .ok (.iload_n 1, 1) := by decide +kernel
theorem d_Bc_loss_15 : decode c_Bc_loss 15 = .ok (.tableswitch 60 0 2 #[25, 42, 51], 25) := by decide +kernel
theorem d_Bc_loss_40 : decode c_Bc_loss 40 = .ok (.aload_n 0, 1) := by decide +kernel
theorem d_Bc_loss_41 : decode c_Bc_loss 41 = .ok (.getfield 41, 3) := by decide +kernel
theorem d_Bc_loss_44 : decode c_Bc_loss 44 = .ok (.invokevirtual 152, 3) := by decide +kernel
theorem d_Bc_loss_47 : decode c_Bc_loss 47 = .ok (.aload_n 0, 1) := by decide +kernel
theorem d_Bc_loss_48 : decode c_Bc_loss 48 = .ok (.getfield 41, 3) := by decide +kernel
theorem d_Bc_loss_51 : decode c_Bc_loss 51 = .ok (.invokevirtual 155, 3) := by decide +kernel
theorem d_Bc_loss_54 : decode c_Bc_loss 54 = .ok (.isub, 1) := by decide +kernel
theorem d_Bc_loss_55 : decode c_Bc_loss 55 = .ok (.i2l, 1) := by decide +kernel
theorem d_Bc_loss_56 : decode c_Bc_loss 56 = .ok (.lreturn, 1) := by decide +kernel
theorem d_Bc_loss_57 : decode c_Bc_loss 57 = .ok (.aload_n 0, 1) := by decide +kernel
theorem d_Bc_loss_58 : decode c_Bc_loss 58 = .ok (.getfield 41, 3) := by decide +kernel
theorem d_Bc_loss_61 : decode c_Bc_loss 61 = .ok (.invokevirtual 152, 3) := by decide +kernel
theorem d_Bc_loss_64 : decode c_Bc_loss 64 = .ok (.i2l, 1) := by decide +kernel
theorem d_Bc_loss_65 : decode c_Bc_loss 65 = .ok (.lreturn, 1) := by decide +kernel
theorem d_Bc_loss_66 : decode c_Bc_loss 66 = .ok (.aload_n 0, 1) := by decide +kernel
theorem d_Bc_loss_67 : decode c_Bc_loss 67 = .ok (.getfield 41, 3) := by decide +kernel
theorem d_Bc_loss_70 : decode c_Bc_loss 70 = .ok (.invokevirtual 155, 3) := by decide +kernel
theorem d_Bc_loss_73 : decode c_Bc_loss 73 = .ok (.i2l, 1) := by decide +kernel
theorem d_Bc_loss_74 : decode c_Bc_loss 74 = .ok (.lreturn, 1) := by decide +kernel
theorem d_Bc_loss_75 : decode c_Bc_loss 75 = .ok (.ldc2_w 117, 3) := by decide +kernel
theorem d_Bc_loss_78 : decode c_Bc_loss 78 = .ok (.lreturn, 1) := by decide +kernel
theorem d_Bc_bound_0 : decode c_Bc_bound 0 = .ok (.aload_n 0, 1) := by decide +kernel
theorem d_Bc_bound_1 : decode c_Bc_bound 1 = .ok (.getfield 41, 3) := by decide +kernel
theorem d_Bc_bound_4 : decode c_Bc_bound 4 = .ok (.getfield 147, 3) := by decide +kernel
theorem d_Bc_bound_7 : decode c_Bc_bound 7 = .ok (.ifCond .ne 7, 3) := by decide +kernel
theorem d_Bc_bound_10 : decode c_Bc_bound 10 = .ok (.ldc2_w 117, 3) := by decide +kernel
theorem d_Bc_bound_13 : decode c_Bc_bound 13 = .ok (.lreturn, 1) := by decide +kernel
theorem d_Bc_bound_14 : decode c_Bc_bound 14 = .ok (.iload_n 1, 1) := by decide +kernel
theorem d_Bc_bound_15 : decode c_Bc_bound 15 = .ok (.lookupswitch 43 #[(0, 25), (1, 34)], 25) := by decide +kernel
theorem d_Bc_bound_40 : decode c_Bc_bound 40 = .ok (.aload_n 0, 1) := by decide +kernel
theorem d_Bc_bound_41 : decode c_Bc_bound 41 = .ok (.getfield 41, 3) := by decide +kernel
theorem d_Bc_bound_44 : decode c_Bc_bound 44 = .ok (.invokevirtual 155, 3) := by decide +kernel
theorem d_Bc_bound_47 : decode c_Bc_bound 47 = .ok (.i2l, 1) := by decide +kernel
theorem d_Bc_bound_48 : decode c_Bc_bound 48 = .ok (.lreturn, 1) := by decide +kernel
theorem d_Bc_bound_49 : decode c_Bc_bound 49 = .ok (.aload_n 0, 1) := by decide +kernel
theorem d_Bc_bound_50 : decode c_Bc_bound 50 = .ok (.getfield 41, 3) := by decide +kernel
theorem d_Bc_bound_53 : decode c_Bc_bound 53 = .ok (.getfield 158, 3) := by decide +kernel
theorem d_Bc_bound_56 : decode c_Bc_bound 56 = .ok (.i2l, 1) := by decide +kernel
theorem d_Bc_bound_57 : decode c_Bc_bound 57 = .ok (.lreturn, 1) := by decide +kernel
theorem d_Bc_bound_58 : decode c_Bc_bound 58 = .ok (.ldc2_w 117, 3) := by decide +kernel
theorem d_Bc_bound_61 : decode c_Bc_bound 61 = .ok (.lreturn, 1) := by decide +kernel
theorem d_Bc_proved_0 : decode c_Bc_proved 0 = .ok (.aload_n 0, 1) := by decide +kernel
theorem d_Bc_proved_1 : decode c_Bc_proved 1 = .ok (.getfield 41, 3) := by decide +kernel
theorem d_Bc_proved_4 : decode c_Bc_proved 4 = .ok (.getfield 147, 3) := by decide +kernel
theorem d_Bc_proved_7 : decode c_Bc_proved 7 = .ok (.ifCond .eq 24, 3) := by decide +kernel
theorem d_Bc_proved_10 : decode c_Bc_proved 10 = .ok (.aload_n 0, 1) := by decide +kernel
theorem d_Bc_proved_11 : decode c_Bc_proved 11 = .ok (.getfield 41, 3) := by decide +kernel
theorem d_Bc_proved_14 : decode c_Bc_proved 14 = .ok (.getfield 158, 3) := by decide +kernel
theorem d_Bc_proved_17 : decode c_Bc_proved 17 = .ok (.aload_n 0, 1) := by decide +kernel
theorem d_Bc_proved_18 : decode c_Bc_proved 18 = .ok (.getfield 41, 3) := by decide +kernel
theorem d_Bc_proved_21 : decode c_Bc_proved 21 = .ok (.getfield 161, 3) := by decide +kernel
theorem d_Bc_proved_24 : decode c_Bc_proved 24 = .ok (.if_icmp .ne 7, 3) := by decide +kernel
theorem d_Bc_proved_27 : decode c_Bc_proved 27 = .ok (.iconst 1, 1) := by decide +kernel
theorem d_Bc_proved_28 : decode c_Bc_proved 28 = .ok (.goto 4, 3) := by decide +kernel
theorem d_Bc_proved_31 : decode c_Bc_proved 31 = .ok (.iconst 0, 1) := by decide +kernel
theorem d_Bc_proved_32 : decode c_Bc_proved 32 = .ok (.ireturn, 1) := by decide +kernel
theorem d_Bc_pattern_0 : decode c_Bc_pattern 0 = .ok (.aload_n 0, 1) := by decide +kernel
theorem d_Bc_pattern_1 : decode c_Bc_pattern 1 = .ok (.getfield 41, 3) := by decide +kernel
theorem d_Bc_pattern_4 : decode c_Bc_pattern 4 = .ok (.getfield 147, 3) := by decide +kernel
theorem d_Bc_pattern_7 : decode c_Bc_pattern 7 = .ok (.ifCond .eq 18, 3) := by decide +kernel
theorem d_Bc_pattern_10 : decode c_Bc_pattern 10 = .ok (.iload_n 1, 1) := by decide +kernel
theorem d_Bc_pattern_11 : decode c_Bc_pattern 11 = .ok (.ifCond .lt 14, 3) := by decide +kernel
theorem d_Bc_pattern_14 : decode c_Bc_pattern 14 = .ok (.iload_n 1, 1) := by decide +kernel
theorem d_Bc_pattern_15 : decode c_Bc_pattern 15 = .ok (.aload_n 0, 1) := by decide +kernel
theorem d_Bc_pattern_16 : decode c_Bc_pattern 16 = .ok (.getfield 41, 3) := by decide +kernel
theorem d_Bc_pattern_19 : decode c_Bc_pattern 19 = .ok (.getfield 151, 3) := by decide +kernel
theorem d_Bc_pattern_22 : decode c_Bc_pattern 22 = .ok (.if_icmp .lt 5, 3) := by decide +kernel
theorem d_Bc_pattern_25 : decode c_Bc_pattern 25 = .ok (.iconst (-1), 1) := by decide +kernel
theorem d_Bc_pattern_26 : decode c_Bc_pattern 26 = .ok (.ireturn, 1) := by decide +kernel
theorem d_Bc_pattern_27 : decode c_Bc_pattern 27 = .ok (.iload_n 2, 1) := by decide +kernel
theorem d_Bc_pattern_28 : decode c_Bc_pattern 28 = .ok (.tableswitch 58 0 2 #[28, 38, 48], 28) := by decide +kernel
theorem d_Bc_pattern_56 : decode c_Bc_pattern 56 = .ok (.aload_n 0, 1) := by decide +kernel
theorem d_Bc_pattern_57 : decode c_Bc_pattern 57 = .ok (.getfield 41, 3) := by decide +kernel
theorem d_Bc_pattern_60 : decode c_Bc_pattern 60 = .ok (.getfield 164, 3) := by decide +kernel
theorem d_Bc_pattern_63 : decode c_Bc_pattern 63 = .ok (.iload_n 1, 1) := by decide +kernel
theorem d_Bc_pattern_64 : decode c_Bc_pattern 64 = .ok (.iaload, 1) := by decide +kernel
theorem d_Bc_pattern_65 : decode c_Bc_pattern 65 = .ok (.ireturn, 1) := by decide +kernel
theorem d_Bc_pattern_66 : decode c_Bc_pattern 66 = .ok (.aload_n 0, 1) := by decide +kernel
theorem d_Bc_pattern_67 : decode c_Bc_pattern 67 = .ok (.getfield 41, 3) := by decide +kernel
theorem d_Bc_pattern_70 : decode c_Bc_pattern 70 = .ok (.getfield 167, 3) := by decide +kernel
theorem d_Bc_pattern_73 : decode c_Bc_pattern 73 = .ok (.iload_n 1, 1) := by decide +kernel
theorem d_Bc_pattern_74 : decode c_Bc_pattern 74 = .ok (.iaload, 1) := by decide +kernel
theorem d_Bc_pattern_75 : decode c_Bc_pattern 75 = .ok (.ireturn, 1) := by decide +kernel
theorem d_Bc_pattern_76 : decode c_Bc_pattern 76 = .ok (.aload_n 0, 1) := by decide +kernel
theorem d_Bc_pattern_77 : decode c_Bc_pattern 77 = .ok (.getfield 41, 3) := by decide +kernel
theorem d_Bc_pattern_80 : decode c_Bc_pattern 80 = .ok (.getfield 170, 3) := by decide +kernel
theorem d_Bc_pattern_83 : decode c_Bc_pattern 83 = .ok (.iload_n 1, 1) := by decide +kernel
theorem d_Bc_pattern_84 : decode c_Bc_pattern 84 = .ok (.iaload, 1) := by decide +kernel
theorem d_Bc_pattern_85 : decode c_Bc_pattern 85 = .ok (.ireturn, 1) := by decide +kernel
theorem d_Bc_pattern_86 : decode c_Bc_pattern 86 = .ok (.iload_n 2, 1) := by decide +kernel
theorem d_Bc_pattern_87 : decode c_Bc_pattern 87 = .ok (.iconst 3, 1) := by decide +kernel
theorem d_Bc_pattern_88 : decode c_Bc_pattern 88 = .ok (.if_icmp .ge 7, 3) := by decide +kernel
theorem d_Bc_pattern_91 : decode c_Bc_pattern 91 = .ok (.iconst (-1), 1) := by decide +kernel
theorem d_Bc_pattern_92 : decode c_Bc_pattern 92 = .ok (.goto 14, 3) := by decide +kernel
theorem d_Bc_pattern_95 : decode c_Bc_pattern 95 = .ok (.aload_n 0, 1) := by decide +kernel
theorem d_Bc_pattern_96 : decode c_Bc_pattern 96 = .ok (.getfield 41, 3) := by decide +kernel
theorem d_Bc_pattern_99 : decode c_Bc_pattern 99 = .ok (.iload_n 1, 1) := by decide +kernel
theorem d_Bc_pattern_100 : decode c_Bc_pattern 100 = .ok (.iload_n 2, 1) := by decide +kernel
theorem d_Bc_pattern_101 : decode c_Bc_pattern 101 = .ok (.iconst 3, 1) := by decide +kernel
theorem d_Bc_pattern_102 : decode c_Bc_pattern 102 = .ok (.isub, 1) := by decide +kernel
theorem d_Bc_pattern_103 : decode c_Bc_pattern 103 = .ok (.invokevirtual 173, 3) := by decide +kernel
theorem d_Bc_pattern_106 : decode c_Bc_pattern 106 = .ok (.ireturn, 1) := by decide +kernel
theorem d_Bc_place_0 : decode c_Bc_place 0 = .ok (.aload_n 0, 1) := by decide +kernel
theorem d_Bc_place_1 : decode c_Bc_place 1 = .ok (.iload_n 1, 1) := by decide +kernel
theorem d_Bc_place_2 : decode c_Bc_place 2 = .ok (.invokevirtual 102, 3) := by decide +kernel
theorem d_Bc_place_5 : decode c_Bc_place 5 = .ok (.astore 8, 2) := by decide +kernel
theorem d_Bc_place_7 : decode c_Bc_place 7 = .ok (.aload 8, 2) := by decide +kernel
theorem d_Bc_place_9 : decode c_Bc_place 9 = .ok (.ifnull 26, 3) := by decide +kernel
theorem d_Bc_place_12 : decode c_Bc_place 12 = .ok (.lload_n 2, 1) := by decide +kernel
theorem d_Bc_place_13 : decode c_Bc_place 13 = .ok (.invokestatic 177, 3) := by decide +kernel
theorem d_Bc_place_16 : decode c_Bc_place 16 = .ok (.ifCond .eq 19, 3) := by decide +kernel
theorem d_Bc_place_19 : decode c_Bc_place 19 = .ok (.lload 4, 2) := by decide +kernel
theorem d_Bc_place_21 : decode c_Bc_place 21 = .ok (.invokestatic 177, 3) := by decide +kernel
theorem d_Bc_place_24 : decode c_Bc_place 24 = .ok (.ifCond .eq 11, 3) := by decide +kernel
theorem d_Bc_place_27 : decode c_Bc_place 27 = .ok (.lload 6, 2) := by decide +kernel
theorem d_Bc_place_29 : decode c_Bc_place 29 = .ok (.invokestatic 177, 3) := by decide +kernel
theorem d_Bc_place_32 : decode c_Bc_place 32 = .ok (.ifCond .ne 5, 3) := by decide +kernel
theorem d_Bc_place_35 : decode c_Bc_place 35 = .ok (.iconst 0, 1) := by decide +kernel
theorem d_Bc_place_36 : decode c_Bc_place 36 = .ok (.ireturn, 1) := by decide +kernel
theorem d_Bc_place_37 : decode c_Bc_place 37 = .ok (.aload 8, 2) := by decide +kernel
theorem d_Bc_place_39 : decode c_Bc_place 39 = .ok (.lload_n 2, 1) := by decide +kernel
theorem d_Bc_place_40 : decode c_Bc_place 40 = .ok (.l2i, 1) := by decide +kernel
theorem d_Bc_place_41 : decode c_Bc_place 41 = .ok (.putfield 181, 3) := by decide +kernel
theorem d_Bc_place_44 : decode c_Bc_place 44 = .ok (.aload 8, 2) := by decide +kernel
theorem d_Bc_place_46 : decode c_Bc_place 46 = .ok (.lload 4, 2) := by decide +kernel
theorem d_Bc_place_48 : decode c_Bc_place 48 = .ok (.l2i, 1) := by decide +kernel
theorem d_Bc_place_49 : decode c_Bc_place 49 = .ok (.putfield 184, 3) := by decide +kernel
theorem d_Bc_place_52 : decode c_Bc_place 52 = .ok (.aload 8, 2) := by decide +kernel
theorem d_Bc_place_54 : decode c_Bc_place 54 = .ok (.lload 6, 2) := by decide +kernel
theorem d_Bc_place_56 : decode c_Bc_place 56 = .ok (.l2i, 1) := by decide +kernel
theorem d_Bc_place_57 : decode c_Bc_place 57 = .ok (.putfield 187, 3) := by decide +kernel
theorem d_Bc_place_60 : decode c_Bc_place 60 = .ok (.aload 8, 2) := by decide +kernel
theorem d_Bc_place_62 : decode c_Bc_place 62 = .ok (.iconst 1, 1) := by decide +kernel
theorem d_Bc_place_63 : decode c_Bc_place 63 = .ok (.putfield 190, 3) := by decide +kernel
theorem d_Bc_place_66 : decode c_Bc_place 66 = .ok (.iconst 1, 1) := by decide +kernel
theorem d_Bc_place_67 : decode c_Bc_place 67 = .ok (.ireturn, 1) := by decide +kernel
theorem d_Bc_command_0 : decode c_Bc_command 0 = .ok (.aload_n 0, 1) := by decide +kernel
theorem d_Bc_command_1 : decode c_Bc_command 1 = .ok (.iload_n 1, 1) := by decide +kernel
theorem d_Bc_command_2 : decode c_Bc_command 2 = .ok (.invokevirtual 102, 3) := by decide +kernel
theorem d_Bc_command_5 : decode c_Bc_command 5 = .ok (.astore_n 3, 1) := by decide +kernel
theorem d_Bc_command_6 : decode c_Bc_command 6 = .ok (.aload_n 3, 1) := by decide +kernel
theorem d_Bc_command_7 : decode c_Bc_command 7 = .ok (.ifnull 14, 3) := by decide +kernel
theorem d_Bc_command_10 : decode c_Bc_command 10 = .ok (.aload_n 3, 1) := by decide +kernel
theorem d_Bc_command_11 : decode c_Bc_command 11 = .ok (.invokevirtual 193, 3) := by decide +kernel
theorem d_Bc_command_14 : decode c_Bc_command 14 = .ok (.ifCond .eq 7, 3) := by decide +kernel
theorem d_Bc_command_17 : decode c_Bc_command 17 = .ok (.iload_n 2, 1) := by decide +kernel
theorem d_Bc_command_18 : decode c_Bc_command 18 = .ok (.ifCond .ge 5, 3) := by decide +kernel
theorem d_Bc_command_21 : decode c_Bc_command 21 = .ok (.iconst (-1), 1) := by decide +kernel
theorem d_Bc_command_22 : decode c_Bc_command 22 = .ok (.ireturn, 1) := by decide +kernel
theorem d_Bc_command_23 : decode c_Bc_command 23 = .ok (.aload_n 0, 1) := by decide +kernel
theorem d_Bc_command_24 : decode c_Bc_command 24 = .ok (.getfield 62, 3) := by decide +kernel
theorem d_Bc_command_27 : decode c_Bc_command 27 = .ok (.aload_n 3, 1) := by decide +kernel
theorem d_Bc_command_28 : decode c_Bc_command 28 = .ok (.invokevirtual 197, 3) := by decide +kernel
theorem d_Bc_command_31 : decode c_Bc_command 31 = .ok (.iload_n 2, 1) := by decide +kernel
theorem d_Bc_command_32 : decode c_Bc_command 32 = .ok (.iconst 2, 1) := by decide +kernel
theorem d_Bc_command_33 : decode c_Bc_command 33 = .ok (.idiv, 1) := by decide +kernel
theorem d_Bc_command_34 : decode c_Bc_command 34 = .ok (.istore 4, 2) := by decide +kernel
theorem d_Bc_command_36 : decode c_Bc_command 36 = .ok (.iload 4, 2) := by decide +kernel
theorem d_Bc_command_38 : decode c_Bc_command 38 = .ok (.aload_n 0, 1) := by decide +kernel
theorem d_Bc_command_39 : decode c_Bc_command 39 = .ok (.getfield 62, 3) := by decide +kernel
theorem d_Bc_command_42 : decode c_Bc_command 42 = .ok (.getfield 201, 3) := by decide +kernel
theorem d_Bc_command_45 : decode c_Bc_command 45 = .ok (.if_icmp .lt 5, 3) := by decide +kernel
theorem d_Bc_command_48 : decode c_Bc_command 48 = .ok (.iconst (-1), 1) := by decide +kernel
theorem d_Bc_command_49 : decode c_Bc_command 49 = .ok (.ireturn, 1) := by decide +kernel
theorem d_Bc_command_50 : decode c_Bc_command 50 = .ok (.iload_n 2, 1) := by decide +kernel
theorem d_Bc_command_51 : decode c_Bc_command 51 = .ok (.iconst 2, 1) := by decide +kernel
theorem d_Bc_command_52 : decode c_Bc_command 52 = .ok (.irem, 1) := by decide +kernel
theorem d_Bc_command_53 : decode c_Bc_command 53 = .ok (.ifCond .ne 16, 3) := by decide +kernel
theorem d_Bc_command_56 : decode c_Bc_command 56 = .ok (.aload_n 0, 1) := by decide +kernel
theorem d_Bc_command_57 : decode c_Bc_command 57 = .ok (.getfield 62, 3) := by decide +kernel
theorem d_Bc_command_60 : decode c_Bc_command 60 = .ok (.getfield 204, 3) := by decide +kernel
theorem d_Bc_command_63 : decode c_Bc_command 63 = .ok (.iload 4, 2) := by decide +kernel
theorem d_Bc_command_65 : decode c_Bc_command 65 = .ok (.iaload, 1) := by decide +kernel
theorem d_Bc_command_66 : decode c_Bc_command 66 = .ok (.goto 13, 3) := by decide +kernel
theorem d_Bc_command_69 : decode c_Bc_command 69 = .ok (.aload_n 0, 1) := by decide +kernel
theorem d_Bc_command_70 : decode c_Bc_command 70 = .ok (.getfield 62, 3) := by decide +kernel
theorem d_Bc_command_73 : decode c_Bc_command 73 = .ok (.getfield 207, 3) := by decide +kernel
theorem d_Bc_command_76 : decode c_Bc_command 76 = .ok (.iload 4, 2) := by decide +kernel
theorem d_Bc_command_78 : decode c_Bc_command 78 = .ok (.iaload, 1) := by decide +kernel
theorem d_Bc_command_79 : decode c_Bc_command 79 = .ok (.ireturn, 1) := by decide +kernel
theorem d_Bc_clash_0 : decode c_Bc_clash 0 = .ok (.aload_n 0, 1) := by decide +kernel
theorem d_Bc_clash_1 : decode c_Bc_clash 1 = .ok (.iload_n 1, 1) := by decide +kernel
theorem d_Bc_clash_2 : decode c_Bc_clash 2 = .ok (.invokevirtual 102, 3) := by decide +kernel
theorem d_Bc_clash_5 : decode c_Bc_clash 5 = .ok (.astore_n 3, 1) := by decide +kernel
theorem d_Bc_clash_6 : decode c_Bc_clash 6 = .ok (.aload_n 0, 1) := by decide +kernel
theorem d_Bc_clash_7 : decode c_Bc_clash 7 = .ok (.iload_n 2, 1) := by decide +kernel
theorem d_Bc_clash_8 : decode c_Bc_clash 8 = .ok (.invokevirtual 102, 3) := by decide +kernel
theorem d_Bc_clash_11 : decode c_Bc_clash 11 = .ok (.astore 4, 2) := by decide +kernel
theorem d_Bc_clash_13 : decode c_Bc_clash 13 = .ok (.aload_n 3, 1) := by decide +kernel
theorem d_Bc_clash_14 : decode c_Bc_clash 14 = .ok (.ifnull 13, 3) := by decide +kernel
theorem d_Bc_clash_17 : decode c_Bc_clash 17 = .ok (.aload 4, 2) := by decide +kernel
theorem d_Bc_clash_19 : decode c_Bc_clash 19 = .ok (.ifnull 8, 3) := by decide +kernel
theorem d_Bc_clash_22 : decode c_Bc_clash 22 = .ok (.iload_n 1, 1) := by decide +kernel
theorem d_Bc_clash_23 : decode c_Bc_clash 23 = .ok (.iload_n 2, 1) := by decide +kernel
theorem d_Bc_clash_24 : decode c_Bc_clash 24 = .ok (.if_icmp .ne 5, 3) := by decide +kernel
theorem d_Bc_clash_27 : decode c_Bc_clash 27 = .ok (.iconst (-1), 1) := by decide +kernel
theorem d_Bc_clash_28 : decode c_Bc_clash 28 = .ok (.ireturn, 1) := by decide +kernel
theorem d_Bc_clash_29 : decode c_Bc_clash 29 = .ok (.aload_n 3, 1) := by decide +kernel
theorem d_Bc_clash_30 : decode c_Bc_clash 30 = .ok (.getfield 190, 3) := by decide +kernel
theorem d_Bc_clash_33 : decode c_Bc_clash 33 = .ok (.ifCond .eq 26, 3) := by decide +kernel
theorem d_Bc_clash_36 : decode c_Bc_clash 36 = .ok (.aload 4, 2) := by decide +kernel
theorem d_Bc_clash_38 : decode c_Bc_clash 38 = .ok (.getfield 190, 3) := by decide +kernel
theorem d_Bc_clash_41 : decode c_Bc_clash 41 = .ok (.ifCond .eq 18, 3) := by decide +kernel
theorem d_Bc_clash_44 : decode c_Bc_clash 44 = .ok (.aload_n 3, 1) := by decide +kernel
theorem d_Bc_clash_45 : decode c_Bc_clash 45 = .ok (.invokevirtual 193, 3) := by decide +kernel
theorem d_Bc_clash_48 : decode c_Bc_clash 48 = .ok (.ifCond .eq 11, 3) := by decide +kernel
theorem d_Bc_clash_51 : decode c_Bc_clash 51 = .ok (.aload 4, 2) := by decide +kernel
theorem d_Bc_clash_53 : decode c_Bc_clash 53 = .ok (.invokevirtual 193, 3) := by decide +kernel
theorem d_Bc_clash_56 : decode c_Bc_clash 56 = .ok (.ifCond .ne 5, 3) := by decide +kernel
theorem d_Bc_clash_59 : decode c_Bc_clash 59 = .ok (.iconst (-1), 1) := by decide +kernel
theorem d_Bc_clash_60 : decode c_Bc_clash 60 = .ok (.ireturn, 1) := by decide +kernel
theorem d_Bc_clash_61 : decode c_Bc_clash 61 = .ok (.aload_n 0, 1) := by decide +kernel
theorem d_Bc_clash_62 : decode c_Bc_clash 62 = .ok (.getfield 62, 3) := by decide +kernel
theorem d_Bc_clash_65 : decode c_Bc_clash 65 = .ok (.aload_n 3, 1) := by decide +kernel
theorem d_Bc_clash_66 : decode c_Bc_clash 66 = .ok (.invokevirtual 197, 3) := by decide +kernel
theorem d_Bc_clash_69 : decode c_Bc_clash 69 = .ok (.aload_n 0, 1) := by decide +kernel
theorem d_Bc_clash_70 : decode c_Bc_clash 70 = .ok (.getfield 66, 3) := by decide +kernel
theorem d_Bc_clash_73 : decode c_Bc_clash 73 = .ok (.aload 4, 2) := by decide +kernel
theorem d_Bc_clash_75 : decode c_Bc_clash 75 = .ok (.invokevirtual 197, 3) := by decide +kernel
theorem d_Bc_clash_78 : decode c_Bc_clash 78 = .ok (.aload_n 3, 1) := by decide +kernel
theorem d_Bc_clash_79 : decode c_Bc_clash 79 = .ok (.getfield 129, 3) := by decide +kernel
theorem d_Bc_clash_82 : decode c_Bc_clash 82 = .ok (.aload 4, 2) := by decide +kernel
theorem d_Bc_clash_84 : decode c_Bc_clash 84 = .ok (.getfield 129, 3) := by decide +kernel
theorem d_Bc_clash_87 : decode c_Bc_clash 87 = .ok (.iadd, 1) := by decide +kernel
theorem d_Bc_clash_88 : decode c_Bc_clash 88 = .ok (.i2l, 1) := by decide +kernel
theorem d_Bc_clash_89 : decode c_Bc_clash 89 = .ok (.lstore 5, 2) := by decide +kernel
theorem d_Bc_clash_91 : decode c_Bc_clash 91 = .ok (.aload_n 3, 1) := by decide +kernel
theorem d_Bc_clash_92 : decode c_Bc_clash 92 = .ok (.getfield 187, 3) := by decide +kernel
theorem d_Bc_clash_95 : decode c_Bc_clash 95 = .ok (.aload 4, 2) := by decide +kernel
theorem d_Bc_clash_97 : decode c_Bc_clash 97 = .ok (.getfield 187, 3) := by decide +kernel
theorem d_Bc_clash_100 : decode c_Bc_clash 100 = .ok (.isub, 1) := by decide +kernel
theorem d_Bc_clash_101 : decode c_Bc_clash 101 = .ok (.i2l, 1) := by decide +kernel
theorem d_Bc_clash_102 : decode c_Bc_clash 102 = .ok (.lstore 7, 2) := by decide +kernel
theorem d_Bc_clash_104 : decode c_Bc_clash 104 = .ok (.lload 5, 2) := by decide +kernel
theorem d_Bc_clash_106 : decode c_Bc_clash 106 = .ok (.lload 5, 2) := by decide +kernel
theorem d_Bc_clash_108 : decode c_Bc_clash 108 = .ok (.lmul, 1) := by decide +kernel
theorem d_Bc_clash_109 : decode c_Bc_clash 109 = .ok (.ldc2_w 210, 3) := by decide +kernel
theorem d_Bc_clash_112 : decode c_Bc_clash 112 = .ok (.lload 7, 2) := by decide +kernel
theorem d_Bc_clash_114 : decode c_Bc_clash 114 = .ok (.lmul, 1) := by decide +kernel
theorem d_Bc_clash_115 : decode c_Bc_clash 115 = .ok (.lload 7, 2) := by decide +kernel
theorem d_Bc_clash_117 : decode c_Bc_clash 117 = .ok (.lmul, 1) := by decide +kernel
theorem d_Bc_clash_118 : decode c_Bc_clash 118 = .ok (.lsub, 1) := by decide +kernel
theorem d_Bc_clash_119 : decode c_Bc_clash 119 = .ok (.lstore 9, 2) := by decide +kernel
theorem d_Bc_clash_121 : decode c_Bc_clash 121 = .ok (.ldc2_w 210, 3) := by decide +kernel
theorem d_Bc_clash_124 : decode c_Bc_clash 124 = .ok (.aload_n 0, 1) := by decide +kernel
theorem d_Bc_clash_125 : decode c_Bc_clash 125 = .ok (.getfield 62, 3) := by decide +kernel
theorem d_Bc_clash_128 : decode c_Bc_clash 128 = .ok (.aload_n 0, 1) := by decide +kernel
theorem d_Bc_clash_129 : decode c_Bc_clash 129 = .ok (.getfield 66, 3) := by decide +kernel
theorem d_Bc_clash_132 : decode c_Bc_clash 132 = .ok (.invokevirtual 212, 3) := by decide +kernel
theorem d_Bc_clash_135 : decode c_Bc_clash 135 = .ok (.lmul, 1) := by decide +kernel
theorem d_Bc_clash_136 : decode c_Bc_clash 136 = .ok (.lload 9, 2) := by decide +kernel
theorem d_Bc_clash_138 : decode c_Bc_clash 138 = .ok (.lcmp, 1) := by decide +kernel
theorem d_Bc_clash_139 : decode c_Bc_clash 139 = .ok (.ifCond .ge 7, 3) := by decide +kernel
theorem d_Bc_clash_142 : decode c_Bc_clash 142 = .ok (.iconst 1, 1) := by decide +kernel
theorem d_Bc_clash_143 : decode c_Bc_clash 143 = .ok (.goto 4, 3) := by decide +kernel
theorem d_Bc_clash_146 : decode c_Bc_clash 146 = .ok (.iconst 0, 1) := by decide +kernel
theorem d_Bc_clash_147 : decode c_Bc_clash 147 = .ok (.ireturn, 1) := by decide +kernel
theorem d_Bc_lap_0 : decode c_Bc_lap 0 = .ok (.aload_n 0, 1) := by decide +kernel
theorem d_Bc_lap_1 : decode c_Bc_lap 1 = .ok (.iload_n 1, 1) := by decide +kernel
theorem d_Bc_lap_2 : decode c_Bc_lap 2 = .ok (.invokevirtual 102, 3) := by decide +kernel
theorem d_Bc_lap_5 : decode c_Bc_lap 5 = .ok (.astore 4, 2) := by decide +kernel
theorem d_Bc_lap_7 : decode c_Bc_lap 7 = .ok (.aload 4, 2) := by decide +kernel
theorem d_Bc_lap_9 : decode c_Bc_lap 9 = .ok (.ifnull 17, 3) := by decide +kernel
theorem d_Bc_lap_12 : decode c_Bc_lap 12 = .ok (.lload_n 2, 1) := by decide +kernel
theorem d_Bc_lap_13 : decode c_Bc_lap 13 = .ok (.lconst 0, 1) := by decide +kernel
theorem d_Bc_lap_14 : decode c_Bc_lap 14 = .ok (.lcmp, 1) := by decide +kernel
theorem d_Bc_lap_15 : decode c_Bc_lap 15 = .ok (.ifCond .lt 11, 3) := by decide +kernel
theorem d_Bc_lap_18 : decode c_Bc_lap 18 = .ok (.lload_n 2, 1) := by decide +kernel
theorem d_Bc_lap_19 : decode c_Bc_lap 19 = .ok (.ldc2_w 216, 3) := by decide +kernel
theorem d_Bc_lap_22 : decode c_Bc_lap 22 = .ok (.lcmp, 1) := by decide +kernel
theorem d_Bc_lap_23 : decode c_Bc_lap 23 = .ok (.ifCond .le 5, 3) := by decide +kernel
theorem d_Bc_lap_26 : decode c_Bc_lap 26 = .ok (.iconst (-1), 1) := by decide +kernel
theorem d_Bc_lap_27 : decode c_Bc_lap 27 = .ok (.ireturn, 1) := by decide +kernel
theorem d_Bc_lap_28 : decode c_Bc_lap 28 = .ok (.aload_n 0, 1) := by decide +kernel
theorem d_Bc_lap_29 : decode c_Bc_lap 29 = .ok (.getfield 34, 3) := by decide +kernel
theorem d_Bc_lap_32 : decode c_Bc_lap 32 = .ok (.aload 4, 2) := by decide +kernel
theorem d_Bc_lap_34 : decode c_Bc_lap 34 = .ok (.getfield 129, 3) := by decide +kernel
theorem d_Bc_lap_37 : decode c_Bc_lap 37 = .ok (.iconst 4, 1) := by decide +kernel
theorem d_Bc_lap_38 : decode c_Bc_lap 38 = .ok (.isub, 1) := by decide +kernel
theorem d_Bc_lap_39 : decode c_Bc_lap 39 = .ok (.aaload, 1) := by decide +kernel
theorem d_Bc_lap_40 : decode c_Bc_lap 40 = .ok (.astore 5, 2) := by decide +kernel
theorem d_Bc_lap_42 : decode c_Bc_lap 42 = .ok (.aload 5, 2) := by decide +kernel
theorem d_Bc_lap_44 : decode c_Bc_lap 44 = .ok (.ifnonnull 5, 3) := by decide +kernel
theorem d_Bc_lap_47 : decode c_Bc_lap 47 = .ok (.iconst (-1), 1) := by decide +kernel
theorem d_Bc_lap_48 : decode c_Bc_lap 48 = .ok (.ireturn, 1) := by decide +kernel
theorem d_Bc_lap_49 : decode c_Bc_lap 49 = .ok (.aload 5, 2) := by decide +kernel
theorem d_Bc_lap_51 : decode c_Bc_lap 51 = .ok (.invokevirtual 218, 3) := by decide +kernel
theorem d_Bc_lap_54 : decode c_Bc_lap 54 = .ok (.istore 6, 2) := by decide +kernel
theorem d_Bc_lap_56 : decode c_Bc_lap 56 = .ok (.iload 6, 2) := by decide +kernel
theorem d_Bc_lap_58 : decode c_Bc_lap 58 = .ok (.lload_n 2, 1) := by decide +kernel
theorem d_Bc_lap_59 : decode c_Bc_lap 59 = .ok (.l2i, 1) := by decide +kernel
theorem d_Bc_lap_60 : decode c_Bc_lap 60 = .ok (.isub, 1) := by decide +kernel
theorem d_Bc_lap_61 : decode c_Bc_lap 61 = .ok (.istore 7, 2) := by decide +kernel
theorem d_Bc_lap_63 : decode c_Bc_lap 63 = .ok (.iload 7, 2) := by decide +kernel
theorem d_Bc_lap_65 : decode c_Bc_lap 65 = .ok (.iconst 1, 1) := by decide +kernel
theorem d_Bc_lap_66 : decode c_Bc_lap 66 = .ok (.if_icmp .ge 5, 3) := by decide +kernel
theorem d_Bc_lap_69 : decode c_Bc_lap 69 = .ok (.iconst (-1), 1) := by decide +kernel
theorem d_Bc_lap_70 : decode c_Bc_lap 70 = .ok (.ireturn, 1) := by decide +kernel
theorem d_Bc_lap_71 : decode c_Bc_lap 71 = .ok (.aload_n 0, 1) := by decide +kernel
theorem d_Bc_lap_72 : decode c_Bc_lap 72 = .ok (.aload 4, 2) := by decide +kernel
theorem d_Bc_lap_74 : decode c_Bc_lap 74 = .ok (.invokevirtual 119, 3) := by decide +kernel
theorem d_Bc_lap_77 : decode c_Bc_lap 77 = .ok (.iload 6, 2) := by decide +kernel
theorem d_Bc_lap_79 : decode c_Bc_lap 79 = .ok (.isub, 1) := by decide +kernel
theorem d_Bc_lap_80 : decode c_Bc_lap 80 = .ok (.istore 8, 2) := by decide +kernel
theorem d_Bc_lap_82 : decode c_Bc_lap 82 = .ok (.iload 8, 2) := by decide +kernel
theorem d_Bc_lap_84 : decode c_Bc_lap 84 = .ok (.ifCond .gt 7, 3) := by decide +kernel
theorem d_Bc_lap_87 : decode c_Bc_lap 87 = .ok (.iconst 0, 1) := by decide +kernel
theorem d_Bc_lap_88 : decode c_Bc_lap 88 = .ok (.goto 13, 3) := by decide +kernel
theorem d_Bc_lap_91 : decode c_Bc_lap 91 = .ok (.iload 8, 2) := by decide +kernel
theorem d_Bc_lap_93 : decode c_Bc_lap 93 = .ok (.iload 7, 2) := by decide +kernel
theorem d_Bc_lap_95 : decode c_Bc_lap 95 = .ok (.iadd, 1) := by decide +kernel
theorem d_Bc_lap_96 : decode c_Bc_lap 96 = .ok (.iconst 1, 1) := by decide +kernel
theorem d_Bc_lap_97 : decode c_Bc_lap 97 = .ok (.isub, 1) := by decide +kernel
theorem d_Bc_lap_98 : decode c_Bc_lap 98 = .ok (.iload 7, 2) := by decide +kernel
theorem d_Bc_lap_100 : decode c_Bc_lap 100 = .ok (.idiv, 1) := by decide +kernel
theorem d_Bc_lap_101 : decode c_Bc_lap 101 = .ok (.ireturn, 1) := by decide +kernel
theorem d_Bc_weight_0 : decode c_Bc_weight 0 = .ok (.aload_n 0, 1) := by decide +kernel
theorem d_Bc_weight_1 : decode c_Bc_weight 1 = .ok (.iload_n 1, 1) := by decide +kernel
theorem d_Bc_weight_2 : decode c_Bc_weight 2 = .ok (.invokevirtual 102, 3) := by decide +kernel
theorem d_Bc_weight_5 : decode c_Bc_weight 5 = .ok (.astore_n 3, 1) := by decide +kernel
theorem d_Bc_weight_6 : decode c_Bc_weight 6 = .ok (.aload_n 3, 1) := by decide +kernel
theorem d_Bc_weight_7 : decode c_Bc_weight 7 = .ok (.ifnonnull 7, 3) := by decide +kernel
theorem d_Bc_weight_10 : decode c_Bc_weight 10 = .ok (.ldc2_w 117, 3) := by decide +kernel
theorem d_Bc_weight_13 : decode c_Bc_weight 13 = .ok (.lreturn, 1) := by decide +kernel
theorem d_Bc_weight_14 : decode c_Bc_weight 14 = .ok (.aload_n 3, 1) := by decide +kernel
theorem d_Bc_weight_15 : decode c_Bc_weight 15 = .ok (.getfield 129, 3) := by decide +kernel
theorem d_Bc_weight_18 : decode c_Bc_weight 18 = .ok (.i2l, 1) := by decide +kernel
theorem d_Bc_weight_19 : decode c_Bc_weight 19 = .ok (.aload_n 3, 1) := by decide +kernel
theorem d_Bc_weight_20 : decode c_Bc_weight 20 = .ok (.getfield 129, 3) := by decide +kernel
theorem d_Bc_weight_23 : decode c_Bc_weight 23 = .ok (.i2l, 1) := by decide +kernel
theorem d_Bc_weight_24 : decode c_Bc_weight 24 = .ok (.lmul, 1) := by decide +kernel
theorem d_Bc_weight_25 : decode c_Bc_weight 25 = .ok (.aload_n 0, 1) := by decide +kernel
theorem d_Bc_weight_26 : decode c_Bc_weight 26 = .ok (.aload_n 3, 1) := by decide +kernel
theorem d_Bc_weight_27 : decode c_Bc_weight 27 = .ok (.invokevirtual 119, 3) := by decide +kernel
theorem d_Bc_weight_30 : decode c_Bc_weight 30 = .ok (.i2l, 1) := by decide +kernel
theorem d_Bc_weight_31 : decode c_Bc_weight 31 = .ok (.lmul, 1) := by decide +kernel
theorem d_Bc_weight_32 : decode c_Bc_weight 32 = .ok (.aload_n 3, 1) := by decide +kernel
theorem d_Bc_weight_33 : decode c_Bc_weight 33 = .ok (.getfield 123, 3) := by decide +kernel
theorem d_Bc_weight_36 : decode c_Bc_weight 36 = .ok (.i2l, 1) := by decide +kernel
theorem d_Bc_weight_37 : decode c_Bc_weight 37 = .ok (.lmul, 1) := by decide +kernel
theorem d_Bc_weight_38 : decode c_Bc_weight 38 = .ok (.lstore 4, 2) := by decide +kernel
theorem d_Bc_weight_40 : decode c_Bc_weight 40 = .ok (.lload 4, 2) := by decide +kernel
theorem d_Bc_weight_42 : decode c_Bc_weight 42 = .ok (.invokestatic 221, 3) := by decide +kernel
theorem d_Bc_weight_45 : decode c_Bc_weight 45 = .ok (.istore 6, 2) := by decide +kernel
theorem d_Bc_weight_47 : decode c_Bc_weight 47 = .ok (.iload_n 2, 1) := by decide +kernel
theorem d_Bc_weight_48 : decode c_Bc_weight 48 = .ok (.lookupswitch 43 #[(0, 28), (1, 35)], 28) := by decide +kernel
theorem d_Bc_weight_76 : decode c_Bc_weight 76 = .ok (.lload 4, 2) := by decide +kernel
theorem d_Bc_weight_78 : decode c_Bc_weight 78 = .ok (.iload 6, 2) := by decide +kernel
theorem d_Bc_weight_80 : decode c_Bc_weight 80 = .ok (.i2l, 1) := by decide +kernel
theorem d_Bc_weight_81 : decode c_Bc_weight 81 = .ok (.ldiv, 1) := by decide +kernel
theorem d_Bc_weight_82 : decode c_Bc_weight 82 = .ok (.lreturn, 1) := by decide +kernel
theorem d_Bc_weight_83 : decode c_Bc_weight 83 = .ok (.sipush 162, 3) := by decide +kernel
theorem d_Bc_weight_86 : decode c_Bc_weight 86 = .ok (.iload 6, 2) := by decide +kernel
theorem d_Bc_weight_88 : decode c_Bc_weight 88 = .ok (.idiv, 1) := by decide +kernel
theorem d_Bc_weight_89 : decode c_Bc_weight 89 = .ok (.i2l, 1) := by decide +kernel
theorem d_Bc_weight_90 : decode c_Bc_weight 90 = .ok (.lreturn, 1) := by decide +kernel
theorem d_Bc_weight_91 : decode c_Bc_weight 91 = .ok (.ldc2_w 117, 3) := by decide +kernel
theorem d_Bc_weight_94 : decode c_Bc_weight 94 = .ok (.lreturn, 1) := by decide +kernel
theorem d_Bc_tag_0 : decode c_Bc_tag 0 = .ok (.aload_n 0, 1) := by decide +kernel
theorem d_Bc_tag_1 : decode c_Bc_tag 1 = .ok (.iload_n 1, 1) := by decide +kernel
theorem d_Bc_tag_2 : decode c_Bc_tag 2 = .ok (.invokevirtual 102, 3) := by decide +kernel
theorem d_Bc_tag_5 : decode c_Bc_tag 5 = .ok (.astore_n 3, 1) := by decide +kernel
theorem d_Bc_tag_6 : decode c_Bc_tag 6 = .ok (.aload_n 3, 1) := by decide +kernel
theorem d_Bc_tag_7 : decode c_Bc_tag 7 = .ok (.ifnonnull 7, 3) := by decide +kernel
theorem d_Bc_tag_10 : decode c_Bc_tag 10 = .ok (.iconst (-1), 1) := by decide +kernel
theorem d_Bc_tag_11 : decode c_Bc_tag 11 = .ok (.goto 8, 3) := by decide +kernel
theorem d_Bc_tag_14 : decode c_Bc_tag 14 = .ok (.aload_n 3, 1) := by decide +kernel
theorem d_Bc_tag_15 : decode c_Bc_tag 15 = .ok (.iload_n 2, 1) := by decide +kernel
theorem d_Bc_tag_16 : decode c_Bc_tag 16 = .ok (.invokevirtual 225, 3) := by decide +kernel
theorem d_Bc_tag_19 : decode c_Bc_tag 19 = .ok (.ireturn, 1) := by decide +kernel
theorem d_Bc_differs_0 : decode c_Bc_differs 0 = .ok (.aload_n 0, 1) := by decide +kernel
theorem d_Bc_differs_1 : decode c_Bc_differs 1 = .ok (.iload_n 1, 1) := by decide +kernel
theorem d_Bc_differs_2 : decode c_Bc_differs 2 = .ok (.invokevirtual 102, 3) := by decide +kernel
theorem d_Bc_differs_5 : decode c_Bc_differs 5 = .ok (.astore 4, 2) := by decide +kernel
theorem d_Bc_differs_7 : decode c_Bc_differs 7 = .ok (.aload_n 0, 1) := by decide +kernel
theorem d_Bc_differs_8 : decode c_Bc_differs 8 = .ok (.iload_n 2, 1) := by decide +kernel
theorem d_Bc_differs_9 : decode c_Bc_differs 9 = .ok (.invokevirtual 102, 3) := by decide +kernel
theorem d_Bc_differs_12 : decode c_Bc_differs 12 = .ok (.astore 5, 2) := by decide +kernel
theorem d_Bc_differs_14 : decode c_Bc_differs 14 = .ok (.aload 4, 2) := by decide +kernel
theorem d_Bc_differs_16 : decode c_Bc_differs 16 = .ok (.ifnull 12, 3) := by decide +kernel
theorem d_Bc_differs_19 : decode c_Bc_differs 19 = .ok (.aload 5, 2) := by decide +kernel
theorem d_Bc_differs_21 : decode c_Bc_differs 21 = .ok (.ifnull 7, 3) := by decide +kernel
theorem d_Bc_differs_24 : decode c_Bc_differs 24 = .ok (.iload_n 3, 1) := by decide +kernel
theorem d_Bc_differs_25 : decode c_Bc_differs 25 = .ok (.ifCond .ge 5, 3) := by decide +kernel
theorem d_Bc_differs_28 : decode c_Bc_differs 28 = .ok (.iconst (-1), 1) := by decide +kernel
theorem d_Bc_differs_29 : decode c_Bc_differs 29 = .ok (.ireturn, 1) := by decide +kernel
theorem d_Bc_differs_30 : decode c_Bc_differs 30 = .ok (.iconst 0, 1) := by decide +kernel
theorem d_Bc_differs_31 : decode c_Bc_differs 31 = .ok (.istore 6, 2) := by decide +kernel
theorem d_Bc_differs_33 : decode c_Bc_differs 33 = .ok (.iconst 0, 1) := by decide +kernel
theorem d_Bc_differs_34 : decode c_Bc_differs 34 = .ok (.istore 7, 2) := by decide +kernel
theorem d_Bc_differs_36 : decode c_Bc_differs 36 = .ok (.iload 7, 2) := by decide +kernel
theorem d_Bc_differs_38 : decode c_Bc_differs 38 = .ok (.bipush 9, 2) := by decide +kernel
theorem d_Bc_differs_40 : decode c_Bc_differs 40 = .ok (.if_icmp .ge 38, 3) := by decide +kernel
theorem d_Bc_differs_43 : decode c_Bc_differs 43 = .ok (.aload 4, 2) := by decide +kernel
theorem d_Bc_differs_45 : decode c_Bc_differs 45 = .ok (.iload 7, 2) := by decide +kernel
theorem d_Bc_differs_47 : decode c_Bc_differs 47 = .ok (.invokevirtual 229, 3) := by decide +kernel
theorem d_Bc_differs_50 : decode c_Bc_differs 50 = .ok (.aload 5, 2) := by decide +kernel
theorem d_Bc_differs_52 : decode c_Bc_differs 52 = .ok (.iload 7, 2) := by decide +kernel
theorem d_Bc_differs_54 : decode c_Bc_differs 54 = .ok (.invokevirtual 229, 3) := by decide +kernel
theorem d_Bc_differs_57 : decode c_Bc_differs 57 = .ok (.if_icmp .eq 15, 3) := by decide +kernel
theorem d_Bc_differs_60 : decode c_Bc_differs 60 = .ok (.iload 6, 2) := by decide +kernel
theorem d_Bc_differs_62 : decode c_Bc_differs 62 = .ok (.iload_n 3, 1) := by decide +kernel
theorem d_Bc_differs_63 : decode c_Bc_differs 63 = .ok (.if_icmp .ne 6, 3) := by decide +kernel
theorem d_Bc_differs_66 : decode c_Bc_differs 66 = .ok (.iload 7, 2) := by decide +kernel
theorem d_Bc_differs_68 : decode c_Bc_differs 68 = .ok (.ireturn, 1) := by decide +kernel
theorem d_Bc_differs_69 : decode c_Bc_differs 69 = .ok (.iinc 6 1, 3) := by decide +kernel
theorem d_Bc_differs_72 : decode c_Bc_differs 72 = .ok (.iinc 7 1, 3) := by decide +kernel
theorem d_Bc_differs_75 : decode c_Bc_differs 75 = .ok (.goto (-39), 3) := by decide +kernel
theorem d_Bc_differs_78 : decode c_Bc_differs 78 = .ok (.iconst (-1), 1) := by decide +kernel
theorem d_Bc_differs_79 : decode c_Bc_differs 79 = .ok (.ireturn, 1) := by decide +kernel
theorem d_Bc_order_0 : decode c_Bc_order 0 = .ok (.iconst 0, 1) := by decide +kernel
theorem d_Bc_order_1 : decode c_Bc_order 1 = .ok (.istore_n 2, 1) := by decide +kernel
theorem d_Bc_order_2 : decode c_Bc_order 2 = .ok (.iload_n 2, 1) := by decide +kernel
theorem d_Bc_order_3 : decode c_Bc_order 3 = .ok (.aload_n 0, 1) := by decide +kernel
theorem d_Bc_order_4 : decode c_Bc_order 4 = .ok (.getfield 73, 3) := by decide +kernel
theorem d_Bc_order_7 : decode c_Bc_order 7 = .ok (.if_icmp .ge 20, 3) := by decide +kernel
theorem d_Bc_order_10 : decode c_Bc_order 10 = .ok (.aload_n 0, 1) := by decide +kernel
theorem d_Bc_order_11 : decode c_Bc_order 11 = .ok (.iload_n 2, 1) := by decide +kernel
theorem d_Bc_order_12 : decode c_Bc_order 12 = .ok (.invokevirtual 232, 3) := by decide +kernel
theorem d_Bc_order_15 : decode c_Bc_order 15 = .ok (.iload_n 1, 1) := by decide +kernel
theorem d_Bc_order_16 : decode c_Bc_order 16 = .ok (.if_icmp .ne 5, 3) := by decide +kernel
theorem d_Bc_order_19 : decode c_Bc_order 19 = .ok (.iload_n 2, 1) := by decide +kernel
theorem d_Bc_order_20 : decode c_Bc_order 20 = .ok (.ireturn, 1) := by decide +kernel
theorem d_Bc_order_21 : decode c_Bc_order 21 = .ok (.iinc 2 1, 3) := by decide +kernel
theorem d_Bc_order_24 : decode c_Bc_order 24 = .ok (.goto (-22), 3) := by decide +kernel
theorem d_Bc_order_27 : decode c_Bc_order 27 = .ok (.iconst (-1), 1) := by decide +kernel
theorem d_Bc_order_28 : decode c_Bc_order 28 = .ok (.ireturn, 1) := by decide +kernel
theorem d_Bc_isDiameter_0 : decode c_Bc_isDiameter 0 = .ok (.iload_n 0, 1) := by decide +kernel
theorem d_Bc_isDiameter_1 : decode c_Bc_isDiameter 1 = .ok (.iconst 4, 1) := by decide +kernel
theorem d_Bc_isDiameter_2 : decode c_Bc_isDiameter 2 = .ok (.if_icmp .lt 13, 3) := by decide +kernel
theorem d_Bc_isDiameter_5 : decode c_Bc_isDiameter 5 = .ok (.iload_n 0, 1) := by decide +kernel
theorem d_Bc_isDiameter_6 : decode c_Bc_isDiameter 6 = .ok (.bipush 40, 2) := by decide +kernel
theorem d_Bc_isDiameter_8 : decode c_Bc_isDiameter 8 = .ok (.if_icmp .gt 7, 3) := by decide +kernel
theorem d_Bc_isDiameter_11 : decode c_Bc_isDiameter 11 = .ok (.iconst 1, 1) := by decide +kernel
theorem d_Bc_isDiameter_12 : decode c_Bc_isDiameter 12 = .ok (.goto 4, 3) := by decide +kernel
theorem d_Bc_isDiameter_15 : decode c_Bc_isDiameter 15 = .ok (.iconst 0, 1) := by decide +kernel
theorem d_Bc_isDiameter_16 : decode c_Bc_isDiameter 16 = .ok (.ireturn, 1) := by decide +kernel
theorem d_Bc_isPlace_0 : decode c_Bc_isPlace 0 = .ok (.lload_n 0, 1) := by decide +kernel
theorem d_Bc_isPlace_1 : decode c_Bc_isPlace 1 = .ok (.ldc2_w 235, 3) := by decide +kernel
theorem d_Bc_isPlace_4 : decode c_Bc_isPlace 4 = .ok (.lcmp, 1) := by decide +kernel
theorem d_Bc_isPlace_5 : decode c_Bc_isPlace 5 = .ok (.ifCond .lt 15, 3) := by decide +kernel
theorem d_Bc_isPlace_8 : decode c_Bc_isPlace 8 = .ok (.lload_n 0, 1) := by decide +kernel
theorem d_Bc_isPlace_9 : decode c_Bc_isPlace 9 = .ok (.ldc2_w 237, 3) := by decide +kernel
theorem d_Bc_isPlace_12 : decode c_Bc_isPlace 12 = .ok (.lcmp, 1) := by decide +kernel
theorem d_Bc_isPlace_13 : decode c_Bc_isPlace 13 = .ok (.ifCond .gt 7, 3) := by decide +kernel
theorem d_Bc_isPlace_16 : decode c_Bc_isPlace 16 = .ok (.iconst 1, 1) := by decide +kernel
theorem d_Bc_isPlace_17 : decode c_Bc_isPlace 17 = .ok (.goto 4, 3) := by decide +kernel
theorem d_Bc_isPlace_20 : decode c_Bc_isPlace 20 = .ok (.iconst 0, 1) := by decide +kernel
theorem d_Bc_isPlace_21 : decode c_Bc_isPlace 21 = .ok (.ireturn, 1) := by decide +kernel
theorem d_Bc_lineAt_0 : decode c_Bc_lineAt 0 = .ok (.iload_n 1, 1) := by decide +kernel
theorem d_Bc_lineAt_1 : decode c_Bc_lineAt 1 = .ok (.ifCond .lt 20, 3) := by decide +kernel
theorem d_Bc_lineAt_4 : decode c_Bc_lineAt 4 = .ok (.iload_n 1, 1) := by decide +kernel
theorem d_Bc_lineAt_5 : decode c_Bc_lineAt 5 = .ok (.aload_n 0, 1) := by decide +kernel
theorem d_Bc_lineAt_6 : decode c_Bc_lineAt 6 = .ok (.getfield 73, 3) := by decide +kernel
theorem d_Bc_lineAt_9 : decode c_Bc_lineAt 9 = .ok (.if_icmp .ge 12, 3) := by decide +kernel
theorem d_Bc_lineAt_12 : decode c_Bc_lineAt 12 = .ok (.aload_n 0, 1) := by decide +kernel
theorem d_Bc_lineAt_13 : decode c_Bc_lineAt 13 = .ok (.getfield 24, 3) := by decide +kernel
theorem d_Bc_lineAt_16 : decode c_Bc_lineAt 16 = .ok (.iload_n 1, 1) := by decide +kernel
theorem d_Bc_lineAt_17 : decode c_Bc_lineAt 17 = .ok (.aaload, 1) := by decide +kernel
theorem d_Bc_lineAt_18 : decode c_Bc_lineAt 18 = .ok (.goto 4, 3) := by decide +kernel
theorem d_Bc_lineAt_21 : decode c_Bc_lineAt 21 = .ok (.aconst_null, 1) := by decide +kernel
theorem d_Bc_lineAt_22 : decode c_Bc_lineAt 22 = .ok (.areturn, 1) := by decide +kernel
theorem d_Bc_cutLength_0 : decode c_Bc_cutLength 0 = .ok (.aload_n 0, 1) := by decide +kernel
theorem d_Bc_cutLength_1 : decode c_Bc_cutLength 1 = .ok (.getfield 28, 3) := by decide +kernel
theorem d_Bc_cutLength_4 : decode c_Bc_cutLength 4 = .ok (.aload_n 1, 1) := by decide +kernel
theorem d_Bc_cutLength_5 : decode c_Bc_cutLength 5 = .ok (.getfield 129, 3) := by decide +kernel
theorem d_Bc_cutLength_8 : decode c_Bc_cutLength 8 = .ok (.iconst 4, 1) := by decide +kernel
theorem d_Bc_cutLength_9 : decode c_Bc_cutLength 9 = .ok (.isub, 1) := by decide +kernel
theorem d_Bc_cutLength_10 : decode c_Bc_cutLength 10 = .ok (.iaload, 1) := by decide +kernel
theorem d_Bc_cutLength_11 : decode c_Bc_cutLength 11 = .ok (.aload_n 1, 1) := by decide +kernel
theorem d_Bc_cutLength_12 : decode c_Bc_cutLength 12 = .ok (.getfield 106, 3) := by decide +kernel
theorem d_Bc_cutLength_15 : decode c_Bc_cutLength 15 = .ok (.getfield 239, 3) := by decide +kernel
theorem d_Bc_cutLength_18 : decode c_Bc_cutLength 18 = .ok (.imul, 1) := by decide +kernel
theorem d_Bc_cutLength_19 : decode c_Bc_cutLength 19 = .ok (.istore_n 2, 1) := by decide +kernel
theorem d_Bc_cutLength_20 : decode c_Bc_cutLength 20 = .ok (.iconst 0, 1) := by decide +kernel
theorem d_Bc_cutLength_21 : decode c_Bc_cutLength 21 = .ok (.aload_n 1, 1) := by decide +kernel
theorem d_Bc_cutLength_22 : decode c_Bc_cutLength 22 = .ok (.invokevirtual 126, 3) := by decide +kernel
theorem d_Bc_cutLength_25 : decode c_Bc_cutLength 25 = .ok (.iload_n 2, 1) := by decide +kernel
theorem d_Bc_cutLength_26 : decode c_Bc_cutLength 26 = .ok (.isub, 1) := by decide +kernel
theorem d_Bc_cutLength_27 : decode c_Bc_cutLength 27 = .ok (.invokestatic 242, 3) := by decide +kernel
theorem d_Bc_cutLength_30 : decode c_Bc_cutLength 30 = .ok (.ireturn, 1) := by decide +kernel
theorem d_Bc_cutDiameter_0 : decode c_Bc_cutDiameter 0 = .ok (.aload_n 0, 1) := by decide +kernel
theorem d_Bc_cutDiameter_1 : decode c_Bc_cutDiameter 1 = .ok (.getfield 41, 3) := by decide +kernel
theorem d_Bc_cutDiameter_4 : decode c_Bc_cutDiameter 4 = .ok (.getfield 247, 3) := by decide +kernel
theorem d_Bc_cutDiameter_7 : decode c_Bc_cutDiameter 7 = .ok (.istore_n 3, 1) := by decide +kernel
theorem d_Bc_cutDiameter_8 : decode c_Bc_cutDiameter 8 = .ok (.aload_n 0, 1) := by decide +kernel
theorem d_Bc_cutDiameter_9 : decode c_Bc_cutDiameter 9 = .ok (.iload_n 1, 1) := by decide +kernel
theorem d_Bc_cutDiameter_10 : decode c_Bc_cutDiameter 10 = .ok (.iload_n 3, 1) := by decide +kernel
theorem d_Bc_cutDiameter_11 : decode c_Bc_cutDiameter 11 = .ok (.invokevirtual 250, 3) := by decide +kernel
theorem d_Bc_cutDiameter_14 : decode c_Bc_cutDiameter 14 = .ok (.ifCond .ne 5, 3) := by decide +kernel
theorem d_Bc_cutDiameter_17 : decode c_Bc_cutDiameter 17 = .ok (.iconst 0, 1) := by decide +kernel
theorem d_Bc_cutDiameter_18 : decode c_Bc_cutDiameter 18 = .ok (.ireturn, 1) := by decide +kernel
theorem d_Bc_cutDiameter_19 : decode c_Bc_cutDiameter 19 = .ok (.aload_n 0, 1) := by decide +kernel
theorem d_Bc_cutDiameter_20 : decode c_Bc_cutDiameter 20 = .ok (.getfield 41, 3) := by decide +kernel
theorem d_Bc_cutDiameter_23 : decode c_Bc_cutDiameter 23 = .ok (.getfield 247, 3) := by decide +kernel
theorem d_Bc_cutDiameter_26 : decode c_Bc_cutDiameter 26 = .ok (.iload_n 3, 1) := by decide +kernel
theorem d_Bc_cutDiameter_27 : decode c_Bc_cutDiameter 27 = .ok (.isub, 1) := by decide +kernel
theorem d_Bc_cutDiameter_28 : decode c_Bc_cutDiameter 28 = .ok (.istore 4, 2) := by decide +kernel
theorem d_Bc_cutDiameter_30 : decode c_Bc_cutDiameter 30 = .ok (.iload 4, 2) := by decide +kernel
theorem d_Bc_cutDiameter_32 : decode c_Bc_cutDiameter 32 = .ok (.ifCond .ne 5, 3) := by decide +kernel
theorem d_Bc_cutDiameter_35 : decode c_Bc_cutDiameter 35 = .ok (.iconst 1, 1) := by decide +kernel
theorem d_Bc_cutDiameter_36 : decode c_Bc_cutDiameter 36 = .ok (.ireturn, 1) := by decide +kernel
theorem d_Bc_cutDiameter_37 : decode c_Bc_cutDiameter 37 = .ok (.aload_n 0, 1) := by decide +kernel
theorem d_Bc_cutDiameter_38 : decode c_Bc_cutDiameter 38 = .ok (.getfield 34, 3) := by decide +kernel
theorem d_Bc_cutDiameter_41 : decode c_Bc_cutDiameter 41 = .ok (.iload_n 1, 1) := by decide +kernel
theorem d_Bc_cutDiameter_42 : decode c_Bc_cutDiameter 42 = .ok (.iconst 4, 1) := by decide +kernel
theorem d_Bc_cutDiameter_43 : decode c_Bc_cutDiameter 43 = .ok (.isub, 1) := by decide +kernel
theorem d_Bc_cutDiameter_44 : decode c_Bc_cutDiameter 44 = .ok (.aaload, 1) := by decide +kernel
theorem d_Bc_cutDiameter_45 : decode c_Bc_cutDiameter 45 = .ok (.astore 5, 2) := by decide +kernel
theorem d_Bc_cutDiameter_47 : decode c_Bc_cutDiameter 47 = .ok (.aload 5, 2) := by decide +kernel
theorem d_Bc_cutDiameter_49 : decode c_Bc_cutDiameter 49 = .ok (.ifnonnull 5, 3) := by decide +kernel
theorem d_Bc_cutDiameter_52 : decode c_Bc_cutDiameter 52 = .ok (.iconst 0, 1) := by decide +kernel
theorem d_Bc_cutDiameter_53 : decode c_Bc_cutDiameter 53 = .ok (.ireturn, 1) := by decide +kernel
theorem d_Bc_cutDiameter_54 : decode c_Bc_cutDiameter 54 = .ok (.aload_n 0, 1) := by decide +kernel
theorem d_Bc_cutDiameter_55 : decode c_Bc_cutDiameter 55 = .ok (.getfield 41, 3) := by decide +kernel
theorem d_Bc_cutDiameter_58 : decode c_Bc_cutDiameter 58 = .ok (.dup, 1) := by decide +kernel
theorem d_Bc_cutDiameter_59 : decode c_Bc_cutDiameter 59 = .ok (.getfield 161, 3) := by decide +kernel
theorem d_Bc_cutDiameter_62 : decode c_Bc_cutDiameter 62 = .ok (.iconst 1, 1) := by decide +kernel
theorem d_Bc_cutDiameter_63 : decode c_Bc_cutDiameter 63 = .ok (.iadd, 1) := by decide +kernel
theorem d_Bc_cutDiameter_64 : decode c_Bc_cutDiameter 64 = .ok (.putfield 161, 3) := by decide +kernel
theorem d_Bc_cutDiameter_67 : decode c_Bc_cutDiameter 67 = .ok (.iload 4, 2) := by decide +kernel
theorem d_Bc_cutDiameter_69 : decode c_Bc_cutDiameter 69 = .ok (.iload_n 2, 1) := by decide +kernel
theorem d_Bc_cutDiameter_70 : decode c_Bc_cutDiameter 70 = .ok (.if_icmp .le 19, 3) := by decide +kernel
theorem d_Bc_cutDiameter_73 : decode c_Bc_cutDiameter 73 = .ok (.aload_n 0, 1) := by decide +kernel
theorem d_Bc_cutDiameter_74 : decode c_Bc_cutDiameter 74 = .ok (.getfield 55, 3) := by decide +kernel
theorem d_Bc_cutDiameter_77 : decode c_Bc_cutDiameter 77 = .ok (.aload_n 0, 1) := by decide +kernel
theorem d_Bc_cutDiameter_78 : decode c_Bc_cutDiameter 78 = .ok (.getfield 41, 3) := by decide +kernel
theorem d_Bc_cutDiameter_81 : decode c_Bc_cutDiameter 81 = .ok (.iload_n 3, 1) := by decide +kernel
theorem d_Bc_cutDiameter_82 : decode c_Bc_cutDiameter 82 = .ok (.iload_n 1, 1) := by decide +kernel
theorem d_Bc_cutDiameter_83 : decode c_Bc_cutDiameter 83 = .ok (.aload 5, 2) := by decide +kernel
theorem d_Bc_cutDiameter_85 : decode c_Bc_cutDiameter 85 = .ok (.invokevirtual 253, 3) := by decide +kernel
theorem d_Bc_cutDiameter_88 : decode c_Bc_cutDiameter 88 = .ok (.ireturn, 1) := by decide +kernel
theorem d_Bc_cutDiameter_89 : decode c_Bc_cutDiameter 89 = .ok (.aload_n 0, 1) := by decide +kernel
theorem d_Bc_cutDiameter_90 : decode c_Bc_cutDiameter 90 = .ok (.getfield 41, 3) := by decide +kernel
theorem d_Bc_cutDiameter_93 : decode c_Bc_cutDiameter 93 = .ok (.dup, 1) := by decide +kernel
theorem d_Bc_cutDiameter_94 : decode c_Bc_cutDiameter 94 = .ok (.getfield 158, 3) := by decide +kernel
theorem d_Bc_cutDiameter_97 : decode c_Bc_cutDiameter 97 = .ok (.iconst 1, 1) := by decide +kernel
theorem d_Bc_cutDiameter_98 : decode c_Bc_cutDiameter 98 = .ok (.iadd, 1) := by decide +kernel
theorem d_Bc_cutDiameter_99 : decode c_Bc_cutDiameter 99 = .ok (.putfield 158, 3) := by decide +kernel
theorem d_Bc_cutDiameter_102 : decode c_Bc_cutDiameter 102 = .ok (.aload_n 0, 1) := by decide +kernel
theorem d_Bc_cutDiameter_103 : decode c_Bc_cutDiameter 103 = .ok (.getfield 48, 3) := by decide +kernel
theorem d_Bc_cutDiameter_106 : decode c_Bc_cutDiameter 106 = .ok (.aload_n 0, 1) := by decide +kernel
theorem d_Bc_cutDiameter_107 : decode c_Bc_cutDiameter 107 = .ok (.getfield 41, 3) := by decide +kernel
theorem d_Bc_cutDiameter_110 : decode c_Bc_cutDiameter 110 = .ok (.iload_n 3, 1) := by decide +kernel
theorem d_Bc_cutDiameter_111 : decode c_Bc_cutDiameter 111 = .ok (.iload_n 1, 1) := by decide +kernel
theorem d_Bc_cutDiameter_112 : decode c_Bc_cutDiameter 112 = .ok (.aload 5, 2) := by decide +kernel
theorem d_Bc_cutDiameter_114 : decode c_Bc_cutDiameter 114 = .ok (.invokevirtual 257, 3) := by decide +kernel
theorem d_Bc_cutDiameter_117 : decode c_Bc_cutDiameter 117 = .ok (.ireturn, 1) := by decide +kernel
theorem d_Bc_gatherPieces_0 : decode c_Bc_gatherPieces 0 = .ok (.iconst 0, 1) := by decide +kernel
theorem d_Bc_gatherPieces_1 : decode c_Bc_gatherPieces 1 = .ok (.istore_n 3, 1) := by decide +kernel
theorem d_Bc_gatherPieces_2 : decode c_Bc_gatherPieces 2 = .ok (.iload_n 3, 1) := by decide +kernel
theorem d_Bc_gatherPieces_3 : decode c_Bc_gatherPieces 3 = .ok (.aload_n 0, 1) := by decide +kernel
theorem d_Bc_gatherPieces_4 : decode c_Bc_gatherPieces 4 = .ok (.getfield 73, 3) := by decide +kernel
theorem d_Bc_gatherPieces_7 : decode c_Bc_gatherPieces 7 = .ok (.if_icmp .ge 71, 3) := by decide +kernel
theorem d_Bc_gatherPieces_10 : decode c_Bc_gatherPieces 10 = .ok (.aload_n 0, 1) := by decide +kernel
theorem d_Bc_gatherPieces_11 : decode c_Bc_gatherPieces 11 = .ok (.getfield 24, 3) := by decide +kernel
theorem d_Bc_gatherPieces_14 : decode c_Bc_gatherPieces 14 = .ok (.iload_n 3, 1) := by decide +kernel
theorem d_Bc_gatherPieces_15 : decode c_Bc_gatherPieces 15 = .ok (.aaload, 1) := by decide +kernel
theorem d_Bc_gatherPieces_16 : decode c_Bc_gatherPieces 16 = .ok (.astore 4, 2) := by decide +kernel
theorem d_Bc_gatherPieces_18 : decode c_Bc_gatherPieces 18 = .ok (.aload 4, 2) := by decide +kernel
theorem d_Bc_gatherPieces_20 : decode c_Bc_gatherPieces 20 = .ok (.getfield 129, 3) := by decide +kernel
theorem d_Bc_gatherPieces_23 : decode c_Bc_gatherPieces 23 = .ok (.iload_n 1, 1) := by decide +kernel
theorem d_Bc_gatherPieces_24 : decode c_Bc_gatherPieces 24 = .ok (.if_icmp .ne 48, 3) := by decide +kernel
theorem d_Bc_gatherPieces_27 : decode c_Bc_gatherPieces 27 = .ok (.aload_n 0, 1) := by decide +kernel
theorem d_Bc_gatherPieces_28 : decode c_Bc_gatherPieces 28 = .ok (.aload 4, 2) := by decide +kernel
theorem d_Bc_gatherPieces_30 : decode c_Bc_gatherPieces 30 = .ok (.invokevirtual 119, 3) := by decide +kernel
theorem d_Bc_gatherPieces_33 : decode c_Bc_gatherPieces 33 = .ok (.istore 5, 2) := by decide +kernel
theorem d_Bc_gatherPieces_35 : decode c_Bc_gatherPieces 35 = .ok (.iload 5, 2) := by decide +kernel
theorem d_Bc_gatherPieces_37 : decode c_Bc_gatherPieces 37 = .ok (.ifCond .ne 5, 3) := by decide +kernel
theorem d_Bc_gatherPieces_40 : decode c_Bc_gatherPieces 40 = .ok (.iconst 0, 1) := by decide +kernel
theorem d_Bc_gatherPieces_41 : decode c_Bc_gatherPieces 41 = .ok (.ireturn, 1) := by decide +kernel
theorem d_Bc_gatherPieces_42 : decode c_Bc_gatherPieces 42 = .ok (.iconst 0, 1) := by decide +kernel
theorem d_Bc_gatherPieces_43 : decode c_Bc_gatherPieces 43 = .ok (.istore 6, 2) := by decide +kernel
theorem d_Bc_gatherPieces_45 : decode c_Bc_gatherPieces 45 = .ok (.iload 6, 2) := by decide +kernel
theorem d_Bc_gatherPieces_47 : decode c_Bc_gatherPieces 47 = .ok (.aload 4, 2) := by decide +kernel
theorem d_Bc_gatherPieces_49 : decode c_Bc_gatherPieces 49 = .ok (.getfield 123, 3) := by decide +kernel
theorem d_Bc_gatherPieces_52 : decode c_Bc_gatherPieces 52 = .ok (.if_icmp .ge 20, 3) := by decide +kernel
theorem d_Bc_gatherPieces_55 : decode c_Bc_gatherPieces 55 = .ok (.aload_n 0, 1) := by decide +kernel
theorem d_Bc_gatherPieces_56 : decode c_Bc_gatherPieces 56 = .ok (.getfield 41, 3) := by decide +kernel
theorem d_Bc_gatherPieces_59 : decode c_Bc_gatherPieces 59 = .ok (.iload_n 2, 1) := by decide +kernel
theorem d_Bc_gatherPieces_60 : decode c_Bc_gatherPieces 60 = .ok (.iload_n 3, 1) := by decide +kernel
theorem d_Bc_gatherPieces_61 : decode c_Bc_gatherPieces 61 = .ok (.iload 5, 2) := by decide +kernel
theorem d_Bc_gatherPieces_63 : decode c_Bc_gatherPieces 63 = .ok (.invokevirtual 258, 3) := by decide +kernel
theorem d_Bc_gatherPieces_66 : decode c_Bc_gatherPieces 66 = .ok (.iinc 6 1, 3) := by decide +kernel
theorem d_Bc_gatherPieces_69 : decode c_Bc_gatherPieces 69 = .ok (.goto (-24), 3) := by decide +kernel
theorem d_Bc_gatherPieces_72 : decode c_Bc_gatherPieces 72 = .ok (.iinc 3 1, 3) := by decide +kernel
theorem d_Bc_gatherPieces_75 : decode c_Bc_gatherPieces 75 = .ok (.goto (-73), 3) := by decide +kernel
theorem d_Bc_gatherPieces_78 : decode c_Bc_gatherPieces 78 = .ok (.iconst 1, 1) := by decide +kernel
theorem d_Bc_gatherPieces_79 : decode c_Bc_gatherPieces 79 = .ok (.ireturn, 1) := by decide +kernel
theorem d_Bc_greatestCommonWithDivisor_0 : decode c_Bc_greatestCommonWithDivisor 0 = .ok (.sipush 162, 3) := by decide +kernel
theorem d_Bc_greatestCommonWithDivisor_3 : decode c_Bc_greatestCommonWithDivisor 3 = .ok (.istore_n 2, 1) := by decide +kernel
theorem d_Bc_greatestCommonWithDivisor_4 : decode c_Bc_greatestCommonWithDivisor 4 = .ok (.iload_n 2, 1) := by decide +kernel
theorem d_Bc_greatestCommonWithDivisor_5 : decode c_Bc_greatestCommonWithDivisor 5 = .ok (.iconst 1, 1) := by decide +kernel
theorem d_Bc_greatestCommonWithDivisor_6 : decode c_Bc_greatestCommonWithDivisor 6 = .ok (.if_icmp .le 28, 3) := by decide +kernel
theorem d_Bc_greatestCommonWithDivisor_9 : decode c_Bc_greatestCommonWithDivisor 9 = .ok (.sipush 162, 3) := by decide +kernel
theorem d_Bc_greatestCommonWithDivisor_12 : decode c_Bc_greatestCommonWithDivisor 12 = .ok (.iload_n 2, 1) := by decide +kernel
theorem d_Bc_greatestCommonWithDivisor_13 : decode c_Bc_greatestCommonWithDivisor 13 = .ok (.irem, 1) := by decide +kernel
theorem d_Bc_greatestCommonWithDivisor_14 : decode c_Bc_greatestCommonWithDivisor 14 = .ok (.ifCond .ne 14, 3) := by decide +kernel
theorem d_Bc_greatestCommonWithDivisor_17 : decode c_Bc_greatestCommonWithDivisor 17 = .ok (.lload_n 0, 1) := by decide +kernel
theorem d_Bc_greatestCommonWithDivisor_18 : decode c_Bc_greatestCommonWithDivisor 18 = .ok (.iload_n 2, 1) := by decide +kernel
theorem d_Bc_greatestCommonWithDivisor_19 : decode c_Bc_greatestCommonWithDivisor 19 = .ok (.i2l, 1) := by decide +kernel
theorem d_Bc_greatestCommonWithDivisor_20 : decode c_Bc_greatestCommonWithDivisor 20 = .ok (.lrem, 1) := by decide +kernel
theorem d_Bc_greatestCommonWithDivisor_21 : decode c_Bc_greatestCommonWithDivisor 21 = .ok (.lconst 0, 1) := by decide +kernel
theorem d_Bc_greatestCommonWithDivisor_22 : decode c_Bc_greatestCommonWithDivisor 22 = .ok (.lcmp, 1) := by decide +kernel
theorem d_Bc_greatestCommonWithDivisor_23 : decode c_Bc_greatestCommonWithDivisor 23 = .ok (.ifCond .ne 5, 3) := by decide +kernel
theorem d_Bc_greatestCommonWithDivisor_26 : decode c_Bc_greatestCommonWithDivisor 26 = .ok (.iload_n 2, 1) := by decide +kernel
theorem d_Bc_greatestCommonWithDivisor_27 : decode c_Bc_greatestCommonWithDivisor 27 = .ok (.ireturn, 1) := by decide +kernel
theorem d_Bc_greatestCommonWithDivisor_28 : decode c_Bc_greatestCommonWithDivisor 28 = .ok (.iinc 2 (-1), 3) := by decide +kernel
theorem d_Bc_greatestCommonWithDivisor_31 : decode c_Bc_greatestCommonWithDivisor 31 = .ok (.goto (-27), 3) := by decide +kernel
theorem d_Bc_greatestCommonWithDivisor_34 : decode c_Bc_greatestCommonWithDivisor 34 = .ok (.iconst 1, 1) := by decide +kernel
theorem d_Bc_greatestCommonWithDivisor_35 : decode c_Bc_greatestCommonWithDivisor 35 = .ok (.ireturn, 1) := by decide +kernel
theorem d_Bc_linesBentBefore_0 : decode c_Bc_linesBentBefore 0 = .ok (.iconst 0, 1) := by decide +kernel
theorem d_Bc_linesBentBefore_1 : decode c_Bc_linesBentBefore 1 = .ok (.istore_n 2, 1) := by decide +kernel
theorem d_Bc_linesBentBefore_2 : decode c_Bc_linesBentBefore 2 = .ok (.iconst 0, 1) := by decide +kernel
theorem d_Bc_linesBentBefore_3 : decode c_Bc_linesBentBefore 3 = .ok (.istore_n 3, 1) := by decide +kernel
theorem d_Bc_linesBentBefore_4 : decode c_Bc_linesBentBefore 4 = .ok (.iload_n 3, 1) := by decide +kernel
theorem d_Bc_linesBentBefore_5 : decode c_Bc_linesBentBefore 5 = .ok (.aload_n 0, 1) := by decide +kernel
theorem d_Bc_linesBentBefore_6 : decode c_Bc_linesBentBefore 6 = .ok (.getfield 73, 3) := by decide +kernel
theorem d_Bc_linesBentBefore_9 : decode c_Bc_linesBentBefore 9 = .ok (.if_icmp .ge 21, 3) := by decide +kernel
theorem d_Bc_linesBentBefore_12 : decode c_Bc_linesBentBefore 12 = .ok (.aload_n 0, 1) := by decide +kernel
theorem d_Bc_linesBentBefore_13 : decode c_Bc_linesBentBefore 13 = .ok (.iload_n 3, 1) := by decide +kernel
theorem d_Bc_linesBentBefore_14 : decode c_Bc_linesBentBefore 14 = .ok (.iload_n 1, 1) := by decide +kernel
theorem d_Bc_linesBentBefore_15 : decode c_Bc_linesBentBefore 15 = .ok (.invokevirtual 262, 3) := by decide +kernel
theorem d_Bc_linesBentBefore_18 : decode c_Bc_linesBentBefore 18 = .ok (.ifCond .eq 6, 3) := by decide +kernel
theorem d_Bc_linesBentBefore_21 : decode c_Bc_linesBentBefore 21 = .ok (.iinc 2 1, 3) := by decide +kernel
theorem d_Bc_linesBentBefore_24 : decode c_Bc_linesBentBefore 24 = .ok (.iinc 3 1, 3) := by decide +kernel
theorem d_Bc_linesBentBefore_27 : decode c_Bc_linesBentBefore 27 = .ok (.goto (-23), 3) := by decide +kernel
theorem d_Bc_linesBentBefore_30 : decode c_Bc_linesBentBefore 30 = .ok (.iload_n 2, 1) := by decide +kernel
theorem d_Bc_linesBentBefore_31 : decode c_Bc_linesBentBefore 31 = .ok (.ireturn, 1) := by decide +kernel
theorem d_Bc_isBentBefore_0 : decode c_Bc_isBentBefore 0 = .ok (.aload_n 0, 1) := by decide +kernel
theorem d_Bc_isBentBefore_1 : decode c_Bc_isBentBefore 1 = .ok (.getfield 24, 3) := by decide +kernel
theorem d_Bc_isBentBefore_4 : decode c_Bc_isBentBefore 4 = .ok (.iload_n 1, 1) := by decide +kernel
theorem d_Bc_isBentBefore_5 : decode c_Bc_isBentBefore 5 = .ok (.aaload, 1) := by decide +kernel
theorem d_Bc_isBentBefore_6 : decode c_Bc_isBentBefore 6 = .ok (.astore_n 3, 1) := by decide +kernel
theorem d_Bc_isBentBefore_7 : decode c_Bc_isBentBefore 7 = .ok (.aload_n 0, 1) := by decide +kernel
theorem d_Bc_isBentBefore_8 : decode c_Bc_isBentBefore 8 = .ok (.getfield 24, 3) := by decide +kernel
theorem d_Bc_isBentBefore_11 : decode c_Bc_isBentBefore 11 = .ok (.iload_n 2, 1) := by decide +kernel
theorem d_Bc_isBentBefore_12 : decode c_Bc_isBentBefore 12 = .ok (.aaload, 1) := by decide +kernel
theorem d_Bc_isBentBefore_13 : decode c_Bc_isBentBefore 13 = .ok (.astore 4, 2) := by decide +kernel
theorem d_Bc_isBentBefore_15 : decode c_Bc_isBentBefore 15 = .ok (.aload_n 3, 1) := by decide +kernel
theorem d_Bc_isBentBefore_16 : decode c_Bc_isBentBefore 16 = .ok (.getfield 129, 3) := by decide +kernel
theorem d_Bc_isBentBefore_19 : decode c_Bc_isBentBefore 19 = .ok (.aload 4, 2) := by decide +kernel
theorem d_Bc_isBentBefore_21 : decode c_Bc_isBentBefore 21 = .ok (.getfield 129, 3) := by decide +kernel
theorem d_Bc_isBentBefore_24 : decode c_Bc_isBentBefore 24 = .ok (.if_icmp .eq 21, 3) := by decide +kernel
theorem d_Bc_isBentBefore_27 : decode c_Bc_isBentBefore 27 = .ok (.aload_n 3, 1) := by decide +kernel
theorem d_Bc_isBentBefore_28 : decode c_Bc_isBentBefore 28 = .ok (.getfield 129, 3) := by decide +kernel
theorem d_Bc_isBentBefore_31 : decode c_Bc_isBentBefore 31 = .ok (.aload 4, 2) := by decide +kernel
theorem d_Bc_isBentBefore_33 : decode c_Bc_isBentBefore 33 = .ok (.getfield 129, 3) := by decide +kernel
theorem d_Bc_isBentBefore_36 : decode c_Bc_isBentBefore 36 = .ok (.if_icmp .ge 7, 3) := by decide +kernel
theorem d_Bc_isBentBefore_39 : decode c_Bc_isBentBefore 39 = .ok (.iconst 1, 1) := by decide +kernel
theorem d_Bc_isBentBefore_40 : decode c_Bc_isBentBefore 40 = .ok (.goto 4, 3) := by decide +kernel
theorem d_Bc_isBentBefore_43 : decode c_Bc_isBentBefore 43 = .ok (.iconst 0, 1) := by decide +kernel
theorem d_Bc_isBentBefore_44 : decode c_Bc_isBentBefore 44 = .ok (.ireturn, 1) := by decide +kernel
theorem d_Bc_isBentBefore_45 : decode c_Bc_isBentBefore 45 = .ok (.aload_n 3, 1) := by decide +kernel
theorem d_Bc_isBentBefore_46 : decode c_Bc_isBentBefore 46 = .ok (.getfield 132, 3) := by decide +kernel
theorem d_Bc_isBentBefore_49 : decode c_Bc_isBentBefore 49 = .ok (.aload 4, 2) := by decide +kernel
theorem d_Bc_isBentBefore_51 : decode c_Bc_isBentBefore 51 = .ok (.getfield 132, 3) := by decide +kernel
theorem d_Bc_isBentBefore_54 : decode c_Bc_isBentBefore 54 = .ok (.if_icmp .eq 21, 3) := by decide +kernel
theorem d_Bc_isBentBefore_57 : decode c_Bc_isBentBefore 57 = .ok (.aload_n 3, 1) := by decide +kernel
theorem d_Bc_isBentBefore_58 : decode c_Bc_isBentBefore 58 = .ok (.getfield 132, 3) := by decide +kernel
theorem d_Bc_isBentBefore_61 : decode c_Bc_isBentBefore 61 = .ok (.aload 4, 2) := by decide +kernel
theorem d_Bc_isBentBefore_63 : decode c_Bc_isBentBefore 63 = .ok (.getfield 132, 3) := by decide +kernel
theorem d_Bc_isBentBefore_66 : decode c_Bc_isBentBefore 66 = .ok (.if_icmp .ge 7, 3) := by decide +kernel
theorem d_Bc_isBentBefore_69 : decode c_Bc_isBentBefore 69 = .ok (.iconst 1, 1) := by decide +kernel
theorem d_Bc_isBentBefore_70 : decode c_Bc_isBentBefore 70 = .ok (.goto 4, 3) := by decide +kernel
theorem d_Bc_isBentBefore_73 : decode c_Bc_isBentBefore 73 = .ok (.iconst 0, 1) := by decide +kernel
theorem d_Bc_isBentBefore_74 : decode c_Bc_isBentBefore 74 = .ok (.ireturn, 1) := by decide +kernel
theorem d_Bc_isBentBefore_75 : decode c_Bc_isBentBefore 75 = .ok (.iload_n 1, 1) := by decide +kernel
theorem d_Bc_isBentBefore_76 : decode c_Bc_isBentBefore 76 = .ok (.iload_n 2, 1) := by decide +kernel
theorem d_Bc_isBentBefore_77 : decode c_Bc_isBentBefore 77 = .ok (.if_icmp .ge 7, 3) := by decide +kernel
theorem d_Bc_isBentBefore_80 : decode c_Bc_isBentBefore 80 = .ok (.iconst 1, 1) := by decide +kernel
theorem d_Bc_isBentBefore_81 : decode c_Bc_isBentBefore 81 = .ok (.goto 4, 3) := by decide +kernel
theorem d_Bc_isBentBefore_84 : decode c_Bc_isBentBefore 84 = .ok (.iconst 0, 1) := by decide +kernel
theorem d_Bc_isBentBefore_85 : decode c_Bc_isBentBefore 85 = .ok (.ireturn, 1) := by decide +kernel
