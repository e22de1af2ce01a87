theorem d_M_init_0 : decode c_M_init 0 = .ok (.aload_n 0, 1) := by decide +kernel
theorem d_M_init_1 : decode c_M_init 1 = .ok (.invokespecial 1, 3) := by decide +kernel
theorem d_M_init_4 : decode c_M_init 4 = .ok (.aload_n 0, 1) := by decide +kernel
theorem d_M_init_5 : decode c_M_init 5 = .ok (.sipush 500, 3) := by decide +kernel
theorem d_M_init_8 : decode c_M_init 8 = .ok (.newarray .long, 2) := by decide +kernel
theorem d_M_init_10 : decode c_M_init 10 = .ok (.putfield 7, 3) := by decide +kernel
theorem d_M_init_13 : decode c_M_init 13 = .ok (.aload_n 0, 1) := by decide +kernel
theorem d_M_init_14 : decode c_M_init 14 = .ok (.sipush 500, 3) := by decide +kernel
theorem d_M_init_17 : decode c_M_init 17 = .ok (.newarray .long, 2) := by decide +kernel
theorem d_M_init_19 : decode c_M_init 19 = .ok (.putfield 13, 3) := by decide +kernel
theorem d_M_init_22 : decode c_M_init 22 = .ok (.aload_n 0, 1) := by decide +kernel
theorem d_M_init_23 : decode c_M_init 23 = .ok (.sipush 500, 3) := by decide +kernel
theorem d_M_init_26 : decode c_M_init 26 = .ok (.newarray .int, 2) := by decide +kernel
theorem d_M_init_28 : decode c_M_init 28 = .ok (.putfield 16, 3) := by decide +kernel
theorem d_M_init_31 : decode c_M_init 31 = .ok (.aload_n 0, 1) := by decide +kernel
theorem d_M_init_32 : decode c_M_init 32 = .ok (.iconst 4, 1) := by decide +kernel
theorem d_M_init_33 : decode c_M_init 33 = .ok (.newarray .int, 2) := by decide +kernel
theorem d_M_init_35 : decode c_M_init 35 = .ok (.putfield 20, 3) := by decide +kernel
theorem d_M_init_38 : decode c_M_init 38 = .ok (.aload_n 0, 1) := by decide +kernel
theorem d_M_init_39 : decode c_M_init 39 = .ok (.bipush 64, 2) := by decide +kernel
theorem d_M_init_41 : decode c_M_init 41 = .ok (.newarray .long, 2) := by decide +kernel
theorem d_M_init_43 : decode c_M_init 43 = .ok (.putfield 23, 3) := by decide +kernel
theorem d_M_init_46 : decode c_M_init 46 = .ok (.aload_n 0, 1) := by decide +kernel
theorem d_M_init_47 : decode c_M_init 47 = .ok (.bipush 64, 2) := by decide +kernel
theorem d_M_init_49 : decode c_M_init 49 = .ok (.newarray .long, 2) := by decide +kernel
theorem d_M_init_51 : decode c_M_init 51 = .ok (.putfield 26, 3) := by decide +kernel
theorem d_M_init_54 : decode c_M_init 54 = .ok (.aload_n 0, 1) := by decide +kernel
theorem d_M_init_55 : decode c_M_init 55 = .ok (.iconst 4, 1) := by decide +kernel
theorem d_M_init_56 : decode c_M_init 56 = .ok (.newarray .long, 2) := by decide +kernel
theorem d_M_init_58 : decode c_M_init 58 = .ok (.putfield 29, 3) := by decide +kernel
theorem d_M_init_61 : decode c_M_init 61 = .ok (.aload_n 0, 1) := by decide +kernel
theorem d_M_init_62 : decode c_M_init 62 = .ok (.bipush 16, 2) := by decide +kernel
theorem d_M_init_64 : decode c_M_init 64 = .ok (.newarray .long, 2) := by decide +kernel
theorem d_M_init_66 : decode c_M_init 66 = .ok (.putfield 32, 3) := by decide +kernel
theorem d_M_init_69 : decode c_M_init 69 = .ok (.return_, 1) := by decide +kernel
theorem d_M_thrown_0 : decode c_M_thrown 0 = .ok (.aload_n 0, 1) := by decide +kernel
theorem d_M_thrown_1 : decode c_M_thrown 1 = .ok (.getfield 35, 3) := by decide +kernel
theorem d_M_thrown_4 : decode c_M_thrown 4 = .ok (.ireturn, 1) := by decide +kernel
theorem d_M_isAmount_0 : decode c_M_isAmount 0 = .ok (.iload_n 1, 1) := by decide +kernel
theorem d_M_isAmount_1 : decode c_M_isAmount 1 = .ok (.ifCond .lt 15, 3) := by decide +kernel
theorem d_M_isAmount_4 : decode c_M_isAmount 4 = .ok (.iload_n 1, 1) := by decide +kernel
theorem d_M_isAmount_5 : decode c_M_isAmount 5 = .ok (.aload_n 0, 1) := by decide +kernel
theorem d_M_isAmount_6 : decode c_M_isAmount 6 = .ok (.getfield 39, 3) := by decide +kernel
theorem d_M_isAmount_9 : decode c_M_isAmount 9 = .ok (.if_icmp .ge 7, 3) := by decide +kernel
theorem d_M_isAmount_12 : decode c_M_isAmount 12 = .ok (.iconst 1, 1) := by decide +kernel
theorem d_M_isAmount_13 : decode c_M_isAmount 13 = .ok (.goto 4, 3) := by decide +kernel
theorem d_M_isAmount_16 : decode c_M_isAmount 16 = .ok (.iconst 0, 1) := by decide +kernel
theorem d_M_isAmount_17 : decode c_M_isAmount 17 = .ok (.ireturn, 1) := by decide +kernel
theorem d_M_common_0 : decode c_M_common 0 = .ok (.lload_n 0, 1) := by decide +kernel
theorem d_M_common_1 : decode c_M_common 1 = .ok (.lconst 0, 1) := by decide +kernel
theorem d_M_common_2 : decode c_M_common 2 = .ok (.lcmp, 1) := by decide +kernel
theorem d_M_common_3 : decode c_M_common 3 = .ok (.ifCond .ge 8, 3) := by decide +kernel
theorem d_M_common_6 : decode c_M_common 6 = .ok (.lload_n 0, 1) := by decide +kernel
theorem d_M_common_7 : decode c_M_common 7 = .ok (.lneg, 1) := by decide +kernel
theorem d_M_common_8 : decode c_M_common 8 = .ok (.goto 4, 3) := by decide +kernel
theorem d_M_common_11 : decode c_M_common 11 = .ok (.lload_n 0, 1) := by decide +kernel
theorem d_M_common_12 : decode c_M_common 12 = .ok (.lstore 4, 2) := by decide +kernel
theorem d_M_common_14 : decode c_M_common 14 = .ok (.lload_n 2, 1) := by decide +kernel
theorem d_M_common_15 : decode c_M_common 15 = .ok (.lconst 0, 1) := by decide +kernel
theorem d_M_common_16 : decode c_M_common 16 = .ok (.lcmp, 1) := by decide +kernel
theorem d_M_common_17 : decode c_M_common 17 = .ok (.ifCond .ge 8, 3) := by decide +kernel
theorem d_M_common_20 : decode c_M_common 20 = .ok (.lload_n 2, 1) := by decide +kernel
theorem d_M_common_21 : decode c_M_common 21 = .ok (.lneg, 1) := by decide +kernel
theorem d_M_common_22 : decode c_M_common 22 = .ok (.goto 4, 3) := by decide +kernel
theorem d_M_common_25 : decode c_M_common 25 = .ok (.lload_n 2, 1) := by decide +kernel
theorem d_M_common_26 : decode c_M_common 26 = .ok (.lstore 6, 2) := by decide +kernel
theorem d_M_common_28 : decode c_M_common 28 = .ok (.lload 6, 2) := by decide +kernel
theorem d_M_common_30 : decode c_M_common 30 = .ok (.lconst 0, 1) := by decide +kernel
theorem d_M_common_31 : decode c_M_common 31 = .ok (.lcmp, 1) := by decide +kernel
theorem d_M_common_32 : decode c_M_common 32 = .ok (.ifCond .eq 21, 3) := by decide +kernel
theorem d_M_common_35 : decode c_M_common 35 = .ok (.lload 4, 2) := by decide +kernel
theorem d_M_common_37 : decode c_M_common 37 = .ok (.lload 6, 2) := by decide +kernel
theorem d_M_common_39 : decode c_M_common 39 = .ok (.lrem, 1) := by decide +kernel
theorem d_M_common_40 : decode c_M_common 40 = .ok (.lstore 8, 2) := by decide +kernel
theorem d_M_common_42 : decode c_M_common 42 = .ok (.lload 6, 2) := by decide +kernel
theorem d_M_common_44 : decode c_M_common 44 = .ok (.lstore 4, 2) := by decide +kernel
theorem d_M_common_46 : decode c_M_common 46 = .ok (.lload 8, 2) := by decide +kernel
theorem d_M_common_48 : decode c_M_common 48 = .ok (.lstore 6, 2) := by decide +kernel
theorem d_M_common_50 : decode c_M_common 50 = .ok (.goto (-22), 3) := by decide +kernel
theorem d_M_common_53 : decode c_M_common 53 = .ok (.lload 4, 2) := by decide +kernel
theorem d_M_common_55 : decode c_M_common 55 = .ok (.lreturn, 1) := by decide +kernel
theorem d_M_make_0 : decode c_M_make 0 = .ok (.lload_n 1, 1) := by decide +kernel
theorem d_M_make_1 : decode c_M_make 1 = .ok (.lload_n 3, 1) := by decide +kernel
theorem d_M_make_2 : decode c_M_make 2 = .ok (.invokestatic 42, 3) := by decide +kernel
theorem d_M_make_5 : decode c_M_make 5 = .ok (.lstore 6, 2) := by decide +kernel
theorem d_M_make_7 : decode c_M_make 7 = .ok (.lload_n 3, 1) := by decide +kernel
theorem d_M_make_8 : decode c_M_make 8 = .ok (.lconst 0, 1) := by decide +kernel
theorem d_M_make_9 : decode c_M_make 9 = .ok (.lcmp, 1) := by decide +kernel
theorem d_M_make_10 : decode c_M_make 10 = .ok (.ifCond .ge 8, 3) := by decide +kernel
theorem d_M_make_13 : decode c_M_make 13 = .ok (.lload_n 1, 1) := by decide +kernel
theorem d_M_make_14 : decode c_M_make 14 = .ok (.lneg, 1) := by decide +kernel
theorem d_M_make_15 : decode c_M_make 15 = .ok (.goto 4, 3) := by decide +kernel
theorem d_M_make_18 : decode c_M_make 18 = .ok (.lload_n 1, 1) := by decide +kernel
theorem d_M_make_19 : decode c_M_make 19 = .ok (.lload 6, 2) := by decide +kernel
theorem d_M_make_21 : decode c_M_make 21 = .ok (.ldiv, 1) := by decide +kernel
theorem d_M_make_22 : decode c_M_make 22 = .ok (.lstore 8, 2) := by decide +kernel
theorem d_M_make_24 : decode c_M_make 24 = .ok (.lload_n 3, 1) := by decide +kernel
theorem d_M_make_25 : decode c_M_make 25 = .ok (.lconst 0, 1) := by decide +kernel
theorem d_M_make_26 : decode c_M_make 26 = .ok (.lcmp, 1) := by decide +kernel
theorem d_M_make_27 : decode c_M_make 27 = .ok (.ifCond .ge 8, 3) := by decide +kernel
theorem d_M_make_30 : decode c_M_make 30 = .ok (.lload_n 3, 1) := by decide +kernel
theorem d_M_make_31 : decode c_M_make 31 = .ok (.lneg, 1) := by decide +kernel
theorem d_M_make_32 : decode c_M_make 32 = .ok (.goto 4, 3) := by decide +kernel
theorem d_M_make_35 : decode c_M_make 35 = .ok (.lload_n 3, 1) := by decide +kernel
theorem d_M_make_36 : decode c_M_make 36 = .ok (.lload 6, 2) := by decide +kernel
theorem d_M_make_38 : decode c_M_make 38 = .ok (.ldiv, 1) := by decide +kernel
theorem d_M_make_39 : decode c_M_make 39 = .ok (.lstore 10, 2) := by decide +kernel
theorem d_M_make_41 : decode c_M_make 41 = .ok (.lload 8, 2) := by decide +kernel
theorem d_M_make_43 : decode c_M_make 43 = .ok (.ldc2_w 46, 3) := by decide +kernel
theorem d_M_make_46 : decode c_M_make 46 = .ok (.lcmp, 1) := by decide +kernel
theorem d_M_make_47 : decode c_M_make 47 = .ok (.ifCond .gt 31, 3) := by decide +kernel
theorem d_M_make_50 : decode c_M_make 50 = .ok (.lload 8, 2) := by decide +kernel
theorem d_M_make_52 : decode c_M_make 52 = .ok (.ldc2_w 48, 3) := by decide +kernel
theorem d_M_make_55 : decode c_M_make 55 = .ok (.lcmp, 1) := by decide +kernel
theorem d_M_make_56 : decode c_M_make 56 = .ok (.ifCond .lt 22, 3) := by decide +kernel
theorem d_M_make_59 : decode c_M_make 59 = .ok (.lload 10, 2) := by decide +kernel
theorem d_M_make_61 : decode c_M_make 61 = .ok (.ldc2_w 46, 3) := by decide +kernel
theorem d_M_make_64 : decode c_M_make 64 = .ok (.lcmp, 1) := by decide +kernel
theorem d_M_make_65 : decode c_M_make 65 = .ok (.ifCond .gt 13, 3) := by decide +kernel
theorem d_M_make_68 : decode c_M_make 68 = .ok (.aload_n 0, 1) := by decide +kernel
theorem d_M_make_69 : decode c_M_make 69 = .ok (.getfield 39, 3) := by decide +kernel
theorem d_M_make_72 : decode c_M_make 72 = .ok (.sipush 500, 3) := by decide +kernel
theorem d_M_make_75 : decode c_M_make 75 = .ok (.if_icmp .ne 6, 3) := by decide +kernel
theorem d_M_make_78 : decode c_M_make 78 = .ok (.bipush (-2), 2) := by decide +kernel
theorem d_M_make_80 : decode c_M_make 80 = .ok (.ireturn, 1) := by decide +kernel
theorem d_M_make_81 : decode c_M_make 81 = .ok (.aload_n 0, 1) := by decide +kernel
theorem d_M_make_82 : decode c_M_make 82 = .ok (.getfield 7, 3) := by decide +kernel
theorem d_M_make_85 : decode c_M_make 85 = .ok (.aload_n 0, 1) := by decide +kernel
theorem d_M_make_86 : decode c_M_make 86 = .ok (.getfield 39, 3) := by decide +kernel
theorem d_M_make_89 : decode c_M_make 89 = .ok (.lload 8, 2) := by decide +kernel
theorem d_M_make_91 : decode c_M_make 91 = .ok (.lastore, 1) := by decide +kernel
theorem d_M_make_92 : decode c_M_make 92 = .ok (.aload_n 0, 1) := by decide +kernel
theorem d_M_make_93 : decode c_M_make 93 = .ok (.getfield 13, 3) := by decide +kernel
theorem d_M_make_96 : decode c_M_make 96 = .ok (.aload_n 0, 1) := by decide +kernel
theorem d_M_make_97 : decode c_M_make 97 = .ok (.getfield 39, 3) := by decide +kernel
theorem d_M_make_100 : decode c_M_make 100 = .ok (.lload 10, 2) := by decide +kernel
theorem d_M_make_102 : decode c_M_make 102 = .ok (.lastore, 1) := by decide +kernel
theorem d_M_make_103 : decode c_M_make 103 = .ok (.aload_n 0, 1) := by decide +kernel
theorem d_M_make_104 : decode c_M_make 104 = .ok (.getfield 16, 3) := by decide +kernel
theorem d_M_make_107 : decode c_M_make 107 = .ok (.aload_n 0, 1) := by decide +kernel
theorem d_M_make_108 : decode c_M_make 108 = .ok (.getfield 39, 3) := by decide +kernel
theorem d_M_make_111 : decode c_M_make 111 = .ok (.iload 5, 2) := by decide +kernel
theorem d_M_make_113 : decode c_M_make 113 = .ok (.iastore, 1) := by decide +kernel
theorem d_M_make_114 : decode c_M_make 114 = .ok (.aload_n 0, 1) := by decide +kernel
theorem d_M_make_115 : decode c_M_make 115 = .ok (.dup, 1) := by decide +kernel
theorem d_M_make_116 : decode c_M_make 116 = .ok (.getfield 39, 3) := by decide +kernel
theorem d_M_make_119 : decode c_M_make 119 = .ok (.iconst 1, 1) := by decide +kernel
theorem d_M_make_120 : decode c_M_make 120 = .ok (.iadd, 1) := by decide +kernel
theorem d_M_make_121 : decode c_M_make 121 = .ok (.putfield 39, 3) := by decide +kernel
theorem d_M_make_124 : decode c_M_make 124 = .ok (.aload_n 0, 1) := by decide +kernel
theorem d_M_make_125 : decode c_M_make 125 = .ok (.getfield 39, 3) := by decide +kernel
theorem d_M_make_128 : decode c_M_make 128 = .ok (.iconst 1, 1) := by decide +kernel
theorem d_M_make_129 : decode c_M_make 129 = .ok (.isub, 1) := by decide +kernel
theorem d_M_make_130 : decode c_M_make 130 = .ok (.ireturn, 1) := by decide +kernel
theorem d_M_value_0 : decode c_M_value 0 = .ok (.aload_n 0, 1) := by decide +kernel
theorem d_M_value_1 : decode c_M_value 1 = .ok (.lload_n 3, 1) := by decide +kernel
theorem d_M_value_2 : decode c_M_value 2 = .ok (.lconst 0, 1) := by decide +kernel
theorem d_M_value_3 : decode c_M_value 3 = .ok (.lcmp, 1) := by decide +kernel
theorem d_M_value_4 : decode c_M_value 4 = .ok (.ifCond .ne 7, 3) := by decide +kernel
theorem d_M_value_7 : decode c_M_value 7 = .ok (.iconst 1, 1) := by decide +kernel
theorem d_M_value_8 : decode c_M_value 8 = .ok (.goto 4, 3) := by decide +kernel
theorem d_M_value_11 : decode c_M_value 11 = .ok (.iconst 0, 1) := by decide +kernel
theorem d_M_value_12 : decode c_M_value 12 = .ok (.putfield 35, 3) := by decide +kernel
theorem d_M_value_15 : decode c_M_value 15 = .ok (.aload_n 0, 1) := by decide +kernel
theorem d_M_value_16 : decode c_M_value 16 = .ok (.getfield 35, 3) := by decide +kernel
theorem d_M_value_19 : decode c_M_value 19 = .ok (.ifCond .le 5, 3) := by decide +kernel
theorem d_M_value_22 : decode c_M_value 22 = .ok (.iconst 0, 1) := by decide +kernel
theorem d_M_value_23 : decode c_M_value 23 = .ok (.ireturn, 1) := by decide +kernel
theorem d_M_value_24 : decode c_M_value 24 = .ok (.iload 5, 2) := by decide +kernel
theorem d_M_value_26 : decode c_M_value 26 = .ok (.ifCond .lt 41, 3) := by decide +kernel
theorem d_M_value_29 : decode c_M_value 29 = .ok (.iload 5, 2) := by decide +kernel
theorem d_M_value_31 : decode c_M_value 31 = .ok (.iconst 4, 1) := by decide +kernel
theorem d_M_value_32 : decode c_M_value 32 = .ok (.if_icmp .gt 35, 3) := by decide +kernel
theorem d_M_value_35 : decode c_M_value 35 = .ok (.lload_n 1, 1) := by decide +kernel
theorem d_M_value_36 : decode c_M_value 36 = .ok (.ldc2_w 50, 3) := by decide +kernel
theorem d_M_value_39 : decode c_M_value 39 = .ok (.lcmp, 1) := by decide +kernel
theorem d_M_value_40 : decode c_M_value 40 = .ok (.ifCond .le 27, 3) := by decide +kernel
theorem d_M_value_43 : decode c_M_value 43 = .ok (.lload_n 1, 1) := by decide +kernel
theorem d_M_value_44 : decode c_M_value 44 = .ok (.ldc2_w 52, 3) := by decide +kernel
theorem d_M_value_47 : decode c_M_value 47 = .ok (.lcmp, 1) := by decide +kernel
theorem d_M_value_48 : decode c_M_value 48 = .ok (.ifCond .ge 19, 3) := by decide +kernel
theorem d_M_value_51 : decode c_M_value 51 = .ok (.lload_n 3, 1) := by decide +kernel
theorem d_M_value_52 : decode c_M_value 52 = .ok (.ldc2_w 50, 3) := by decide +kernel
theorem d_M_value_55 : decode c_M_value 55 = .ok (.lcmp, 1) := by decide +kernel
theorem d_M_value_56 : decode c_M_value 56 = .ok (.ifCond .le 11, 3) := by decide +kernel
theorem d_M_value_59 : decode c_M_value 59 = .ok (.lload_n 3, 1) := by decide +kernel
theorem d_M_value_60 : decode c_M_value 60 = .ok (.ldc2_w 52, 3) := by decide +kernel
theorem d_M_value_63 : decode c_M_value 63 = .ok (.lcmp, 1) := by decide +kernel
theorem d_M_value_64 : decode c_M_value 64 = .ok (.ifCond .lt 6, 3) := by decide +kernel
theorem d_M_value_67 : decode c_M_value 67 = .ok (.bipush (-3), 2) := by decide +kernel
theorem d_M_value_69 : decode c_M_value 69 = .ok (.ireturn, 1) := by decide +kernel
theorem d_M_value_70 : decode c_M_value 70 = .ok (.aload_n 0, 1) := by decide +kernel
theorem d_M_value_71 : decode c_M_value 71 = .ok (.lload_n 1, 1) := by decide +kernel
theorem d_M_value_72 : decode c_M_value 72 = .ok (.lload_n 3, 1) := by decide +kernel
theorem d_M_value_73 : decode c_M_value 73 = .ok (.iload 5, 2) := by decide +kernel
theorem d_M_value_75 : decode c_M_value 75 = .ok (.invokevirtual 54, 3) := by decide +kernel
theorem d_M_value_78 : decode c_M_value 78 = .ok (.ireturn, 1) := by decide +kernel
theorem d_M_add_0 : decode c_M_add 0 = .ok (.aload_n 0, 1) := by decide +kernel
theorem d_M_add_1 : decode c_M_add 1 = .ok (.iconst 0, 1) := by decide +kernel
theorem d_M_add_2 : decode c_M_add 2 = .ok (.putfield 35, 3) := by decide +kernel
theorem d_M_add_5 : decode c_M_add 5 = .ok (.aload_n 0, 1) := by decide +kernel
theorem d_M_add_6 : decode c_M_add 6 = .ok (.iload_n 1, 1) := by decide +kernel
theorem d_M_add_7 : decode c_M_add 7 = .ok (.invokevirtual 58, 3) := by decide +kernel
theorem d_M_add_10 : decode c_M_add 10 = .ok (.ifCond .eq 11, 3) := by decide +kernel
theorem d_M_add_13 : decode c_M_add 13 = .ok (.aload_n 0, 1) := by decide +kernel
theorem d_M_add_14 : decode c_M_add 14 = .ok (.iload_n 2, 1) := by decide +kernel
theorem d_M_add_15 : decode c_M_add 15 = .ok (.invokevirtual 58, 3) := by decide +kernel
theorem d_M_add_18 : decode c_M_add 18 = .ok (.ifCond .ne 6, 3) := by decide +kernel
theorem d_M_add_21 : decode c_M_add 21 = .ok (.bipush (-3), 2) := by decide +kernel
theorem d_M_add_23 : decode c_M_add 23 = .ok (.ireturn, 1) := by decide +kernel
theorem d_M_add_24 : decode c_M_add 24 = .ok (.aload_n 0, 1) := by decide +kernel
theorem d_M_add_25 : decode c_M_add 25 = .ok (.getfield 16, 3) := by decide +kernel
theorem d_M_add_28 : decode c_M_add 28 = .ok (.iload_n 1, 1) := by decide +kernel
theorem d_M_add_29 : decode c_M_add 29 = .ok (.iaload, 1) := by decide +kernel
theorem d_M_add_30 : decode c_M_add 30 = .ok (.aload_n 0, 1) := by decide +kernel
theorem d_M_add_31 : decode c_M_add 31 = .ok (.getfield 16, 3) := by decide +kernel
theorem d_M_add_34 : decode c_M_add 34 = .ok (.iload_n 2, 1) := by decide +kernel
theorem d_M_add_35 : decode c_M_add 35 = .ok (.iaload, 1) := by decide +kernel
theorem d_M_add_36 : decode c_M_add 36 = .ok (.if_icmp .eq 5, 3) := by decide +kernel
theorem d_M_add_39 : decode c_M_add 39 = .ok (.iconst (-1), 1) := by decide +kernel
theorem d_M_add_40 : decode c_M_add 40 = .ok (.ireturn, 1) := by decide +kernel
theorem d_M_add_41 : decode c_M_add 41 = .ok (.aload_n 0, 1) := by decide +kernel
theorem d_M_add_42 : decode c_M_add 42 = .ok (.aload_n 0, 1) := by decide +kernel
theorem d_M_add_43 : decode c_M_add 43 = .ok (.getfield 7, 3) := by decide +kernel
theorem d_M_add_46 : decode c_M_add 46 = .ok (.iload_n 1, 1) := by decide +kernel
theorem d_M_add_47 : decode c_M_add 47 = .ok (.laload, 1) := by decide +kernel
theorem d_M_add_48 : decode c_M_add 48 = .ok (.aload_n 0, 1) := by decide +kernel
theorem d_M_add_49 : decode c_M_add 49 = .ok (.getfield 13, 3) := by decide +kernel
theorem d_M_add_52 : decode c_M_add 52 = .ok (.iload_n 2, 1) := by decide +kernel
theorem d_M_add_53 : decode c_M_add 53 = .ok (.laload, 1) := by decide +kernel
theorem d_M_add_54 : decode c_M_add 54 = .ok (.lmul, 1) := by decide +kernel
theorem d_M_add_55 : decode c_M_add 55 = .ok (.aload_n 0, 1) := by decide +kernel
theorem d_M_add_56 : decode c_M_add 56 = .ok (.getfield 7, 3) := by decide +kernel
theorem d_M_add_59 : decode c_M_add 59 = .ok (.iload_n 2, 1) := by decide +kernel
theorem d_M_add_60 : decode c_M_add 60 = .ok (.laload, 1) := by decide +kernel
theorem d_M_add_61 : decode c_M_add 61 = .ok (.aload_n 0, 1) := by decide +kernel
theorem d_M_add_62 : decode c_M_add 62 = .ok (.getfield 13, 3) := by decide +kernel
theorem d_M_add_65 : decode c_M_add 65 = .ok (.iload_n 1, 1) := by decide +kernel
theorem d_M_add_66 : decode c_M_add 66 = .ok (.laload, 1) := by decide +kernel
theorem d_M_add_67 : decode c_M_add 67 = .ok (.lmul, 1) := by decide +kernel
theorem d_M_add_68 : decode c_M_add 68 = .ok (.ladd, 1) := by decide +kernel
theorem d_M_add_69 : decode c_M_add 69 = .ok (.aload_n 0, 1) := by decide +kernel
theorem d_M_add_70 : decode c_M_add 70 = .ok (.getfield 13, 3) := by decide +kernel
theorem d_M_add_73 : decode c_M_add 73 = .ok (.iload_n 1, 1) := by decide +kernel
theorem d_M_add_74 : decode c_M_add 74 = .ok (.laload, 1) := by decide +kernel
theorem d_M_add_75 : decode c_M_add 75 = .ok (.aload_n 0, 1) := by decide +kernel
theorem d_M_add_76 : decode c_M_add 76 = .ok (.getfield 13, 3) := by decide +kernel
theorem d_M_add_79 : decode c_M_add 79 = .ok (.iload_n 2, 1) := by decide +kernel
theorem d_M_add_80 : decode c_M_add 80 = .ok (.laload, 1) := by decide +kernel
theorem d_M_add_81 : decode c_M_add 81 = .ok (.lmul, 1) := by decide +kernel
theorem d_M_add_82 : decode c_M_add 82 = .ok (.aload_n 0, 1) := by decide +kernel
theorem d_M_add_83 : decode c_M_add 83 = .ok (.getfield 16, 3) := by decide +kernel
theorem d_M_add_86 : decode c_M_add 86 = .ok (.iload_n 1, 1) := by decide +kernel
theorem d_M_add_87 : decode c_M_add 87 = .ok (.iaload, 1) := by decide +kernel
theorem d_M_add_88 : decode c_M_add 88 = .ok (.invokevirtual 54, 3) := by decide +kernel
theorem d_M_add_91 : decode c_M_add 91 = .ok (.ireturn, 1) := by decide +kernel
theorem d_M_areTwo_0 : decode c_M_areTwo 0 = .ok (.iload_n 0, 1) := by decide +kernel
theorem d_M_areTwo_1 : decode c_M_areTwo 1 = .ok (.iload_n 2, 1) := by decide +kernel
theorem d_M_areTwo_2 : decode c_M_areTwo 2 = .ok (.if_icmp .ne 8, 3) := by decide +kernel
theorem d_M_areTwo_5 : decode c_M_areTwo 5 = .ok (.iload_n 1, 1) := by decide +kernel
theorem d_M_areTwo_6 : decode c_M_areTwo 6 = .ok (.iload_n 3, 1) := by decide +kernel
theorem d_M_areTwo_7 : decode c_M_areTwo 7 = .ok (.if_icmp .eq 13, 3) := by decide +kernel
theorem d_M_areTwo_10 : decode c_M_areTwo 10 = .ok (.iload_n 0, 1) := by decide +kernel
theorem d_M_areTwo_11 : decode c_M_areTwo 11 = .ok (.iload_n 3, 1) := by decide +kernel
theorem d_M_areTwo_12 : decode c_M_areTwo 12 = .ok (.if_icmp .ne 12, 3) := by decide +kernel
theorem d_M_areTwo_15 : decode c_M_areTwo 15 = .ok (.iload_n 1, 1) := by decide +kernel
theorem d_M_areTwo_16 : decode c_M_areTwo 16 = .ok (.iload_n 2, 1) := by decide +kernel
theorem d_M_areTwo_17 : decode c_M_areTwo 17 = .ok (.if_icmp .ne 7, 3) := by decide +kernel
theorem d_M_areTwo_20 : decode c_M_areTwo 20 = .ok (.iconst 1, 1) := by decide +kernel
theorem d_M_areTwo_21 : decode c_M_areTwo 21 = .ok (.goto 4, 3) := by decide +kernel
theorem d_M_areTwo_24 : decode c_M_areTwo 24 = .ok (.iconst 0, 1) := by decide +kernel
theorem d_M_areTwo_25 : decode c_M_areTwo 25 = .ok (.ireturn, 1) := by decide +kernel
theorem d_M_times_0 : decode c_M_times 0 = .ok (.aload_n 0, 1) := by decide +kernel
theorem d_M_times_1 : decode c_M_times 1 = .ok (.iconst 0, 1) := by decide +kernel
theorem d_M_times_2 : decode c_M_times 2 = .ok (.putfield 35, 3) := by decide +kernel
theorem d_M_times_5 : decode c_M_times 5 = .ok (.aload_n 0, 1) := by decide +kernel
theorem d_M_times_6 : decode c_M_times 6 = .ok (.iload_n 1, 1) := by decide +kernel
theorem d_M_times_7 : decode c_M_times 7 = .ok (.invokevirtual 58, 3) := by decide +kernel
theorem d_M_times_10 : decode c_M_times 10 = .ok (.ifCond .eq 11, 3) := by decide +kernel
theorem d_M_times_13 : decode c_M_times 13 = .ok (.aload_n 0, 1) := by decide +kernel
theorem d_M_times_14 : decode c_M_times 14 = .ok (.iload_n 2, 1) := by decide +kernel
theorem d_M_times_15 : decode c_M_times 15 = .ok (.invokevirtual 58, 3) := by decide +kernel
theorem d_M_times_18 : decode c_M_times 18 = .ok (.ifCond .ne 6, 3) := by decide +kernel
theorem d_M_times_21 : decode c_M_times 21 = .ok (.bipush (-3), 2) := by decide +kernel
theorem d_M_times_23 : decode c_M_times 23 = .ok (.ireturn, 1) := by decide +kernel
theorem d_M_times_24 : decode c_M_times 24 = .ok (.aload_n 0, 1) := by decide +kernel
theorem d_M_times_25 : decode c_M_times 25 = .ok (.getfield 16, 3) := by decide +kernel
theorem d_M_times_28 : decode c_M_times 28 = .ok (.iload_n 1, 1) := by decide +kernel
theorem d_M_times_29 : decode c_M_times 29 = .ok (.iaload, 1) := by decide +kernel
theorem d_M_times_30 : decode c_M_times 30 = .ok (.istore_n 3, 1) := by decide +kernel
theorem d_M_times_31 : decode c_M_times 31 = .ok (.aload_n 0, 1) := by decide +kernel
theorem d_M_times_32 : decode c_M_times 32 = .ok (.getfield 16, 3) := by decide +kernel
theorem d_M_times_35 : decode c_M_times 35 = .ok (.iload_n 2, 1) := by decide +kernel
theorem d_M_times_36 : decode c_M_times 36 = .ok (.iaload, 1) := by decide +kernel
theorem d_M_times_37 : decode c_M_times 37 = .ok (.istore 4, 2) := by decide +kernel
theorem d_M_times_39 : decode c_M_times 39 = .ok (.iload_n 3, 1) := by decide +kernel
theorem d_M_times_40 : decode c_M_times 40 = .ok (.ifCond .ne 8, 3) := by decide +kernel
theorem d_M_times_43 : decode c_M_times 43 = .ok (.iload 4, 2) := by decide +kernel
theorem d_M_times_45 : decode c_M_times 45 = .ok (.goto 43, 3) := by decide +kernel
theorem d_M_times_48 : decode c_M_times 48 = .ok (.iload 4, 2) := by decide +kernel
theorem d_M_times_50 : decode c_M_times 50 = .ok (.ifCond .ne 7, 3) := by decide +kernel
theorem d_M_times_53 : decode c_M_times 53 = .ok (.iload_n 3, 1) := by decide +kernel
theorem d_M_times_54 : decode c_M_times 54 = .ok (.goto 34, 3) := by decide +kernel
theorem d_M_times_57 : decode c_M_times 57 = .ok (.iload_n 3, 1) := by decide +kernel
theorem d_M_times_58 : decode c_M_times 58 = .ok (.iload 4, 2) := by decide +kernel
theorem d_M_times_60 : decode c_M_times 60 = .ok (.iconst 2, 1) := by decide +kernel
theorem d_M_times_61 : decode c_M_times 61 = .ok (.iconst 3, 1) := by decide +kernel
theorem d_M_times_62 : decode c_M_times 62 = .ok (.invokestatic 62, 3) := by decide +kernel
theorem d_M_times_65 : decode c_M_times 65 = .ok (.ifCond .eq 7, 3) := by decide +kernel
theorem d_M_times_68 : decode c_M_times 68 = .ok (.iconst 2, 1) := by decide +kernel
theorem d_M_times_69 : decode c_M_times 69 = .ok (.goto 19, 3) := by decide +kernel
theorem d_M_times_72 : decode c_M_times 72 = .ok (.iload_n 3, 1) := by decide +kernel
theorem d_M_times_73 : decode c_M_times 73 = .ok (.iload 4, 2) := by decide +kernel
theorem d_M_times_75 : decode c_M_times 75 = .ok (.iconst 1, 1) := by decide +kernel
theorem d_M_times_76 : decode c_M_times 76 = .ok (.iconst 4, 1) := by decide +kernel
theorem d_M_times_77 : decode c_M_times 77 = .ok (.invokestatic 62, 3) := by decide +kernel
theorem d_M_times_80 : decode c_M_times 80 = .ok (.ifCond .eq 7, 3) := by decide +kernel
theorem d_M_times_83 : decode c_M_times 83 = .ok (.iconst 1, 1) := by decide +kernel
theorem d_M_times_84 : decode c_M_times 84 = .ok (.goto 4, 3) := by decide +kernel
theorem d_M_times_87 : decode c_M_times 87 = .ok (.iconst (-1), 1) := by decide +kernel
theorem d_M_times_88 : decode c_M_times 88 = .ok (.istore 5, 2) := by decide +kernel
theorem d_M_times_90 : decode c_M_times 90 = .ok (.iload 5, 2) := by decide +kernel
theorem d_M_times_92 : decode c_M_times 92 = .ok (.iconst (-1), 1) := by decide +kernel
theorem d_M_times_93 : decode c_M_times 93 = .ok (.if_icmp .ne 7, 3) := by decide +kernel
theorem d_M_times_96 : decode c_M_times 96 = .ok (.iconst (-1), 1) := by decide +kernel
theorem d_M_times_97 : decode c_M_times 97 = .ok (.goto 35, 3) := by decide +kernel
theorem d_M_times_100 : decode c_M_times 100 = .ok (.aload_n 0, 1) := by decide +kernel
theorem d_M_times_101 : decode c_M_times 101 = .ok (.aload_n 0, 1) := by decide +kernel
theorem d_M_times_102 : decode c_M_times 102 = .ok (.getfield 7, 3) := by decide +kernel
theorem d_M_times_105 : decode c_M_times 105 = .ok (.iload_n 1, 1) := by decide +kernel
theorem d_M_times_106 : decode c_M_times 106 = .ok (.laload, 1) := by decide +kernel
theorem d_M_times_107 : decode c_M_times 107 = .ok (.aload_n 0, 1) := by decide +kernel
theorem d_M_times_108 : decode c_M_times 108 = .ok (.getfield 7, 3) := by decide +kernel
theorem d_M_times_111 : decode c_M_times 111 = .ok (.iload_n 2, 1) := by decide +kernel
theorem d_M_times_112 : decode c_M_times 112 = .ok (.laload, 1) := by decide +kernel
theorem d_M_times_113 : decode c_M_times 113 = .ok (.lmul, 1) := by decide +kernel
theorem d_M_times_114 : decode c_M_times 114 = .ok (.aload_n 0, 1) := by decide +kernel
theorem d_M_times_115 : decode c_M_times 115 = .ok (.getfield 13, 3) := by decide +kernel
theorem d_M_times_118 : decode c_M_times 118 = .ok (.iload_n 1, 1) := by decide +kernel
theorem d_M_times_119 : decode c_M_times 119 = .ok (.laload, 1) := by decide +kernel
theorem d_M_times_120 : decode c_M_times 120 = .ok (.aload_n 0, 1) := by decide +kernel
theorem d_M_times_121 : decode c_M_times 121 = .ok (.getfield 13, 3) := by decide +kernel
theorem d_M_times_124 : decode c_M_times 124 = .ok (.iload_n 2, 1) := by decide +kernel
theorem d_M_times_125 : decode c_M_times 125 = .ok (.laload, 1) := by decide +kernel
theorem d_M_times_126 : decode c_M_times 126 = .ok (.lmul, 1) := by decide +kernel
theorem d_M_times_127 : decode c_M_times 127 = .ok (.iload 5, 2) := by decide +kernel
theorem d_M_times_129 : decode c_M_times 129 = .ok (.invokevirtual 54, 3) := by decide +kernel
theorem d_M_times_132 : decode c_M_times 132 = .ok (.ireturn, 1) := by decide +kernel
theorem d_M_over_0 : decode c_M_over 0 = .ok (.aload_n 0, 1) := by decide +kernel
theorem d_M_over_1 : decode c_M_over 1 = .ok (.iconst 0, 1) := by decide +kernel
theorem d_M_over_2 : decode c_M_over 2 = .ok (.putfield 35, 3) := by decide +kernel
theorem d_M_over_5 : decode c_M_over 5 = .ok (.aload_n 0, 1) := by decide +kernel
theorem d_M_over_6 : decode c_M_over 6 = .ok (.iload_n 1, 1) := by decide +kernel
theorem d_M_over_7 : decode c_M_over 7 = .ok (.invokevirtual 58, 3) := by decide +kernel
theorem d_M_over_10 : decode c_M_over 10 = .ok (.ifCond .eq 11, 3) := by decide +kernel
theorem d_M_over_13 : decode c_M_over 13 = .ok (.aload_n 0, 1) := by decide +kernel
theorem d_M_over_14 : decode c_M_over 14 = .ok (.iload_n 2, 1) := by decide +kernel
theorem d_M_over_15 : decode c_M_over 15 = .ok (.invokevirtual 58, 3) := by decide +kernel
theorem d_M_over_18 : decode c_M_over 18 = .ok (.ifCond .ne 6, 3) := by decide +kernel
theorem d_M_over_21 : decode c_M_over 21 = .ok (.bipush (-3), 2) := by decide +kernel
theorem d_M_over_23 : decode c_M_over 23 = .ok (.ireturn, 1) := by decide +kernel
theorem d_M_over_24 : decode c_M_over 24 = .ok (.aload_n 0, 1) := by decide +kernel
theorem d_M_over_25 : decode c_M_over 25 = .ok (.getfield 16, 3) := by decide +kernel
theorem d_M_over_28 : decode c_M_over 28 = .ok (.iload_n 1, 1) := by decide +kernel
theorem d_M_over_29 : decode c_M_over 29 = .ok (.iaload, 1) := by decide +kernel
theorem d_M_over_30 : decode c_M_over 30 = .ok (.istore_n 3, 1) := by decide +kernel
theorem d_M_over_31 : decode c_M_over 31 = .ok (.aload_n 0, 1) := by decide +kernel
theorem d_M_over_32 : decode c_M_over 32 = .ok (.getfield 16, 3) := by decide +kernel
theorem d_M_over_35 : decode c_M_over 35 = .ok (.iload_n 2, 1) := by decide +kernel
theorem d_M_over_36 : decode c_M_over 36 = .ok (.iaload, 1) := by decide +kernel
theorem d_M_over_37 : decode c_M_over 37 = .ok (.istore 4, 2) := by decide +kernel
theorem d_M_over_39 : decode c_M_over 39 = .ok (.iload_n 3, 1) := by decide +kernel
theorem d_M_over_40 : decode c_M_over 40 = .ok (.iload 4, 2) := by decide +kernel
theorem d_M_over_42 : decode c_M_over 42 = .ok (.if_icmp .ne 7, 3) := by decide +kernel
theorem d_M_over_45 : decode c_M_over 45 = .ok (.iconst 0, 1) := by decide +kernel
theorem d_M_over_46 : decode c_M_over 46 = .ok (.goto 43, 3) := by decide +kernel
theorem d_M_over_49 : decode c_M_over 49 = .ok (.iload 4, 2) := by decide +kernel
theorem d_M_over_51 : decode c_M_over 51 = .ok (.ifCond .ne 7, 3) := by decide +kernel
theorem d_M_over_54 : decode c_M_over 54 = .ok (.iload_n 3, 1) := by decide +kernel
theorem d_M_over_55 : decode c_M_over 55 = .ok (.goto 34, 3) := by decide +kernel
theorem d_M_over_58 : decode c_M_over 58 = .ok (.iload_n 3, 1) := by decide +kernel
theorem d_M_over_59 : decode c_M_over 59 = .ok (.iconst 2, 1) := by decide +kernel
theorem d_M_over_60 : decode c_M_over 60 = .ok (.if_icmp .ne 13, 3) := by decide +kernel
theorem d_M_over_63 : decode c_M_over 63 = .ok (.iload 4, 2) := by decide +kernel
theorem d_M_over_65 : decode c_M_over 65 = .ok (.iconst 3, 1) := by decide +kernel
theorem d_M_over_66 : decode c_M_over 66 = .ok (.if_icmp .ne 7, 3) := by decide +kernel
theorem d_M_over_69 : decode c_M_over 69 = .ok (.iconst 2, 1) := by decide +kernel
theorem d_M_over_70 : decode c_M_over 70 = .ok (.goto 19, 3) := by decide +kernel
theorem d_M_over_73 : decode c_M_over 73 = .ok (.iload_n 3, 1) := by decide +kernel
theorem d_M_over_74 : decode c_M_over 74 = .ok (.iconst 1, 1) := by decide +kernel
theorem d_M_over_75 : decode c_M_over 75 = .ok (.if_icmp .ne 13, 3) := by decide +kernel
theorem d_M_over_78 : decode c_M_over 78 = .ok (.iload 4, 2) := by decide +kernel
theorem d_M_over_80 : decode c_M_over 80 = .ok (.iconst 4, 1) := by decide +kernel
theorem d_M_over_81 : decode c_M_over 81 = .ok (.if_icmp .ne 7, 3) := by decide +kernel
theorem d_M_over_84 : decode c_M_over 84 = .ok (.iconst 1, 1) := by decide +kernel
theorem d_M_over_85 : decode c_M_over 85 = .ok (.goto 4, 3) := by decide +kernel
theorem d_M_over_88 : decode c_M_over 88 = .ok (.iconst (-1), 1) := by decide +kernel
theorem d_M_over_89 : decode c_M_over 89 = .ok (.istore 5, 2) := by decide +kernel
theorem d_M_over_91 : decode c_M_over 91 = .ok (.iload 5, 2) := by decide +kernel
theorem d_M_over_93 : decode c_M_over 93 = .ok (.iconst (-1), 1) := by decide +kernel
theorem d_M_over_94 : decode c_M_over 94 = .ok (.if_icmp .ne 5, 3) := by decide +kernel
theorem d_M_over_97 : decode c_M_over 97 = .ok (.iconst (-1), 1) := by decide +kernel
theorem d_M_over_98 : decode c_M_over 98 = .ok (.ireturn, 1) := by decide +kernel
theorem d_M_over_99 : decode c_M_over 99 = .ok (.aload_n 0, 1) := by decide +kernel
theorem d_M_over_100 : decode c_M_over 100 = .ok (.aload_n 0, 1) := by decide +kernel
theorem d_M_over_101 : decode c_M_over 101 = .ok (.getfield 7, 3) := by decide +kernel
theorem d_M_over_104 : decode c_M_over 104 = .ok (.iload_n 2, 1) := by decide +kernel
theorem d_M_over_105 : decode c_M_over 105 = .ok (.laload, 1) := by decide +kernel
theorem d_M_over_106 : decode c_M_over 106 = .ok (.lconst 0, 1) := by decide +kernel
theorem d_M_over_107 : decode c_M_over 107 = .ok (.lcmp, 1) := by decide +kernel
theorem d_M_over_108 : decode c_M_over 108 = .ok (.ifCond .ne 7, 3) := by decide +kernel
theorem d_M_over_111 : decode c_M_over 111 = .ok (.iconst 1, 1) := by decide +kernel
theorem d_M_over_112 : decode c_M_over 112 = .ok (.goto 4, 3) := by decide +kernel
theorem d_M_over_115 : decode c_M_over 115 = .ok (.iconst 0, 1) := by decide +kernel
theorem d_M_over_116 : decode c_M_over 116 = .ok (.putfield 35, 3) := by decide +kernel
theorem d_M_over_119 : decode c_M_over 119 = .ok (.aload_n 0, 1) := by decide +kernel
theorem d_M_over_120 : decode c_M_over 120 = .ok (.getfield 35, 3) := by decide +kernel
theorem d_M_over_123 : decode c_M_over 123 = .ok (.ifCond .le 7, 3) := by decide +kernel
theorem d_M_over_126 : decode c_M_over 126 = .ok (.iconst 0, 1) := by decide +kernel
theorem d_M_over_127 : decode c_M_over 127 = .ok (.goto 35, 3) := by decide +kernel
theorem d_M_over_130 : decode c_M_over 130 = .ok (.aload_n 0, 1) := by decide +kernel
theorem d_M_over_131 : decode c_M_over 131 = .ok (.aload_n 0, 1) := by decide +kernel
theorem d_M_over_132 : decode c_M_over 132 = .ok (.getfield 7, 3) := by decide +kernel
theorem d_M_over_135 : decode c_M_over 135 = .ok (.iload_n 1, 1) := by decide +kernel
theorem d_M_over_136 : decode c_M_over 136 = .ok (.laload, 1) := by decide +kernel
theorem d_M_over_137 : decode c_M_over 137 = .ok (.aload_n 0, 1) := by decide +kernel
theorem d_M_over_138 : decode c_M_over 138 = .ok (.getfield 13, 3) := by decide +kernel
theorem d_M_over_141 : decode c_M_over 141 = .ok (.iload_n 2, 1) := by decide +kernel
theorem d_M_over_142 : decode c_M_over 142 = .ok (.laload, 1) := by decide +kernel
theorem d_M_over_143 : decode c_M_over 143 = .ok (.lmul, 1) := by decide +kernel
theorem d_M_over_144 : decode c_M_over 144 = .ok (.aload_n 0, 1) := by decide +kernel
theorem d_M_over_145 : decode c_M_over 145 = .ok (.getfield 13, 3) := by decide +kernel
theorem d_M_over_148 : decode c_M_over 148 = .ok (.iload_n 1, 1) := by decide +kernel
theorem d_M_over_149 : decode c_M_over 149 = .ok (.laload, 1) := by decide +kernel
theorem d_M_over_150 : decode c_M_over 150 = .ok (.aload_n 0, 1) := by decide +kernel
theorem d_M_over_151 : decode c_M_over 151 = .ok (.getfield 7, 3) := by decide +kernel
theorem d_M_over_154 : decode c_M_over 154 = .ok (.iload_n 2, 1) := by decide +kernel
theorem d_M_over_155 : decode c_M_over 155 = .ok (.laload, 1) := by decide +kernel
theorem d_M_over_156 : decode c_M_over 156 = .ok (.lmul, 1) := by decide +kernel
theorem d_M_over_157 : decode c_M_over 157 = .ok (.iload 5, 2) := by decide +kernel
theorem d_M_over_159 : decode c_M_over 159 = .ok (.invokevirtual 54, 3) := by decide +kernel
theorem d_M_over_162 : decode c_M_over 162 = .ok (.ireturn, 1) := by decide +kernel
theorem d_M_isUpper_0 : decode c_M_isUpper 0 = .ok (.lload_n 1, 1) := by decide +kernel
theorem d_M_isUpper_1 : decode c_M_isUpper 1 = .ok (.lconst 0, 1) := by decide +kernel
theorem d_M_isUpper_2 : decode c_M_isUpper 2 = .ok (.lcmp, 1) := by decide +kernel
theorem d_M_isUpper_3 : decode c_M_isUpper 3 = .ok (.ifCond .ge 7, 3) := by decide +kernel
theorem d_M_isUpper_6 : decode c_M_isUpper 6 = .ok (.iconst 1, 1) := by decide +kernel
theorem d_M_isUpper_7 : decode c_M_isUpper 7 = .ok (.goto 4, 3) := by decide +kernel
theorem d_M_isUpper_10 : decode c_M_isUpper 10 = .ok (.iconst 0, 1) := by decide +kernel
theorem d_M_isUpper_11 : decode c_M_isUpper 11 = .ok (.istore 7, 2) := by decide +kernel
theorem d_M_isUpper_13 : decode c_M_isUpper 13 = .ok (.iload_n 0, 1) := by decide +kernel
theorem d_M_isUpper_14 : decode c_M_isUpper 14 = .ok (.tableswitch 106 0 5 #[38, 40, 42, 45, 56, 73], 38) := by decide +kernel
theorem d_M_isUpper_52 : decode c_M_isUpper 52 = .ok (.iconst 0, 1) := by decide +kernel
theorem d_M_isUpper_53 : decode c_M_isUpper 53 = .ok (.ireturn, 1) := by decide +kernel
theorem d_M_isUpper_54 : decode c_M_isUpper 54 = .ok (.iconst 1, 1) := by decide +kernel
theorem d_M_isUpper_55 : decode c_M_isUpper 55 = .ok (.ireturn, 1) := by decide +kernel
theorem d_M_isUpper_56 : decode c_M_isUpper 56 = .ok (.iload 7, 2) := by decide +kernel
theorem d_M_isUpper_58 : decode c_M_isUpper 58 = .ok (.ireturn, 1) := by decide +kernel
theorem d_M_isUpper_59 : decode c_M_isUpper 59 = .ok (.iload 7, 2) := by decide +kernel
theorem d_M_isUpper_61 : decode c_M_isUpper 61 = .ok (.ifCond .ne 7, 3) := by decide +kernel
theorem d_M_isUpper_64 : decode c_M_isUpper 64 = .ok (.iconst 1, 1) := by decide +kernel
theorem d_M_isUpper_65 : decode c_M_isUpper 65 = .ok (.goto 4, 3) := by decide +kernel
theorem d_M_isUpper_68 : decode c_M_isUpper 68 = .ok (.iconst 0, 1) := by decide +kernel
theorem d_M_isUpper_69 : decode c_M_isUpper 69 = .ok (.ireturn, 1) := by decide +kernel
theorem d_M_isUpper_70 : decode c_M_isUpper 70 = .ok (.ldc2_w 66, 3) := by decide +kernel
theorem d_M_isUpper_73 : decode c_M_isUpper 73 = .ok (.lload_n 3, 1) := by decide +kernel
theorem d_M_isUpper_74 : decode c_M_isUpper 74 = .ok (.lmul, 1) := by decide +kernel
theorem d_M_isUpper_75 : decode c_M_isUpper 75 = .ok (.lload 5, 2) := by decide +kernel
theorem d_M_isUpper_77 : decode c_M_isUpper 77 = .ok (.lcmp, 1) := by decide +kernel
theorem d_M_isUpper_78 : decode c_M_isUpper 78 = .ok (.ifCond .lt 7, 3) := by decide +kernel
theorem d_M_isUpper_81 : decode c_M_isUpper 81 = .ok (.iconst 1, 1) := by decide +kernel
theorem d_M_isUpper_82 : decode c_M_isUpper 82 = .ok (.goto 4, 3) := by decide +kernel
theorem d_M_isUpper_85 : decode c_M_isUpper 85 = .ok (.iconst 0, 1) := by decide +kernel
theorem d_M_isUpper_86 : decode c_M_isUpper 86 = .ok (.ireturn, 1) := by decide +kernel
theorem d_M_isUpper_87 : decode c_M_isUpper 87 = .ok (.ldc2_w 66, 3) := by decide +kernel
theorem d_M_isUpper_90 : decode c_M_isUpper 90 = .ok (.lload_n 3, 1) := by decide +kernel
theorem d_M_isUpper_91 : decode c_M_isUpper 91 = .ok (.lmul, 1) := by decide +kernel
theorem d_M_isUpper_92 : decode c_M_isUpper 92 = .ok (.lload 5, 2) := by decide +kernel
theorem d_M_isUpper_94 : decode c_M_isUpper 94 = .ok (.lcmp, 1) := by decide +kernel
theorem d_M_isUpper_95 : decode c_M_isUpper 95 = .ok (.ifCond .gt 19, 3) := by decide +kernel
theorem d_M_isUpper_98 : decode c_M_isUpper 98 = .ok (.ldc2_w 66, 3) := by decide +kernel
theorem d_M_isUpper_101 : decode c_M_isUpper 101 = .ok (.lload_n 3, 1) := by decide +kernel
theorem d_M_isUpper_102 : decode c_M_isUpper 102 = .ok (.lmul, 1) := by decide +kernel
theorem d_M_isUpper_103 : decode c_M_isUpper 103 = .ok (.lload 5, 2) := by decide +kernel
theorem d_M_isUpper_105 : decode c_M_isUpper 105 = .ok (.lcmp, 1) := by decide +kernel
theorem d_M_isUpper_106 : decode c_M_isUpper 106 = .ok (.ifCond .ne 12, 3) := by decide +kernel
theorem d_M_isUpper_109 : decode c_M_isUpper 109 = .ok (.iload 7, 2) := by decide +kernel
theorem d_M_isUpper_111 : decode c_M_isUpper 111 = .ok (.ifCond .ne 7, 3) := by decide +kernel
theorem d_M_isUpper_114 : decode c_M_isUpper 114 = .ok (.iconst 1, 1) := by decide +kernel
theorem d_M_isUpper_115 : decode c_M_isUpper 115 = .ok (.goto 4, 3) := by decide +kernel
theorem d_M_isUpper_118 : decode c_M_isUpper 118 = .ok (.iconst 0, 1) := by decide +kernel
theorem d_M_isUpper_119 : decode c_M_isUpper 119 = .ok (.ireturn, 1) := by decide +kernel
theorem d_M_isUpper_120 : decode c_M_isUpper 120 = .ok (.ldc2_w 66, 3) := by decide +kernel
theorem d_M_isUpper_123 : decode c_M_isUpper 123 = .ok (.lload_n 3, 1) := by decide +kernel
theorem d_M_isUpper_124 : decode c_M_isUpper 124 = .ok (.lmul, 1) := by decide +kernel
theorem d_M_isUpper_125 : decode c_M_isUpper 125 = .ok (.lload 5, 2) := by decide +kernel
theorem d_M_isUpper_127 : decode c_M_isUpper 127 = .ok (.lcmp, 1) := by decide +kernel
theorem d_M_isUpper_128 : decode c_M_isUpper 128 = .ok (.ifCond .gt 24, 3) := by decide +kernel
theorem d_M_isUpper_131 : decode c_M_isUpper 131 = .ok (.ldc2_w 66, 3) := by decide +kernel
theorem d_M_isUpper_134 : decode c_M_isUpper 134 = .ok (.lload_n 3, 1) := by decide +kernel
theorem d_M_isUpper_135 : decode c_M_isUpper 135 = .ok (.lmul, 1) := by decide +kernel
theorem d_M_isUpper_136 : decode c_M_isUpper 136 = .ok (.lload 5, 2) := by decide +kernel
theorem d_M_isUpper_138 : decode c_M_isUpper 138 = .ok (.lcmp, 1) := by decide +kernel
theorem d_M_isUpper_139 : decode c_M_isUpper 139 = .ok (.ifCond .ne 17, 3) := by decide +kernel
theorem d_M_isUpper_142 : decode c_M_isUpper 142 = .ok (.lload_n 1, 1) := by decide +kernel
theorem d_M_isUpper_143 : decode c_M_isUpper 143 = .ok (.ldc2_w 66, 3) := by decide +kernel
theorem d_M_isUpper_146 : decode c_M_isUpper 146 = .ok (.lrem, 1) := by decide +kernel
theorem d_M_isUpper_147 : decode c_M_isUpper 147 = .ok (.lconst 0, 1) := by decide +kernel
theorem d_M_isUpper_148 : decode c_M_isUpper 148 = .ok (.lcmp, 1) := by decide +kernel
theorem d_M_isUpper_149 : decode c_M_isUpper 149 = .ok (.ifCond .eq 7, 3) := by decide +kernel
theorem d_M_isUpper_152 : decode c_M_isUpper 152 = .ok (.iconst 1, 1) := by decide +kernel
theorem d_M_isUpper_153 : decode c_M_isUpper 153 = .ok (.goto 4, 3) := by decide +kernel
theorem d_M_isUpper_156 : decode c_M_isUpper 156 = .ok (.iconst 0, 1) := by decide +kernel
theorem d_M_isUpper_157 : decode c_M_isUpper 157 = .ok (.ireturn, 1) := by decide +kernel
theorem d_M_round_0 : decode c_M_round 0 = .ok (.aload_n 0, 1) := by decide +kernel
theorem d_M_round_1 : decode c_M_round 1 = .ok (.iconst 0, 1) := by decide +kernel
theorem d_M_round_2 : decode c_M_round 2 = .ok (.putfield 35, 3) := by decide +kernel
theorem d_M_round_5 : decode c_M_round 5 = .ok (.aload_n 0, 1) := by decide +kernel
theorem d_M_round_6 : decode c_M_round 6 = .ok (.iload_n 1, 1) := by decide +kernel
theorem d_M_round_7 : decode c_M_round 7 = .ok (.invokevirtual 58, 3) := by decide +kernel
theorem d_M_round_10 : decode c_M_round 10 = .ok (.ifCond .ne 6, 3) := by decide +kernel
theorem d_M_round_13 : decode c_M_round 13 = .ok (.bipush (-3), 2) := by decide +kernel
theorem d_M_round_15 : decode c_M_round 15 = .ok (.ireturn, 1) := by decide +kernel
theorem d_M_round_16 : decode c_M_round 16 = .ok (.iload_n 2, 1) := by decide +kernel
theorem d_M_round_17 : decode c_M_round 17 = .ok (.ifCond .lt 23, 3) := by decide +kernel
theorem d_M_round_20 : decode c_M_round 20 = .ok (.iload_n 2, 1) := by decide +kernel
theorem d_M_round_21 : decode c_M_round 21 = .ok (.bipush 6, 2) := by decide +kernel
theorem d_M_round_23 : decode c_M_round 23 = .ok (.if_icmp .gt 17, 3) := by decide +kernel
theorem d_M_round_26 : decode c_M_round 26 = .ok (.lload_n 3, 1) := by decide +kernel
theorem d_M_round_27 : decode c_M_round 27 = .ok (.lconst 1, 1) := by decide +kernel
theorem d_M_round_28 : decode c_M_round 28 = .ok (.lcmp, 1) := by decide +kernel
theorem d_M_round_29 : decode c_M_round 29 = .ok (.ifCond .lt 11, 3) := by decide +kernel
theorem d_M_round_32 : decode c_M_round 32 = .ok (.lload_n 3, 1) := by decide +kernel
theorem d_M_round_33 : decode c_M_round 33 = .ok (.ldc2_w 68, 3) := by decide +kernel
theorem d_M_round_36 : decode c_M_round 36 = .ok (.lcmp, 1) := by decide +kernel
theorem d_M_round_37 : decode c_M_round 37 = .ok (.ifCond .le 5, 3) := by decide +kernel
theorem d_M_round_40 : decode c_M_round 40 = .ok (.iconst (-1), 1) := by decide +kernel
theorem d_M_round_41 : decode c_M_round 41 = .ok (.ireturn, 1) := by decide +kernel
theorem d_M_round_42 : decode c_M_round 42 = .ok (.aload_n 0, 1) := by decide +kernel
theorem d_M_round_43 : decode c_M_round 43 = .ok (.getfield 7, 3) := by decide +kernel
theorem d_M_round_46 : decode c_M_round 46 = .ok (.iload_n 1, 1) := by decide +kernel
theorem d_M_round_47 : decode c_M_round 47 = .ok (.laload, 1) := by decide +kernel
theorem d_M_round_48 : decode c_M_round 48 = .ok (.lload_n 3, 1) := by decide +kernel
theorem d_M_round_49 : decode c_M_round 49 = .ok (.lmul, 1) := by decide +kernel
theorem d_M_round_50 : decode c_M_round 50 = .ok (.lstore 5, 2) := by decide +kernel
theorem d_M_round_52 : decode c_M_round 52 = .ok (.lload 5, 2) := by decide +kernel
theorem d_M_round_54 : decode c_M_round 54 = .ok (.aload_n 0, 1) := by decide +kernel
theorem d_M_round_55 : decode c_M_round 55 = .ok (.getfield 13, 3) := by decide +kernel
theorem d_M_round_58 : decode c_M_round 58 = .ok (.iload_n 1, 1) := by decide +kernel
theorem d_M_round_59 : decode c_M_round 59 = .ok (.laload, 1) := by decide +kernel
theorem d_M_round_60 : decode c_M_round 60 = .ok (.ldiv, 1) := by decide +kernel
theorem d_M_round_61 : decode c_M_round 61 = .ok (.lstore 7, 2) := by decide +kernel
theorem d_M_round_63 : decode c_M_round 63 = .ok (.lload 7, 2) := by decide +kernel
theorem d_M_round_65 : decode c_M_round 65 = .ok (.aload_n 0, 1) := by decide +kernel
theorem d_M_round_66 : decode c_M_round 66 = .ok (.getfield 13, 3) := by decide +kernel
theorem d_M_round_69 : decode c_M_round 69 = .ok (.iload_n 1, 1) := by decide +kernel
theorem d_M_round_70 : decode c_M_round 70 = .ok (.laload, 1) := by decide +kernel
theorem d_M_round_71 : decode c_M_round 71 = .ok (.lmul, 1) := by decide +kernel
theorem d_M_round_72 : decode c_M_round 72 = .ok (.lload 5, 2) := by decide +kernel
theorem d_M_round_74 : decode c_M_round 74 = .ok (.lcmp, 1) := by decide +kernel
theorem d_M_round_75 : decode c_M_round 75 = .ok (.ifCond .le 10, 3) := by decide +kernel
theorem d_M_round_78 : decode c_M_round 78 = .ok (.lload 7, 2) := by decide +kernel
theorem d_M_round_80 : decode c_M_round 80 = .ok (.lconst 1, 1) := by decide +kernel
theorem d_M_round_81 : decode c_M_round 81 = .ok (.lsub, 1) := by decide +kernel
theorem d_M_round_82 : decode c_M_round 82 = .ok (.goto 5, 3) := by decide +kernel
theorem d_M_round_85 : decode c_M_round 85 = .ok (.lload 7, 2) := by decide +kernel
theorem d_M_round_87 : decode c_M_round 87 = .ok (.lstore 7, 2) := by decide +kernel
theorem d_M_round_89 : decode c_M_round 89 = .ok (.lload 5, 2) := by decide +kernel
theorem d_M_round_91 : decode c_M_round 91 = .ok (.lload 7, 2) := by decide +kernel
theorem d_M_round_93 : decode c_M_round 93 = .ok (.aload_n 0, 1) := by decide +kernel
theorem d_M_round_94 : decode c_M_round 94 = .ok (.getfield 13, 3) := by decide +kernel
theorem d_M_round_97 : decode c_M_round 97 = .ok (.iload_n 1, 1) := by decide +kernel
theorem d_M_round_98 : decode c_M_round 98 = .ok (.laload, 1) := by decide +kernel
theorem d_M_round_99 : decode c_M_round 99 = .ok (.lmul, 1) := by decide +kernel
theorem d_M_round_100 : decode c_M_round 100 = .ok (.lsub, 1) := by decide +kernel
theorem d_M_round_101 : decode c_M_round 101 = .ok (.lstore 9, 2) := by decide +kernel
theorem d_M_round_103 : decode c_M_round 103 = .ok (.aload_n 0, 1) := by decide +kernel
theorem d_M_round_104 : decode c_M_round 104 = .ok (.lload 9, 2) := by decide +kernel
theorem d_M_round_106 : decode c_M_round 106 = .ok (.lconst 0, 1) := by decide +kernel
theorem d_M_round_107 : decode c_M_round 107 = .ok (.lcmp, 1) := by decide +kernel
theorem d_M_round_108 : decode c_M_round 108 = .ok (.ifCond .le 27, 3) := by decide +kernel
theorem d_M_round_111 : decode c_M_round 111 = .ok (.iload_n 2, 1) := by decide +kernel
theorem d_M_round_112 : decode c_M_round 112 = .ok (.lload 7, 2) := by decide +kernel
theorem d_M_round_114 : decode c_M_round 114 = .ok (.lload 9, 2) := by decide +kernel
theorem d_M_round_116 : decode c_M_round 116 = .ok (.aload_n 0, 1) := by decide +kernel
theorem d_M_round_117 : decode c_M_round 117 = .ok (.getfield 13, 3) := by decide +kernel
theorem d_M_round_120 : decode c_M_round 120 = .ok (.iload_n 1, 1) := by decide +kernel
theorem d_M_round_121 : decode c_M_round 121 = .ok (.laload, 1) := by decide +kernel
theorem d_M_round_122 : decode c_M_round 122 = .ok (.invokestatic 70, 3) := by decide +kernel
theorem d_M_round_125 : decode c_M_round 125 = .ok (.ifCond .eq 10, 3) := by decide +kernel
theorem d_M_round_128 : decode c_M_round 128 = .ok (.lload 7, 2) := by decide +kernel
theorem d_M_round_130 : decode c_M_round 130 = .ok (.lconst 1, 1) := by decide +kernel
theorem d_M_round_131 : decode c_M_round 131 = .ok (.ladd, 1) := by decide +kernel
theorem d_M_round_132 : decode c_M_round 132 = .ok (.goto 5, 3) := by decide +kernel
theorem d_M_round_135 : decode c_M_round 135 = .ok (.lload 7, 2) := by decide +kernel
theorem d_M_round_137 : decode c_M_round 137 = .ok (.lload_n 3, 1) := by decide +kernel
theorem d_M_round_138 : decode c_M_round 138 = .ok (.aload_n 0, 1) := by decide +kernel
theorem d_M_round_139 : decode c_M_round 139 = .ok (.getfield 16, 3) := by decide +kernel
theorem d_M_round_142 : decode c_M_round 142 = .ok (.iload_n 1, 1) := by decide +kernel
theorem d_M_round_143 : decode c_M_round 143 = .ok (.iaload, 1) := by decide +kernel
theorem d_M_round_144 : decode c_M_round 144 = .ok (.invokevirtual 54, 3) := by decide +kernel
theorem d_M_round_147 : decode c_M_round 147 = .ok (.ireturn, 1) := by decide +kernel
theorem d_M_order_0 : decode c_M_order 0 = .ok (.aload_n 0, 1) := by decide +kernel
theorem d_M_order_1 : decode c_M_order 1 = .ok (.iconst 0, 1) := by decide +kernel
theorem d_M_order_2 : decode c_M_order 2 = .ok (.putfield 35, 3) := by decide +kernel
theorem d_M_order_5 : decode c_M_order 5 = .ok (.aload_n 0, 1) := by decide +kernel
theorem d_M_order_6 : decode c_M_order 6 = .ok (.iload_n 1, 1) := by decide +kernel
theorem d_M_order_7 : decode c_M_order 7 = .ok (.invokevirtual 58, 3) := by decide +kernel
theorem d_M_order_10 : decode c_M_order 10 = .ok (.ifCond .eq 11, 3) := by decide +kernel
theorem d_M_order_13 : decode c_M_order 13 = .ok (.aload_n 0, 1) := by decide +kernel
theorem d_M_order_14 : decode c_M_order 14 = .ok (.iload_n 2, 1) := by decide +kernel
theorem d_M_order_15 : decode c_M_order 15 = .ok (.invokevirtual 58, 3) := by decide +kernel
theorem d_M_order_18 : decode c_M_order 18 = .ok (.ifCond .ne 6, 3) := by decide +kernel
theorem d_M_order_21 : decode c_M_order 21 = .ok (.bipush (-3), 2) := by decide +kernel
theorem d_M_order_23 : decode c_M_order 23 = .ok (.ireturn, 1) := by decide +kernel
theorem d_M_order_24 : decode c_M_order 24 = .ok (.aload_n 0, 1) := by decide +kernel
theorem d_M_order_25 : decode c_M_order 25 = .ok (.getfield 16, 3) := by decide +kernel
theorem d_M_order_28 : decode c_M_order 28 = .ok (.iload_n 1, 1) := by decide +kernel
theorem d_M_order_29 : decode c_M_order 29 = .ok (.iaload, 1) := by decide +kernel
theorem d_M_order_30 : decode c_M_order 30 = .ok (.aload_n 0, 1) := by decide +kernel
theorem d_M_order_31 : decode c_M_order 31 = .ok (.getfield 16, 3) := by decide +kernel
theorem d_M_order_34 : decode c_M_order 34 = .ok (.iload_n 2, 1) := by decide +kernel
theorem d_M_order_35 : decode c_M_order 35 = .ok (.iaload, 1) := by decide +kernel
theorem d_M_order_36 : decode c_M_order 36 = .ok (.if_icmp .eq 5, 3) := by decide +kernel
theorem d_M_order_39 : decode c_M_order 39 = .ok (.iconst 2, 1) := by decide +kernel
theorem d_M_order_40 : decode c_M_order 40 = .ok (.ireturn, 1) := by decide +kernel
theorem d_M_order_41 : decode c_M_order 41 = .ok (.aload_n 0, 1) := by decide +kernel
theorem d_M_order_42 : decode c_M_order 42 = .ok (.getfield 7, 3) := by decide +kernel
theorem d_M_order_45 : decode c_M_order 45 = .ok (.iload_n 1, 1) := by decide +kernel
theorem d_M_order_46 : decode c_M_order 46 = .ok (.laload, 1) := by decide +kernel
theorem d_M_order_47 : decode c_M_order 47 = .ok (.aload_n 0, 1) := by decide +kernel
theorem d_M_order_48 : decode c_M_order 48 = .ok (.getfield 13, 3) := by decide +kernel
theorem d_M_order_51 : decode c_M_order 51 = .ok (.iload_n 2, 1) := by decide +kernel
theorem d_M_order_52 : decode c_M_order 52 = .ok (.laload, 1) := by decide +kernel
theorem d_M_order_53 : decode c_M_order 53 = .ok (.lmul, 1) := by decide +kernel
theorem d_M_order_54 : decode c_M_order 54 = .ok (.aload_n 0, 1) := by decide +kernel
theorem d_M_order_55 : decode c_M_order 55 = .ok (.getfield 7, 3) := by decide +kernel
theorem d_M_order_58 : decode c_M_order 58 = .ok (.iload_n 2, 1) := by decide +kernel
theorem d_M_order_59 : decode c_M_order 59 = .ok (.laload, 1) := by decide +kernel
theorem d_M_order_60 : decode c_M_order 60 = .ok (.aload_n 0, 1) := by decide +kernel
theorem d_M_order_61 : decode c_M_order 61 = .ok (.getfield 13, 3) := by decide +kernel
theorem d_M_order_64 : decode c_M_order 64 = .ok (.iload_n 1, 1) := by decide +kernel
theorem d_M_order_65 : decode c_M_order 65 = .ok (.laload, 1) := by decide +kernel
theorem d_M_order_66 : decode c_M_order 66 = .ok (.lmul, 1) := by decide +kernel
theorem d_M_order_67 : decode c_M_order 67 = .ok (.lsub, 1) := by decide +kernel
theorem d_M_order_68 : decode c_M_order 68 = .ok (.lstore_n 3, 1) := by decide +kernel
theorem d_M_order_69 : decode c_M_order 69 = .ok (.lload_n 3, 1) := by decide +kernel
theorem d_M_order_70 : decode c_M_order 70 = .ok (.lconst 0, 1) := by decide +kernel
theorem d_M_order_71 : decode c_M_order 71 = .ok (.lcmp, 1) := by decide +kernel
theorem d_M_order_72 : decode c_M_order 72 = .ok (.ifCond .ge 7, 3) := by decide +kernel
theorem d_M_order_75 : decode c_M_order 75 = .ok (.iconst (-1), 1) := by decide +kernel
theorem d_M_order_76 : decode c_M_order 76 = .ok (.goto 14, 3) := by decide +kernel
theorem d_M_order_79 : decode c_M_order 79 = .ok (.lload_n 3, 1) := by decide +kernel
theorem d_M_order_80 : decode c_M_order 80 = .ok (.lconst 0, 1) := by decide +kernel
theorem d_M_order_81 : decode c_M_order 81 = .ok (.lcmp, 1) := by decide +kernel
theorem d_M_order_82 : decode c_M_order 82 = .ok (.ifCond .le 7, 3) := by decide +kernel
theorem d_M_order_85 : decode c_M_order 85 = .ok (.iconst 1, 1) := by decide +kernel
theorem d_M_order_86 : decode c_M_order 86 = .ok (.goto 4, 3) := by decide +kernel
theorem d_M_order_89 : decode c_M_order 89 = .ok (.iconst 0, 1) := by decide +kernel
theorem d_M_order_90 : decode c_M_order 90 = .ok (.ireturn, 1) := by decide +kernel
theorem d_M_isNear_0 : decode c_M_isNear 0 = .ok (.lload_n 0, 1) := by decide +kernel
theorem d_M_isNear_1 : decode c_M_isNear 1 = .ok (.ldc2_w 74, 3) := by decide +kernel
theorem d_M_isNear_4 : decode c_M_isNear 4 = .ok (.lcmp, 1) := by decide +kernel
theorem d_M_isNear_5 : decode c_M_isNear 5 = .ok (.ifCond .lt 15, 3) := by decide +kernel
theorem d_M_isNear_8 : decode c_M_isNear 8 = .ok (.lload_n 0, 1) := by decide +kernel
theorem d_M_isNear_9 : decode c_M_isNear 9 = .ok (.ldc2_w 76, 3) := by decide +kernel
theorem d_M_isNear_12 : decode c_M_isNear 12 = .ok (.lcmp, 1) := by decide +kernel
theorem d_M_isNear_13 : decode c_M_isNear 13 = .ok (.ifCond .gt 7, 3) := by decide +kernel
theorem d_M_isNear_16 : decode c_M_isNear 16 = .ok (.iconst 1, 1) := by decide +kernel
theorem d_M_isNear_17 : decode c_M_isNear 17 = .ok (.goto 4, 3) := by decide +kernel
theorem d_M_isNear_20 : decode c_M_isNear 20 = .ok (.iconst 0, 1) := by decide +kernel
theorem d_M_isNear_21 : decode c_M_isNear 21 = .ok (.ireturn, 1) := by decide +kernel
theorem d_M_row_0 : decode c_M_row 0 = .ok (.aload_n 0, 1) := by decide +kernel
theorem d_M_row_1 : decode c_M_row 1 = .ok (.iconst 0, 1) := by decide +kernel
theorem d_M_row_2 : decode c_M_row 2 = .ok (.putfield 35, 3) := by decide +kernel
theorem d_M_row_5 : decode c_M_row 5 = .ok (.iload_n 1, 1) := by decide +kernel
theorem d_M_row_6 : decode c_M_row 6 = .ok (.ifCond .lt 50, 3) := by decide +kernel
theorem d_M_row_9 : decode c_M_row 9 = .ok (.iload_n 1, 1) := by decide +kernel
theorem d_M_row_10 : decode c_M_row 10 = .ok (.iconst 4, 1) := by decide +kernel
theorem d_M_row_11 : decode c_M_row 11 = .ok (.if_icmp .ge 45, 3) := by decide +kernel
theorem d_M_row_14 : decode c_M_row 14 = .ok (.aload_n 0, 1) := by decide +kernel
theorem d_M_row_15 : decode c_M_row 15 = .ok (.getfield 20, 3) := by decide +kernel
theorem d_M_row_18 : decode c_M_row 18 = .ok (.iload_n 1, 1) := by decide +kernel
theorem d_M_row_19 : decode c_M_row 19 = .ok (.iaload, 1) := by decide +kernel
theorem d_M_row_20 : decode c_M_row 20 = .ok (.bipush 16, 2) := by decide +kernel
theorem d_M_row_22 : decode c_M_row 22 = .ok (.if_icmp .eq 34, 3) := by decide +kernel
theorem d_M_row_25 : decode c_M_row 25 = .ok (.lload 6, 2) := by decide +kernel
theorem d_M_row_27 : decode c_M_row 27 = .ok (.lconst 1, 1) := by decide +kernel
theorem d_M_row_28 : decode c_M_row 28 = .ok (.lcmp, 1) := by decide +kernel
theorem d_M_row_29 : decode c_M_row 29 = .ok (.ifCond .lt 27, 3) := by decide +kernel
theorem d_M_row_32 : decode c_M_row 32 = .ok (.lload 6, 2) := by decide +kernel
theorem d_M_row_34 : decode c_M_row 34 = .ok (.ldc2_w 78, 3) := by decide +kernel
theorem d_M_row_37 : decode c_M_row 37 = .ok (.lcmp, 1) := by decide +kernel
theorem d_M_row_38 : decode c_M_row 38 = .ok (.ifCond .gt 18, 3) := by decide +kernel
theorem d_M_row_41 : decode c_M_row 41 = .ok (.lload_n 2, 1) := by decide +kernel
theorem d_M_row_42 : decode c_M_row 42 = .ok (.invokestatic 80, 3) := by decide +kernel
theorem d_M_row_45 : decode c_M_row 45 = .ok (.ifCond .eq 11, 3) := by decide +kernel
theorem d_M_row_48 : decode c_M_row 48 = .ok (.lload 4, 2) := by decide +kernel
theorem d_M_row_50 : decode c_M_row 50 = .ok (.invokestatic 80, 3) := by decide +kernel
theorem d_M_row_53 : decode c_M_row 53 = .ok (.ifCond .ne 5, 3) := by decide +kernel
theorem d_M_row_56 : decode c_M_row 56 = .ok (.iconst 0, 1) := by decide +kernel
theorem d_M_row_57 : decode c_M_row 57 = .ok (.ireturn, 1) := by decide +kernel
theorem d_M_row_58 : decode c_M_row 58 = .ok (.bipush 16, 2) := by decide +kernel
theorem d_M_row_60 : decode c_M_row 60 = .ok (.iload_n 1, 1) := by decide +kernel
theorem d_M_row_61 : decode c_M_row 61 = .ok (.imul, 1) := by decide +kernel
theorem d_M_row_62 : decode c_M_row 62 = .ok (.aload_n 0, 1) := by decide +kernel
theorem d_M_row_63 : decode c_M_row 63 = .ok (.getfield 20, 3) := by decide +kernel
theorem d_M_row_66 : decode c_M_row 66 = .ok (.iload_n 1, 1) := by decide +kernel
theorem d_M_row_67 : decode c_M_row 67 = .ok (.iaload, 1) := by decide +kernel
theorem d_M_row_68 : decode c_M_row 68 = .ok (.iadd, 1) := by decide +kernel
theorem d_M_row_69 : decode c_M_row 69 = .ok (.istore 8, 2) := by decide +kernel
theorem d_M_row_71 : decode c_M_row 71 = .ok (.aload_n 0, 1) := by decide +kernel
theorem d_M_row_72 : decode c_M_row 72 = .ok (.getfield 20, 3) := by decide +kernel
theorem d_M_row_75 : decode c_M_row 75 = .ok (.iload_n 1, 1) := by decide +kernel
theorem d_M_row_76 : decode c_M_row 76 = .ok (.iaload, 1) := by decide +kernel
theorem d_M_row_77 : decode c_M_row 77 = .ok (.ifCond .le 31, 3) := by decide +kernel
theorem d_M_row_80 : decode c_M_row 80 = .ok (.lload 6, 2) := by decide +kernel
theorem d_M_row_82 : decode c_M_row 82 = .ok (.aload_n 0, 1) := by decide +kernel
theorem d_M_row_83 : decode c_M_row 83 = .ok (.getfield 29, 3) := by decide +kernel
theorem d_M_row_86 : decode c_M_row 86 = .ok (.iload_n 1, 1) := by decide +kernel
theorem d_M_row_87 : decode c_M_row 87 = .ok (.laload, 1) := by decide +kernel
theorem d_M_row_88 : decode c_M_row 88 = .ok (.lcmp, 1) := by decide +kernel
theorem d_M_row_89 : decode c_M_row 89 = .ok (.ifCond .ne 17, 3) := by decide +kernel
theorem d_M_row_92 : decode c_M_row 92 = .ok (.lload_n 2, 1) := by decide +kernel
theorem d_M_row_93 : decode c_M_row 93 = .ok (.aload_n 0, 1) := by decide +kernel
theorem d_M_row_94 : decode c_M_row 94 = .ok (.getfield 23, 3) := by decide +kernel
theorem d_M_row_97 : decode c_M_row 97 = .ok (.iload 8, 2) := by decide +kernel
theorem d_M_row_99 : decode c_M_row 99 = .ok (.iconst 1, 1) := by decide +kernel
theorem d_M_row_100 : decode c_M_row 100 = .ok (.isub, 1) := by decide +kernel
theorem d_M_row_101 : decode c_M_row 101 = .ok (.laload, 1) := by decide +kernel
theorem d_M_row_102 : decode c_M_row 102 = .ok (.lcmp, 1) := by decide +kernel
theorem d_M_row_103 : decode c_M_row 103 = .ok (.ifCond .gt 5, 3) := by decide +kernel
theorem d_M_row_106 : decode c_M_row 106 = .ok (.iconst 0, 1) := by decide +kernel
theorem d_M_row_107 : decode c_M_row 107 = .ok (.ireturn, 1) := by decide +kernel
theorem d_M_row_108 : decode c_M_row 108 = .ok (.aload_n 0, 1) := by decide +kernel
theorem d_M_row_109 : decode c_M_row 109 = .ok (.getfield 29, 3) := by decide +kernel
theorem d_M_row_112 : decode c_M_row 112 = .ok (.iload_n 1, 1) := by decide +kernel
theorem d_M_row_113 : decode c_M_row 113 = .ok (.lload 6, 2) := by decide +kernel
theorem d_M_row_115 : decode c_M_row 115 = .ok (.lastore, 1) := by decide +kernel
theorem d_M_row_116 : decode c_M_row 116 = .ok (.aload_n 0, 1) := by decide +kernel
theorem d_M_row_117 : decode c_M_row 117 = .ok (.getfield 23, 3) := by decide +kernel
theorem d_M_row_120 : decode c_M_row 120 = .ok (.iload 8, 2) := by decide +kernel
theorem d_M_row_122 : decode c_M_row 122 = .ok (.lload_n 2, 1) := by decide +kernel
theorem d_M_row_123 : decode c_M_row 123 = .ok (.lastore, 1) := by decide +kernel
theorem d_M_row_124 : decode c_M_row 124 = .ok (.aload_n 0, 1) := by decide +kernel
theorem d_M_row_125 : decode c_M_row 125 = .ok (.getfield 26, 3) := by decide +kernel
theorem d_M_row_128 : decode c_M_row 128 = .ok (.iload 8, 2) := by decide +kernel
theorem d_M_row_130 : decode c_M_row 130 = .ok (.lload 4, 2) := by decide +kernel
theorem d_M_row_132 : decode c_M_row 132 = .ok (.lastore, 1) := by decide +kernel
theorem d_M_row_133 : decode c_M_row 133 = .ok (.aload_n 0, 1) := by decide +kernel
theorem d_M_row_134 : decode c_M_row 134 = .ok (.getfield 20, 3) := by decide +kernel
theorem d_M_row_137 : decode c_M_row 137 = .ok (.iload_n 1, 1) := by decide +kernel
theorem d_M_row_138 : decode c_M_row 138 = .ok (.dup2, 1) := by decide +kernel
theorem d_M_row_139 : decode c_M_row 139 = .ok (.iaload, 1) := by decide +kernel
theorem d_M_row_140 : decode c_M_row 140 = .ok (.iconst 1, 1) := by decide +kernel
theorem d_M_row_141 : decode c_M_row 141 = .ok (.iadd, 1) := by decide +kernel
theorem d_M_row_142 : decode c_M_row 142 = .ok (.iastore, 1) := by decide +kernel
theorem d_M_row_143 : decode c_M_row 143 = .ok (.iconst 1, 1) := by decide +kernel
theorem d_M_row_144 : decode c_M_row 144 = .ok (.ireturn, 1) := by decide +kernel
theorem d_M_join_0 : decode c_M_join 0 = .ok (.aload_n 0, 1) := by decide +kernel
theorem d_M_join_1 : decode c_M_join 1 = .ok (.iconst 0, 1) := by decide +kernel
theorem d_M_join_2 : decode c_M_join 2 = .ok (.putfield 35, 3) := by decide +kernel
theorem d_M_join_5 : decode c_M_join 5 = .ok (.aload_n 0, 1) := by decide +kernel
theorem d_M_join_6 : decode c_M_join 6 = .ok (.iload_n 2, 1) := by decide +kernel
theorem d_M_join_7 : decode c_M_join 7 = .ok (.invokevirtual 58, 3) := by decide +kernel
theorem d_M_join_10 : decode c_M_join 10 = .ok (.ifCond .eq 12, 3) := by decide +kernel
theorem d_M_join_13 : decode c_M_join 13 = .ok (.iload_n 1, 1) := by decide +kernel
theorem d_M_join_14 : decode c_M_join 14 = .ok (.ifCond .lt 8, 3) := by decide +kernel
theorem d_M_join_17 : decode c_M_join 17 = .ok (.iload_n 1, 1) := by decide +kernel
theorem d_M_join_18 : decode c_M_join 18 = .ok (.iconst 4, 1) := by decide +kernel
theorem d_M_join_19 : decode c_M_join 19 = .ok (.if_icmp .lt 6, 3) := by decide +kernel
theorem d_M_join_22 : decode c_M_join 22 = .ok (.bipush (-3), 2) := by decide +kernel
theorem d_M_join_24 : decode c_M_join 24 = .ok (.ireturn, 1) := by decide +kernel
theorem d_M_join_25 : decode c_M_join 25 = .ok (.aload_n 0, 1) := by decide +kernel
theorem d_M_join_26 : decode c_M_join 26 = .ok (.getfield 20, 3) := by decide +kernel
theorem d_M_join_29 : decode c_M_join 29 = .ok (.iload_n 1, 1) := by decide +kernel
theorem d_M_join_30 : decode c_M_join 30 = .ok (.iaload, 1) := by decide +kernel
theorem d_M_join_31 : decode c_M_join 31 = .ok (.ifCond .ne 5, 3) := by decide +kernel
theorem d_M_join_34 : decode c_M_join 34 = .ok (.iconst (-1), 1) := by decide +kernel
theorem d_M_join_35 : decode c_M_join 35 = .ok (.ireturn, 1) := by decide +kernel
theorem d_M_join_36 : decode c_M_join 36 = .ok (.aload_n 0, 1) := by decide +kernel
theorem d_M_join_37 : decode c_M_join 37 = .ok (.getfield 7, 3) := by decide +kernel
theorem d_M_join_40 : decode c_M_join 40 = .ok (.iload_n 2, 1) := by decide +kernel
theorem d_M_join_41 : decode c_M_join 41 = .ok (.laload, 1) := by decide +kernel
theorem d_M_join_42 : decode c_M_join 42 = .ok (.aload_n 0, 1) := by decide +kernel
theorem d_M_join_43 : decode c_M_join 43 = .ok (.getfield 29, 3) := by decide +kernel
theorem d_M_join_46 : decode c_M_join 46 = .ok (.iload_n 1, 1) := by decide +kernel
theorem d_M_join_47 : decode c_M_join 47 = .ok (.laload, 1) := by decide +kernel
theorem d_M_join_48 : decode c_M_join 48 = .ok (.lmul, 1) := by decide +kernel
theorem d_M_join_49 : decode c_M_join 49 = .ok (.lstore_n 3, 1) := by decide +kernel
theorem d_M_join_50 : decode c_M_join 50 = .ok (.bipush 16, 2) := by decide +kernel
theorem d_M_join_52 : decode c_M_join 52 = .ok (.iload_n 1, 1) := by decide +kernel
theorem d_M_join_53 : decode c_M_join 53 = .ok (.imul, 1) := by decide +kernel
theorem d_M_join_54 : decode c_M_join 54 = .ok (.istore 5, 2) := by decide +kernel
theorem d_M_join_56 : decode c_M_join 56 = .ok (.iload 5, 2) := by decide +kernel
theorem d_M_join_58 : decode c_M_join 58 = .ok (.aload_n 0, 1) := by decide +kernel
theorem d_M_join_59 : decode c_M_join 59 = .ok (.getfield 20, 3) := by decide +kernel
theorem d_M_join_62 : decode c_M_join 62 = .ok (.iload_n 1, 1) := by decide +kernel
theorem d_M_join_63 : decode c_M_join 63 = .ok (.iaload, 1) := by decide +kernel
theorem d_M_join_64 : decode c_M_join 64 = .ok (.iadd, 1) := by decide +kernel
theorem d_M_join_65 : decode c_M_join 65 = .ok (.iconst 1, 1) := by decide +kernel
theorem d_M_join_66 : decode c_M_join 66 = .ok (.isub, 1) := by decide +kernel
theorem d_M_join_67 : decode c_M_join 67 = .ok (.istore 6, 2) := by decide +kernel
theorem d_M_join_69 : decode c_M_join 69 = .ok (.lload_n 3, 1) := by decide +kernel
theorem d_M_join_70 : decode c_M_join 70 = .ok (.aload_n 0, 1) := by decide +kernel
theorem d_M_join_71 : decode c_M_join 71 = .ok (.getfield 23, 3) := by decide +kernel
theorem d_M_join_74 : decode c_M_join 74 = .ok (.iload 5, 2) := by decide +kernel
theorem d_M_join_76 : decode c_M_join 76 = .ok (.laload, 1) := by decide +kernel
theorem d_M_join_77 : decode c_M_join 77 = .ok (.aload_n 0, 1) := by decide +kernel
theorem d_M_join_78 : decode c_M_join 78 = .ok (.getfield 13, 3) := by decide +kernel
theorem d_M_join_81 : decode c_M_join 81 = .ok (.iload_n 2, 1) := by decide +kernel
theorem d_M_join_82 : decode c_M_join 82 = .ok (.laload, 1) := by decide +kernel
theorem d_M_join_83 : decode c_M_join 83 = .ok (.lmul, 1) := by decide +kernel
theorem d_M_join_84 : decode c_M_join 84 = .ok (.lcmp, 1) := by decide +kernel
theorem d_M_join_85 : decode c_M_join 85 = .ok (.ifCond .gt 22, 3) := by decide +kernel
theorem d_M_join_88 : decode c_M_join 88 = .ok (.aload_n 0, 1) := by decide +kernel
theorem d_M_join_89 : decode c_M_join 89 = .ok (.aload_n 0, 1) := by decide +kernel
theorem d_M_join_90 : decode c_M_join 90 = .ok (.getfield 26, 3) := by decide +kernel
theorem d_M_join_93 : decode c_M_join 93 = .ok (.iload 5, 2) := by decide +kernel
theorem d_M_join_95 : decode c_M_join 95 = .ok (.laload, 1) := by decide +kernel
theorem d_M_join_96 : decode c_M_join 96 = .ok (.aload_n 0, 1) := by decide +kernel
theorem d_M_join_97 : decode c_M_join 97 = .ok (.getfield 29, 3) := by decide +kernel
theorem d_M_join_100 : decode c_M_join 100 = .ok (.iload_n 1, 1) := by decide +kernel
theorem d_M_join_101 : decode c_M_join 101 = .ok (.laload, 1) := by decide +kernel
theorem d_M_join_102 : decode c_M_join 102 = .ok (.iconst 0, 1) := by decide +kernel
theorem d_M_join_103 : decode c_M_join 103 = .ok (.invokevirtual 54, 3) := by decide +kernel
theorem d_M_join_106 : decode c_M_join 106 = .ok (.ireturn, 1) := by decide +kernel
theorem d_M_join_107 : decode c_M_join 107 = .ok (.iload 5, 2) := by decide +kernel
theorem d_M_join_109 : decode c_M_join 109 = .ok (.istore 7, 2) := by decide +kernel
theorem d_M_join_111 : decode c_M_join 111 = .ok (.iload 7, 2) := by decide +kernel
theorem d_M_join_113 : decode c_M_join 113 = .ok (.iload 6, 2) := by decide +kernel
theorem d_M_join_115 : decode c_M_join 115 = .ok (.if_icmp .ge 127, 3) := by decide +kernel
theorem d_M_join_118 : decode c_M_join 118 = .ok (.lload_n 3, 1) := by decide +kernel
theorem d_M_join_119 : decode c_M_join 119 = .ok (.aload_n 0, 1) := by decide +kernel
theorem d_M_join_120 : decode c_M_join 120 = .ok (.getfield 23, 3) := by decide +kernel
theorem d_M_join_123 : decode c_M_join 123 = .ok (.iload 7, 2) := by decide +kernel
theorem d_M_join_125 : decode c_M_join 125 = .ok (.iconst 1, 1) := by decide +kernel
theorem d_M_join_126 : decode c_M_join 126 = .ok (.iadd, 1) := by decide +kernel
theorem d_M_join_127 : decode c_M_join 127 = .ok (.laload, 1) := by decide +kernel
theorem d_M_join_128 : decode c_M_join 128 = .ok (.aload_n 0, 1) := by decide +kernel
theorem d_M_join_129 : decode c_M_join 129 = .ok (.getfield 13, 3) := by decide +kernel
theorem d_M_join_132 : decode c_M_join 132 = .ok (.iload_n 2, 1) := by decide +kernel
theorem d_M_join_133 : decode c_M_join 133 = .ok (.laload, 1) := by decide +kernel
theorem d_M_join_134 : decode c_M_join 134 = .ok (.lmul, 1) := by decide +kernel
theorem d_M_join_135 : decode c_M_join 135 = .ok (.lcmp, 1) := by decide +kernel
theorem d_M_join_136 : decode c_M_join 136 = .ok (.ifCond .gt 100, 3) := by decide +kernel
theorem d_M_join_139 : decode c_M_join 139 = .ok (.aload_n 0, 1) := by decide +kernel
theorem d_M_join_140 : decode c_M_join 140 = .ok (.getfield 23, 3) := by decide +kernel
theorem d_M_join_143 : decode c_M_join 143 = .ok (.iload 7, 2) := by decide +kernel
theorem d_M_join_145 : decode c_M_join 145 = .ok (.iconst 1, 1) := by decide +kernel
theorem d_M_join_146 : decode c_M_join 146 = .ok (.iadd, 1) := by decide +kernel
theorem d_M_join_147 : decode c_M_join 147 = .ok (.laload, 1) := by decide +kernel
theorem d_M_join_148 : decode c_M_join 148 = .ok (.aload_n 0, 1) := by decide +kernel
theorem d_M_join_149 : decode c_M_join 149 = .ok (.getfield 23, 3) := by decide +kernel
theorem d_M_join_152 : decode c_M_join 152 = .ok (.iload 7, 2) := by decide +kernel
theorem d_M_join_154 : decode c_M_join 154 = .ok (.laload, 1) := by decide +kernel
theorem d_M_join_155 : decode c_M_join 155 = .ok (.lsub, 1) := by decide +kernel
theorem d_M_join_156 : decode c_M_join 156 = .ok (.lstore 8, 2) := by decide +kernel
theorem d_M_join_158 : decode c_M_join 158 = .ok (.lload_n 3, 1) := by decide +kernel
theorem d_M_join_159 : decode c_M_join 159 = .ok (.aload_n 0, 1) := by decide +kernel
theorem d_M_join_160 : decode c_M_join 160 = .ok (.getfield 23, 3) := by decide +kernel
theorem d_M_join_163 : decode c_M_join 163 = .ok (.iload 7, 2) := by decide +kernel
theorem d_M_join_165 : decode c_M_join 165 = .ok (.laload, 1) := by decide +kernel
theorem d_M_join_166 : decode c_M_join 166 = .ok (.aload_n 0, 1) := by decide +kernel
theorem d_M_join_167 : decode c_M_join 167 = .ok (.getfield 13, 3) := by decide +kernel
theorem d_M_join_170 : decode c_M_join 170 = .ok (.iload_n 2, 1) := by decide +kernel
theorem d_M_join_171 : decode c_M_join 171 = .ok (.laload, 1) := by decide +kernel
theorem d_M_join_172 : decode c_M_join 172 = .ok (.lmul, 1) := by decide +kernel
theorem d_M_join_173 : decode c_M_join 173 = .ok (.lsub, 1) := by decide +kernel
theorem d_M_join_174 : decode c_M_join 174 = .ok (.aload_n 0, 1) := by decide +kernel
theorem d_M_join_175 : decode c_M_join 175 = .ok (.getfield 26, 3) := by decide +kernel
theorem d_M_join_178 : decode c_M_join 178 = .ok (.iload 7, 2) := by decide +kernel
theorem d_M_join_180 : decode c_M_join 180 = .ok (.iconst 1, 1) := by decide +kernel
theorem d_M_join_181 : decode c_M_join 181 = .ok (.iadd, 1) := by decide +kernel
theorem d_M_join_182 : decode c_M_join 182 = .ok (.laload, 1) := by decide +kernel
theorem d_M_join_183 : decode c_M_join 183 = .ok (.aload_n 0, 1) := by decide +kernel
theorem d_M_join_184 : decode c_M_join 184 = .ok (.getfield 26, 3) := by decide +kernel
theorem d_M_join_187 : decode c_M_join 187 = .ok (.iload 7, 2) := by decide +kernel
theorem d_M_join_189 : decode c_M_join 189 = .ok (.laload, 1) := by decide +kernel
theorem d_M_join_190 : decode c_M_join 190 = .ok (.lsub, 1) := by decide +kernel
theorem d_M_join_191 : decode c_M_join 191 = .ok (.lmul, 1) := by decide +kernel
theorem d_M_join_192 : decode c_M_join 192 = .ok (.lstore 10, 2) := by decide +kernel
theorem d_M_join_194 : decode c_M_join 194 = .ok (.aload_n 0, 1) := by decide +kernel
theorem d_M_join_195 : decode c_M_join 195 = .ok (.aload_n 0, 1) := by decide +kernel
theorem d_M_join_196 : decode c_M_join 196 = .ok (.getfield 26, 3) := by decide +kernel
theorem d_M_join_199 : decode c_M_join 199 = .ok (.iload 7, 2) := by decide +kernel
theorem d_M_join_201 : decode c_M_join 201 = .ok (.laload, 1) := by decide +kernel
theorem d_M_join_202 : decode c_M_join 202 = .ok (.lload 8, 2) := by decide +kernel
theorem d_M_join_204 : decode c_M_join 204 = .ok (.lmul, 1) := by decide +kernel
theorem d_M_join_205 : decode c_M_join 205 = .ok (.aload_n 0, 1) := by decide +kernel
theorem d_M_join_206 : decode c_M_join 206 = .ok (.getfield 13, 3) := by decide +kernel
theorem d_M_join_209 : decode c_M_join 209 = .ok (.iload_n 2, 1) := by decide +kernel
theorem d_M_join_210 : decode c_M_join 210 = .ok (.laload, 1) := by decide +kernel
theorem d_M_join_211 : decode c_M_join 211 = .ok (.lmul, 1) := by decide +kernel
theorem d_M_join_212 : decode c_M_join 212 = .ok (.lload 10, 2) := by decide +kernel
theorem d_M_join_214 : decode c_M_join 214 = .ok (.ladd, 1) := by decide +kernel
theorem d_M_join_215 : decode c_M_join 215 = .ok (.lload 8, 2) := by decide +kernel
theorem d_M_join_217 : decode c_M_join 217 = .ok (.aload_n 0, 1) := by decide +kernel
theorem d_M_join_218 : decode c_M_join 218 = .ok (.getfield 13, 3) := by decide +kernel
theorem d_M_join_221 : decode c_M_join 221 = .ok (.iload_n 2, 1) := by decide +kernel
theorem d_M_join_222 : decode c_M_join 222 = .ok (.laload, 1) := by decide +kernel
theorem d_M_join_223 : decode c_M_join 223 = .ok (.lmul, 1) := by decide +kernel
theorem d_M_join_224 : decode c_M_join 224 = .ok (.aload_n 0, 1) := by decide +kernel
theorem d_M_join_225 : decode c_M_join 225 = .ok (.getfield 29, 3) := by decide +kernel
theorem d_M_join_228 : decode c_M_join 228 = .ok (.iload_n 1, 1) := by decide +kernel
theorem d_M_join_229 : decode c_M_join 229 = .ok (.laload, 1) := by decide +kernel
theorem d_M_join_230 : decode c_M_join 230 = .ok (.lmul, 1) := by decide +kernel
theorem d_M_join_231 : decode c_M_join 231 = .ok (.iconst 0, 1) := by decide +kernel
theorem d_M_join_232 : decode c_M_join 232 = .ok (.invokevirtual 54, 3) := by decide +kernel
theorem d_M_join_235 : decode c_M_join 235 = .ok (.ireturn, 1) := by decide +kernel
theorem d_M_join_236 : decode c_M_join 236 = .ok (.iinc 7 1, 3) := by decide +kernel
theorem d_M_join_239 : decode c_M_join 239 = .ok (.goto (-128), 3) := by decide +kernel
theorem d_M_join_242 : decode c_M_join 242 = .ok (.aload_n 0, 1) := by decide +kernel
theorem d_M_join_243 : decode c_M_join 243 = .ok (.aload_n 0, 1) := by decide +kernel
theorem d_M_join_244 : decode c_M_join 244 = .ok (.getfield 26, 3) := by decide +kernel
theorem d_M_join_247 : decode c_M_join 247 = .ok (.iload 6, 2) := by decide +kernel
theorem d_M_join_249 : decode c_M_join 249 = .ok (.laload, 1) := by decide +kernel
theorem d_M_join_250 : decode c_M_join 250 = .ok (.aload_n 0, 1) := by decide +kernel
theorem d_M_join_251 : decode c_M_join 251 = .ok (.getfield 29, 3) := by decide +kernel
theorem d_M_join_254 : decode c_M_join 254 = .ok (.iload_n 1, 1) := by decide +kernel
theorem d_M_join_255 : decode c_M_join 255 = .ok (.laload, 1) := by decide +kernel
theorem d_M_join_256 : decode c_M_join 256 = .ok (.iconst 0, 1) := by decide +kernel
theorem d_M_join_257 : decode c_M_join 257 = .ok (.invokevirtual 54, 3) := by decide +kernel
theorem d_M_join_260 : decode c_M_join 260 = .ok (.ireturn, 1) := by decide +kernel
theorem d_M_weight_0 : decode c_M_weight 0 = .ok (.aload_n 0, 1) := by decide +kernel
theorem d_M_weight_1 : decode c_M_weight 1 = .ok (.iconst 0, 1) := by decide +kernel
theorem d_M_weight_2 : decode c_M_weight 2 = .ok (.putfield 35, 3) := by decide +kernel
theorem d_M_weight_5 : decode c_M_weight 5 = .ok (.aload_n 0, 1) := by decide +kernel
theorem d_M_weight_6 : decode c_M_weight 6 = .ok (.getfield 84, 3) := by decide +kernel
theorem d_M_weight_9 : decode c_M_weight 9 = .ok (.bipush 16, 2) := by decide +kernel
theorem d_M_weight_11 : decode c_M_weight 11 = .ok (.if_icmp .eq 17, 3) := by decide +kernel
theorem d_M_weight_14 : decode c_M_weight 14 = .ok (.lload_n 1, 1) := by decide +kernel
theorem d_M_weight_15 : decode c_M_weight 15 = .ok (.lconst 0, 1) := by decide +kernel
theorem d_M_weight_16 : decode c_M_weight 16 = .ok (.lcmp, 1) := by decide +kernel
theorem d_M_weight_17 : decode c_M_weight 17 = .ok (.ifCond .lt 11, 3) := by decide +kernel
theorem d_M_weight_20 : decode c_M_weight 20 = .ok (.lload_n 1, 1) := by decide +kernel
theorem d_M_weight_21 : decode c_M_weight 21 = .ok (.ldc2_w 87, 3) := by decide +kernel
theorem d_M_weight_24 : decode c_M_weight 24 = .ok (.lcmp, 1) := by decide +kernel
theorem d_M_weight_25 : decode c_M_weight 25 = .ok (.ifCond .le 5, 3) := by decide +kernel
theorem d_M_weight_28 : decode c_M_weight 28 = .ok (.iconst 0, 1) := by decide +kernel
theorem d_M_weight_29 : decode c_M_weight 29 = .ok (.ireturn, 1) := by decide +kernel
theorem d_M_weight_30 : decode c_M_weight 30 = .ok (.aload_n 0, 1) := by decide +kernel
theorem d_M_weight_31 : decode c_M_weight 31 = .ok (.getfield 32, 3) := by decide +kernel
theorem d_M_weight_34 : decode c_M_weight 34 = .ok (.aload_n 0, 1) := by decide +kernel
theorem d_M_weight_35 : decode c_M_weight 35 = .ok (.getfield 84, 3) := by decide +kernel
theorem d_M_weight_38 : decode c_M_weight 38 = .ok (.lload_n 1, 1) := by decide +kernel
theorem d_M_weight_39 : decode c_M_weight 39 = .ok (.lastore, 1) := by decide +kernel
theorem d_M_weight_40 : decode c_M_weight 40 = .ok (.aload_n 0, 1) := by decide +kernel
theorem d_M_weight_41 : decode c_M_weight 41 = .ok (.dup, 1) := by decide +kernel
theorem d_M_weight_42 : decode c_M_weight 42 = .ok (.getfield 84, 3) := by decide +kernel
theorem d_M_weight_45 : decode c_M_weight 45 = .ok (.iconst 1, 1) := by decide +kernel
theorem d_M_weight_46 : decode c_M_weight 46 = .ok (.iadd, 1) := by decide +kernel
theorem d_M_weight_47 : decode c_M_weight 47 = .ok (.putfield 84, 3) := by decide +kernel
theorem d_M_weight_50 : decode c_M_weight 50 = .ok (.iconst 1, 1) := by decide +kernel
theorem d_M_weight_51 : decode c_M_weight 51 = .ok (.ireturn, 1) := by decide +kernel
theorem d_M_share_0 : decode c_M_share 0 = .ok (.aload_n 0, 1) := by decide +kernel
theorem d_M_share_1 : decode c_M_share 1 = .ok (.iconst 0, 1) := by decide +kernel
theorem d_M_share_2 : decode c_M_share 2 = .ok (.putfield 35, 3) := by decide +kernel
theorem d_M_share_5 : decode c_M_share 5 = .ok (.aload_n 0, 1) := by decide +kernel
theorem d_M_share_6 : decode c_M_share 6 = .ok (.iload_n 1, 1) := by decide +kernel
theorem d_M_share_7 : decode c_M_share 7 = .ok (.invokevirtual 58, 3) := by decide +kernel
theorem d_M_share_10 : decode c_M_share 10 = .ok (.ifCond .eq 15, 3) := by decide +kernel
theorem d_M_share_13 : decode c_M_share 13 = .ok (.iload_n 2, 1) := by decide +kernel
theorem d_M_share_14 : decode c_M_share 14 = .ok (.ifCond .lt 11, 3) := by decide +kernel
theorem d_M_share_17 : decode c_M_share 17 = .ok (.iload_n 2, 1) := by decide +kernel
theorem d_M_share_18 : decode c_M_share 18 = .ok (.aload_n 0, 1) := by decide +kernel
theorem d_M_share_19 : decode c_M_share 19 = .ok (.getfield 84, 3) := by decide +kernel
theorem d_M_share_22 : decode c_M_share 22 = .ok (.if_icmp .lt 6, 3) := by decide +kernel
theorem d_M_share_25 : decode c_M_share 25 = .ok (.bipush (-3), 2) := by decide +kernel
theorem d_M_share_27 : decode c_M_share 27 = .ok (.ireturn, 1) := by decide +kernel
theorem d_M_share_28 : decode c_M_share 28 = .ok (.lconst 0, 1) := by decide +kernel
theorem d_M_share_29 : decode c_M_share 29 = .ok (.lstore_n 3, 1) := by decide +kernel
theorem d_M_share_30 : decode c_M_share 30 = .ok (.iconst 0, 1) := by decide +kernel
theorem d_M_share_31 : decode c_M_share 31 = .ok (.istore 5, 2) := by decide +kernel
theorem d_M_share_33 : decode c_M_share 33 = .ok (.iload 5, 2) := by decide +kernel
theorem d_M_share_35 : decode c_M_share 35 = .ok (.aload_n 0, 1) := by decide +kernel
theorem d_M_share_36 : decode c_M_share 36 = .ok (.getfield 84, 3) := by decide +kernel
theorem d_M_share_39 : decode c_M_share 39 = .ok (.if_icmp .ge 19, 3) := by decide +kernel
theorem d_M_share_42 : decode c_M_share 42 = .ok (.lload_n 3, 1) := by decide +kernel
theorem d_M_share_43 : decode c_M_share 43 = .ok (.aload_n 0, 1) := by decide +kernel
theorem d_M_share_44 : decode c_M_share 44 = .ok (.getfield 32, 3) := by decide +kernel
theorem d_M_share_47 : decode c_M_share 47 = .ok (.iload 5, 2) := by decide +kernel
theorem d_M_share_49 : decode c_M_share 49 = .ok (.laload, 1) := by decide +kernel
theorem d_M_share_50 : decode c_M_share 50 = .ok (.ladd, 1) := by decide +kernel
theorem d_M_share_51 : decode c_M_share 51 = .ok (.lstore_n 3, 1) := by decide +kernel
theorem d_M_share_52 : decode c_M_share 52 = .ok (.iinc 5 1, 3) := by decide +kernel
theorem d_M_share_55 : decode c_M_share 55 = .ok (.goto (-22), 3) := by decide +kernel
theorem d_M_share_58 : decode c_M_share 58 = .ok (.aload_n 0, 1) := by decide +kernel
theorem d_M_share_59 : decode c_M_share 59 = .ok (.getfield 7, 3) := by decide +kernel
theorem d_M_share_62 : decode c_M_share 62 = .ok (.iload_n 1, 1) := by decide +kernel
theorem d_M_share_63 : decode c_M_share 63 = .ok (.laload, 1) := by decide +kernel
theorem d_M_share_64 : decode c_M_share 64 = .ok (.lconst 0, 1) := by decide +kernel
theorem d_M_share_65 : decode c_M_share 65 = .ok (.lcmp, 1) := by decide +kernel
theorem d_M_share_66 : decode c_M_share 66 = .ok (.ifCond .lt 9, 3) := by decide +kernel
theorem d_M_share_69 : decode c_M_share 69 = .ok (.lload_n 3, 1) := by decide +kernel
theorem d_M_share_70 : decode c_M_share 70 = .ok (.lconst 0, 1) := by decide +kernel
theorem d_M_share_71 : decode c_M_share 71 = .ok (.lcmp, 1) := by decide +kernel
theorem d_M_share_72 : decode c_M_share 72 = .ok (.ifCond .ne 5, 3) := by decide +kernel
theorem d_M_share_75 : decode c_M_share 75 = .ok (.iconst (-1), 1) := by decide +kernel
theorem d_M_share_76 : decode c_M_share 76 = .ok (.ireturn, 1) := by decide +kernel
theorem d_M_share_77 : decode c_M_share 77 = .ok (.aload_n 0, 1) := by decide +kernel
theorem d_M_share_78 : decode c_M_share 78 = .ok (.getfield 7, 3) := by decide +kernel
theorem d_M_share_81 : decode c_M_share 81 = .ok (.iload_n 1, 1) := by decide +kernel
theorem d_M_share_82 : decode c_M_share 82 = .ok (.laload, 1) := by decide +kernel
theorem d_M_share_83 : decode c_M_share 83 = .ok (.ldc2_w 89, 3) := by decide +kernel
theorem d_M_share_86 : decode c_M_share 86 = .ok (.lmul, 1) := by decide +kernel
theorem d_M_share_87 : decode c_M_share 87 = .ok (.aload_n 0, 1) := by decide +kernel
theorem d_M_share_88 : decode c_M_share 88 = .ok (.getfield 13, 3) := by decide +kernel
theorem d_M_share_91 : decode c_M_share 91 = .ok (.iload_n 1, 1) := by decide +kernel
theorem d_M_share_92 : decode c_M_share 92 = .ok (.laload, 1) := by decide +kernel
theorem d_M_share_93 : decode c_M_share 93 = .ok (.ldiv, 1) := by decide +kernel
theorem d_M_share_94 : decode c_M_share 94 = .ok (.lstore 5, 2) := by decide +kernel
theorem d_M_share_96 : decode c_M_share 96 = .ok (.lload 5, 2) := by decide +kernel
theorem d_M_share_98 : decode c_M_share 98 = .ok (.lstore 7, 2) := by decide +kernel
theorem d_M_share_100 : decode c_M_share 100 = .ok (.lconst 0, 1) := by decide +kernel
theorem d_M_share_101 : decode c_M_share 101 = .ok (.lstore 9, 2) := by decide +kernel
theorem d_M_share_103 : decode c_M_share 103 = .ok (.lload 5, 2) := by decide +kernel
theorem d_M_share_105 : decode c_M_share 105 = .ok (.aload_n 0, 1) := by decide +kernel
theorem d_M_share_106 : decode c_M_share 106 = .ok (.getfield 32, 3) := by decide +kernel
theorem d_M_share_109 : decode c_M_share 109 = .ok (.iload_n 2, 1) := by decide +kernel
theorem d_M_share_110 : decode c_M_share 110 = .ok (.laload, 1) := by decide +kernel
theorem d_M_share_111 : decode c_M_share 111 = .ok (.lmul, 1) := by decide +kernel
theorem d_M_share_112 : decode c_M_share 112 = .ok (.lload_n 3, 1) := by decide +kernel
theorem d_M_share_113 : decode c_M_share 113 = .ok (.lrem, 1) := by decide +kernel
theorem d_M_share_114 : decode c_M_share 114 = .ok (.lstore 11, 2) := by decide +kernel
theorem d_M_share_116 : decode c_M_share 116 = .ok (.iconst 0, 1) := by decide +kernel
theorem d_M_share_117 : decode c_M_share 117 = .ok (.istore 13, 2) := by decide +kernel
theorem d_M_share_119 : decode c_M_share 119 = .ok (.iload 13, 2) := by decide +kernel
theorem d_M_share_121 : decode c_M_share 121 = .ok (.aload_n 0, 1) := by decide +kernel
theorem d_M_share_122 : decode c_M_share 122 = .ok (.getfield 84, 3) := by decide +kernel
theorem d_M_share_125 : decode c_M_share 125 = .ok (.if_icmp .ge 72, 3) := by decide +kernel
theorem d_M_share_128 : decode c_M_share 128 = .ok (.lload 7, 2) := by decide +kernel
theorem d_M_share_130 : decode c_M_share 130 = .ok (.lload 5, 2) := by decide +kernel
theorem d_M_share_132 : decode c_M_share 132 = .ok (.aload_n 0, 1) := by decide +kernel
theorem d_M_share_133 : decode c_M_share 133 = .ok (.getfield 32, 3) := by decide +kernel
theorem d_M_share_136 : decode c_M_share 136 = .ok (.iload 13, 2) := by decide +kernel
theorem d_M_share_138 : decode c_M_share 138 = .ok (.laload, 1) := by decide +kernel
theorem d_M_share_139 : decode c_M_share 139 = .ok (.lmul, 1) := by decide +kernel
theorem d_M_share_140 : decode c_M_share 140 = .ok (.lload_n 3, 1) := by decide +kernel
theorem d_M_share_141 : decode c_M_share 141 = .ok (.ldiv, 1) := by decide +kernel
theorem d_M_share_142 : decode c_M_share 142 = .ok (.lsub, 1) := by decide +kernel
theorem d_M_share_143 : decode c_M_share 143 = .ok (.lstore 7, 2) := by decide +kernel
theorem d_M_share_145 : decode c_M_share 145 = .ok (.lload 5, 2) := by decide +kernel
theorem d_M_share_147 : decode c_M_share 147 = .ok (.aload_n 0, 1) := by decide +kernel
theorem d_M_share_148 : decode c_M_share 148 = .ok (.getfield 32, 3) := by decide +kernel
theorem d_M_share_151 : decode c_M_share 151 = .ok (.iload 13, 2) := by decide +kernel
theorem d_M_share_153 : decode c_M_share 153 = .ok (.laload, 1) := by decide +kernel
theorem d_M_share_154 : decode c_M_share 154 = .ok (.lmul, 1) := by decide +kernel
theorem d_M_share_155 : decode c_M_share 155 = .ok (.lload_n 3, 1) := by decide +kernel
theorem d_M_share_156 : decode c_M_share 156 = .ok (.lrem, 1) := by decide +kernel
theorem d_M_share_157 : decode c_M_share 157 = .ok (.lstore 14, 2) := by decide +kernel
theorem d_M_share_159 : decode c_M_share 159 = .ok (.lload 9, 2) := by decide +kernel
theorem d_M_share_161 : decode c_M_share 161 = .ok (.lload 14, 2) := by decide +kernel
theorem d_M_share_163 : decode c_M_share 163 = .ok (.lload 11, 2) := by decide +kernel
theorem d_M_share_165 : decode c_M_share 165 = .ok (.lcmp, 1) := by decide +kernel
theorem d_M_share_166 : decode c_M_share 166 = .ok (.ifCond .gt 17, 3) := by decide +kernel
theorem d_M_share_169 : decode c_M_share 169 = .ok (.lload 14, 2) := by decide +kernel
theorem d_M_share_171 : decode c_M_share 171 = .ok (.lload 11, 2) := by decide +kernel
theorem d_M_share_173 : decode c_M_share 173 = .ok (.lcmp, 1) := by decide +kernel
theorem d_M_share_174 : decode c_M_share 174 = .ok (.ifCond .ne 13, 3) := by decide +kernel
theorem d_M_share_177 : decode c_M_share 177 = .ok (.iload 13, 2) := by decide +kernel
theorem d_M_share_179 : decode c_M_share 179 = .ok (.iload_n 2, 1) := by decide +kernel
theorem d_M_share_180 : decode c_M_share 180 = .ok (.if_icmp .ge 7, 3) := by decide +kernel
theorem d_M_share_183 : decode c_M_share 183 = .ok (.lconst 1, 1) := by decide +kernel
theorem d_M_share_184 : decode c_M_share 184 = .ok (.goto 4, 3) := by decide +kernel
theorem d_M_share_187 : decode c_M_share 187 = .ok (.lconst 0, 1) := by decide +kernel
theorem d_M_share_188 : decode c_M_share 188 = .ok (.ladd, 1) := by decide +kernel
theorem d_M_share_189 : decode c_M_share 189 = .ok (.lstore 9, 2) := by decide +kernel
theorem d_M_share_191 : decode c_M_share 191 = .ok (.iinc 13 1, 3) := by decide +kernel
theorem d_M_share_194 : decode c_M_share 194 = .ok (.goto (-75), 3) := by decide +kernel
theorem d_M_share_197 : decode c_M_share 197 = .ok (.lload 5, 2) := by decide +kernel
theorem d_M_share_199 : decode c_M_share 199 = .ok (.aload_n 0, 1) := by decide +kernel
theorem d_M_share_200 : decode c_M_share 200 = .ok (.getfield 32, 3) := by decide +kernel
theorem d_M_share_203 : decode c_M_share 203 = .ok (.iload_n 2, 1) := by decide +kernel
theorem d_M_share_204 : decode c_M_share 204 = .ok (.laload, 1) := by decide +kernel
theorem d_M_share_205 : decode c_M_share 205 = .ok (.lmul, 1) := by decide +kernel
theorem d_M_share_206 : decode c_M_share 206 = .ok (.lload_n 3, 1) := by decide +kernel
theorem d_M_share_207 : decode c_M_share 207 = .ok (.ldiv, 1) := by decide +kernel
theorem d_M_share_208 : decode c_M_share 208 = .ok (.lload 9, 2) := by decide +kernel
theorem d_M_share_210 : decode c_M_share 210 = .ok (.lload 7, 2) := by decide +kernel
theorem d_M_share_212 : decode c_M_share 212 = .ok (.lcmp, 1) := by decide +kernel
theorem d_M_share_213 : decode c_M_share 213 = .ok (.ifCond .ge 7, 3) := by decide +kernel
theorem d_M_share_216 : decode c_M_share 216 = .ok (.lconst 1, 1) := by decide +kernel
theorem d_M_share_217 : decode c_M_share 217 = .ok (.goto 4, 3) := by decide +kernel
theorem d_M_share_220 : decode c_M_share 220 = .ok (.lconst 0, 1) := by decide +kernel
theorem d_M_share_221 : decode c_M_share 221 = .ok (.ladd, 1) := by decide +kernel
theorem d_M_share_222 : decode c_M_share 222 = .ok (.lstore 13, 2) := by decide +kernel
theorem d_M_share_224 : decode c_M_share 224 = .ok (.iload_n 2, 1) := by decide +kernel
theorem d_M_share_225 : decode c_M_share 225 = .ok (.ifCond .ne 23, 3) := by decide +kernel
theorem d_M_share_228 : decode c_M_share 228 = .ok (.aload_n 0, 1) := by decide +kernel
theorem d_M_share_229 : decode c_M_share 229 = .ok (.getfield 7, 3) := by decide +kernel
theorem d_M_share_232 : decode c_M_share 232 = .ok (.iload_n 1, 1) := by decide +kernel
theorem d_M_share_233 : decode c_M_share 233 = .ok (.laload, 1) := by decide +kernel
theorem d_M_share_234 : decode c_M_share 234 = .ok (.ldc2_w 89, 3) := by decide +kernel
theorem d_M_share_237 : decode c_M_share 237 = .ok (.lmul, 1) := by decide +kernel
theorem d_M_share_238 : decode c_M_share 238 = .ok (.aload_n 0, 1) := by decide +kernel
theorem d_M_share_239 : decode c_M_share 239 = .ok (.getfield 13, 3) := by decide +kernel
theorem d_M_share_242 : decode c_M_share 242 = .ok (.iload_n 1, 1) := by decide +kernel
theorem d_M_share_243 : decode c_M_share 243 = .ok (.laload, 1) := by decide +kernel
theorem d_M_share_244 : decode c_M_share 244 = .ok (.lrem, 1) := by decide +kernel
theorem d_M_share_245 : decode c_M_share 245 = .ok (.goto 4, 3) := by decide +kernel
theorem d_M_share_248 : decode c_M_share 248 = .ok (.lconst 0, 1) := by decide +kernel
theorem d_M_share_249 : decode c_M_share 249 = .ok (.lstore 15, 2) := by decide +kernel
theorem d_M_share_251 : decode c_M_share 251 = .ok (.aload_n 0, 1) := by decide +kernel
theorem d_M_share_252 : decode c_M_share 252 = .ok (.lload 13, 2) := by decide +kernel
theorem d_M_share_254 : decode c_M_share 254 = .ok (.aload_n 0, 1) := by decide +kernel
theorem d_M_share_255 : decode c_M_share 255 = .ok (.getfield 13, 3) := by decide +kernel
theorem d_M_share_258 : decode c_M_share 258 = .ok (.iload_n 1, 1) := by decide +kernel
theorem d_M_share_259 : decode c_M_share 259 = .ok (.laload, 1) := by decide +kernel
theorem d_M_share_260 : decode c_M_share 260 = .ok (.lmul, 1) := by decide +kernel
theorem d_M_share_261 : decode c_M_share 261 = .ok (.lload 15, 2) := by decide +kernel
theorem d_M_share_263 : decode c_M_share 263 = .ok (.ladd, 1) := by decide +kernel
theorem d_M_share_264 : decode c_M_share 264 = .ok (.ldc2_w 89, 3) := by decide +kernel
theorem d_M_share_267 : decode c_M_share 267 = .ok (.aload_n 0, 1) := by decide +kernel
theorem d_M_share_268 : decode c_M_share 268 = .ok (.getfield 13, 3) := by decide +kernel
theorem d_M_share_271 : decode c_M_share 271 = .ok (.iload_n 1, 1) := by decide +kernel
theorem d_M_share_272 : decode c_M_share 272 = .ok (.laload, 1) := by decide +kernel
theorem d_M_share_273 : decode c_M_share 273 = .ok (.lmul, 1) := by decide +kernel
theorem d_M_share_274 : decode c_M_share 274 = .ok (.aload_n 0, 1) := by decide +kernel
theorem d_M_share_275 : decode c_M_share 275 = .ok (.getfield 16, 3) := by decide +kernel
theorem d_M_share_278 : decode c_M_share 278 = .ok (.iload_n 1, 1) := by decide +kernel
theorem d_M_share_279 : decode c_M_share 279 = .ok (.iaload, 1) := by decide +kernel
theorem d_M_share_280 : decode c_M_share 280 = .ok (.invokevirtual 54, 3) := by decide +kernel
theorem d_M_share_283 : decode c_M_share 283 = .ok (.ireturn, 1) := by decide +kernel
theorem d_M_digit_0 : decode c_M_digit 0 = .ok (.aload_n 0, 1) := by decide +kernel
theorem d_M_digit_1 : decode c_M_digit 1 = .ok (.iconst 0, 1) := by decide +kernel
theorem d_M_digit_2 : decode c_M_digit 2 = .ok (.putfield 35, 3) := by decide +kernel
theorem d_M_digit_5 : decode c_M_digit 5 = .ok (.aload_n 0, 1) := by decide +kernel
theorem d_M_digit_6 : decode c_M_digit 6 = .ok (.iload_n 1, 1) := by decide +kernel
theorem d_M_digit_7 : decode c_M_digit 7 = .ok (.invokevirtual 58, 3) := by decide +kernel
theorem d_M_digit_10 : decode c_M_digit 10 = .ok (.ifCond .ne 6, 3) := by decide +kernel
theorem d_M_digit_13 : decode c_M_digit 13 = .ok (.bipush (-3), 2) := by decide +kernel
theorem d_M_digit_15 : decode c_M_digit 15 = .ok (.ireturn, 1) := by decide +kernel
theorem d_M_digit_16 : decode c_M_digit 16 = .ok (.aload_n 0, 1) := by decide +kernel
theorem d_M_digit_17 : decode c_M_digit 17 = .ok (.getfield 7, 3) := by decide +kernel
theorem d_M_digit_20 : decode c_M_digit 20 = .ok (.iload_n 1, 1) := by decide +kernel
theorem d_M_digit_21 : decode c_M_digit 21 = .ok (.laload, 1) := by decide +kernel
theorem d_M_digit_22 : decode c_M_digit 22 = .ok (.lconst 0, 1) := by decide +kernel
theorem d_M_digit_23 : decode c_M_digit 23 = .ok (.lcmp, 1) := by decide +kernel
theorem d_M_digit_24 : decode c_M_digit 24 = .ok (.ifCond .ge 13, 3) := by decide +kernel
theorem d_M_digit_27 : decode c_M_digit 27 = .ok (.aload_n 0, 1) := by decide +kernel
theorem d_M_digit_28 : decode c_M_digit 28 = .ok (.getfield 7, 3) := by decide +kernel
theorem d_M_digit_31 : decode c_M_digit 31 = .ok (.iload_n 1, 1) := by decide +kernel
theorem d_M_digit_32 : decode c_M_digit 32 = .ok (.laload, 1) := by decide +kernel
theorem d_M_digit_33 : decode c_M_digit 33 = .ok (.lneg, 1) := by decide +kernel
theorem d_M_digit_34 : decode c_M_digit 34 = .ok (.goto 9, 3) := by decide +kernel
theorem d_M_digit_37 : decode c_M_digit 37 = .ok (.aload_n 0, 1) := by decide +kernel
theorem d_M_digit_38 : decode c_M_digit 38 = .ok (.getfield 7, 3) := by decide +kernel
theorem d_M_digit_41 : decode c_M_digit 41 = .ok (.iload_n 1, 1) := by decide +kernel
theorem d_M_digit_42 : decode c_M_digit 42 = .ok (.laload, 1) := by decide +kernel
theorem d_M_digit_43 : decode c_M_digit 43 = .ok (.lstore 4, 2) := by decide +kernel
theorem d_M_digit_45 : decode c_M_digit 45 = .ok (.iload_n 2, 1) := by decide +kernel
theorem d_M_digit_46 : decode c_M_digit 46 = .ok (.ifCond .ne 112, 3) := by decide +kernel
theorem d_M_digit_49 : decode c_M_digit 49 = .ok (.lload 4, 2) := by decide +kernel
theorem d_M_digit_51 : decode c_M_digit 51 = .ok (.aload_n 0, 1) := by decide +kernel
theorem d_M_digit_52 : decode c_M_digit 52 = .ok (.getfield 13, 3) := by decide +kernel
theorem d_M_digit_55 : decode c_M_digit 55 = .ok (.iload_n 1, 1) := by decide +kernel
theorem d_M_digit_56 : decode c_M_digit 56 = .ok (.laload, 1) := by decide +kernel
theorem d_M_digit_57 : decode c_M_digit 57 = .ok (.ldiv, 1) := by decide +kernel
theorem d_M_digit_58 : decode c_M_digit 58 = .ok (.lstore 6, 2) := by decide +kernel
theorem d_M_digit_60 : decode c_M_digit 60 = .ok (.iconst 1, 1) := by decide +kernel
theorem d_M_digit_61 : decode c_M_digit 61 = .ok (.istore 8, 2) := by decide +kernel
theorem d_M_digit_63 : decode c_M_digit 63 = .ok (.lload 6, 2) := by decide +kernel
theorem d_M_digit_65 : decode c_M_digit 65 = .ok (.lstore 9, 2) := by decide +kernel
theorem d_M_digit_67 : decode c_M_digit 67 = .ok (.lload 9, 2) := by decide +kernel
theorem d_M_digit_69 : decode c_M_digit 69 = .ok (.ldc2_w 91, 3) := by decide +kernel
theorem d_M_digit_72 : decode c_M_digit 72 = .ok (.lcmp, 1) := by decide +kernel
theorem d_M_digit_73 : decode c_M_digit 73 = .ok (.ifCond .le 17, 3) := by decide +kernel
theorem d_M_digit_76 : decode c_M_digit 76 = .ok (.iinc 8 1, 3) := by decide +kernel
theorem d_M_digit_79 : decode c_M_digit 79 = .ok (.lload 9, 2) := by decide +kernel
theorem d_M_digit_81 : decode c_M_digit 81 = .ok (.ldc2_w 93, 3) := by decide +kernel
theorem d_M_digit_84 : decode c_M_digit 84 = .ok (.ldiv, 1) := by decide +kernel
theorem d_M_digit_85 : decode c_M_digit 85 = .ok (.lstore 9, 2) := by decide +kernel
theorem d_M_digit_87 : decode c_M_digit 87 = .ok (.goto (-20), 3) := by decide +kernel
theorem d_M_digit_90 : decode c_M_digit 90 = .ok (.aload_n 0, 1) := by decide +kernel
theorem d_M_digit_91 : decode c_M_digit 91 = .ok (.iload_n 3, 1) := by decide +kernel
theorem d_M_digit_92 : decode c_M_digit 92 = .ok (.ifCond .lt 9, 3) := by decide +kernel
theorem d_M_digit_95 : decode c_M_digit 95 = .ok (.iload_n 3, 1) := by decide +kernel
theorem d_M_digit_96 : decode c_M_digit 96 = .ok (.iload 8, 2) := by decide +kernel
theorem d_M_digit_98 : decode c_M_digit 98 = .ok (.if_icmp .lt 7, 3) := by decide +kernel
theorem d_M_digit_101 : decode c_M_digit 101 = .ok (.iconst 1, 1) := by decide +kernel
theorem d_M_digit_102 : decode c_M_digit 102 = .ok (.goto 4, 3) := by decide +kernel
theorem d_M_digit_105 : decode c_M_digit 105 = .ok (.iconst 0, 1) := by decide +kernel
theorem d_M_digit_106 : decode c_M_digit 106 = .ok (.putfield 35, 3) := by decide +kernel
theorem d_M_digit_109 : decode c_M_digit 109 = .ok (.iconst 0, 1) := by decide +kernel
theorem d_M_digit_110 : decode c_M_digit 110 = .ok (.istore 9, 2) := by decide +kernel
theorem d_M_digit_112 : decode c_M_digit 112 = .ok (.iload 9, 2) := by decide +kernel
theorem d_M_digit_114 : decode c_M_digit 114 = .ok (.iload_n 3, 1) := by decide +kernel
theorem d_M_digit_115 : decode c_M_digit 115 = .ok (.if_icmp .ge 24, 3) := by decide +kernel
theorem d_M_digit_118 : decode c_M_digit 118 = .ok (.aload_n 0, 1) := by decide +kernel
theorem d_M_digit_119 : decode c_M_digit 119 = .ok (.getfield 35, 3) := by decide +kernel
theorem d_M_digit_122 : decode c_M_digit 122 = .ok (.ifCond .ne 17, 3) := by decide +kernel
theorem d_M_digit_125 : decode c_M_digit 125 = .ok (.lload 6, 2) := by decide +kernel
theorem d_M_digit_127 : decode c_M_digit 127 = .ok (.ldc2_w 93, 3) := by decide +kernel
theorem d_M_digit_130 : decode c_M_digit 130 = .ok (.ldiv, 1) := by decide +kernel
theorem d_M_digit_131 : decode c_M_digit 131 = .ok (.lstore 6, 2) := by decide +kernel
theorem d_M_digit_133 : decode c_M_digit 133 = .ok (.iinc 9 1, 3) := by decide +kernel
theorem d_M_digit_136 : decode c_M_digit 136 = .ok (.goto (-24), 3) := by decide +kernel
theorem d_M_digit_139 : decode c_M_digit 139 = .ok (.aload_n 0, 1) := by decide +kernel
theorem d_M_digit_140 : decode c_M_digit 140 = .ok (.getfield 35, 3) := by decide +kernel
theorem d_M_digit_143 : decode c_M_digit 143 = .ok (.ifCond .le 7, 3) := by decide +kernel
theorem d_M_digit_146 : decode c_M_digit 146 = .ok (.iconst 0, 1) := by decide +kernel
theorem d_M_digit_147 : decode c_M_digit 147 = .ok (.goto 10, 3) := by decide +kernel
theorem d_M_digit_150 : decode c_M_digit 150 = .ok (.lload 6, 2) := by decide +kernel
theorem d_M_digit_152 : decode c_M_digit 152 = .ok (.ldc2_w 93, 3) := by decide +kernel
theorem d_M_digit_155 : decode c_M_digit 155 = .ok (.lrem, 1) := by decide +kernel
theorem d_M_digit_156 : decode c_M_digit 156 = .ok (.l2i, 1) := by decide +kernel
theorem d_M_digit_157 : decode c_M_digit 157 = .ok (.ireturn, 1) := by decide +kernel
theorem d_M_digit_158 : decode c_M_digit 158 = .ok (.lload 4, 2) := by decide +kernel
theorem d_M_digit_160 : decode c_M_digit 160 = .ok (.aload_n 0, 1) := by decide +kernel
theorem d_M_digit_161 : decode c_M_digit 161 = .ok (.getfield 13, 3) := by decide +kernel
theorem d_M_digit_164 : decode c_M_digit 164 = .ok (.iload_n 1, 1) := by decide +kernel
theorem d_M_digit_165 : decode c_M_digit 165 = .ok (.laload, 1) := by decide +kernel
theorem d_M_digit_166 : decode c_M_digit 166 = .ok (.lrem, 1) := by decide +kernel
theorem d_M_digit_167 : decode c_M_digit 167 = .ok (.lstore 6, 2) := by decide +kernel
theorem d_M_digit_169 : decode c_M_digit 169 = .ok (.iconst 0, 1) := by decide +kernel
theorem d_M_digit_170 : decode c_M_digit 170 = .ok (.istore 8, 2) := by decide +kernel
theorem d_M_digit_172 : decode c_M_digit 172 = .ok (.iload 8, 2) := by decide +kernel
theorem d_M_digit_174 : decode c_M_digit 174 = .ok (.bipush 30, 2) := by decide +kernel
theorem d_M_digit_176 : decode c_M_digit 176 = .ok (.if_icmp .ge 52, 3) := by decide +kernel
theorem d_M_digit_179 : decode c_M_digit 179 = .ok (.lload 6, 2) := by decide +kernel
theorem d_M_digit_181 : decode c_M_digit 181 = .ok (.lconst 0, 1) := by decide +kernel
theorem d_M_digit_182 : decode c_M_digit 182 = .ok (.lcmp, 1) := by decide +kernel
theorem d_M_digit_183 : decode c_M_digit 183 = .ok (.ifCond .le 45, 3) := by decide +kernel
theorem d_M_digit_186 : decode c_M_digit 186 = .ok (.lload 6, 2) := by decide +kernel
theorem d_M_digit_188 : decode c_M_digit 188 = .ok (.ldc2_w 93, 3) := by decide +kernel
theorem d_M_digit_191 : decode c_M_digit 191 = .ok (.lmul, 1) := by decide +kernel
theorem d_M_digit_192 : decode c_M_digit 192 = .ok (.lstore 6, 2) := by decide +kernel
theorem d_M_digit_194 : decode c_M_digit 194 = .ok (.iload 8, 2) := by decide +kernel
theorem d_M_digit_196 : decode c_M_digit 196 = .ok (.iload_n 3, 1) := by decide +kernel
theorem d_M_digit_197 : decode c_M_digit 197 = .ok (.if_icmp .ne 14, 3) := by decide +kernel
theorem d_M_digit_200 : decode c_M_digit 200 = .ok (.lload 6, 2) := by decide +kernel
theorem d_M_digit_202 : decode c_M_digit 202 = .ok (.aload_n 0, 1) := by decide +kernel
theorem d_M_digit_203 : decode c_M_digit 203 = .ok (.getfield 13, 3) := by decide +kernel
theorem d_M_digit_206 : decode c_M_digit 206 = .ok (.iload_n 1, 1) := by decide +kernel
theorem d_M_digit_207 : decode c_M_digit 207 = .ok (.laload, 1) := by decide +kernel
theorem d_M_digit_208 : decode c_M_digit 208 = .ok (.ldiv, 1) := by decide +kernel
theorem d_M_digit_209 : decode c_M_digit 209 = .ok (.l2i, 1) := by decide +kernel
theorem d_M_digit_210 : decode c_M_digit 210 = .ok (.ireturn, 1) := by decide +kernel
theorem d_M_digit_211 : decode c_M_digit 211 = .ok (.lload 6, 2) := by decide +kernel
theorem d_M_digit_213 : decode c_M_digit 213 = .ok (.aload_n 0, 1) := by decide +kernel
theorem d_M_digit_214 : decode c_M_digit 214 = .ok (.getfield 13, 3) := by decide +kernel
theorem d_M_digit_217 : decode c_M_digit 217 = .ok (.iload_n 1, 1) := by decide +kernel
theorem d_M_digit_218 : decode c_M_digit 218 = .ok (.laload, 1) := by decide +kernel
theorem d_M_digit_219 : decode c_M_digit 219 = .ok (.lrem, 1) := by decide +kernel
theorem d_M_digit_220 : decode c_M_digit 220 = .ok (.lstore 6, 2) := by decide +kernel
theorem d_M_digit_222 : decode c_M_digit 222 = .ok (.iinc 8 1, 3) := by decide +kernel
theorem d_M_digit_225 : decode c_M_digit 225 = .ok (.goto (-53), 3) := by decide +kernel
theorem d_M_digit_228 : decode c_M_digit 228 = .ok (.aload_n 0, 1) := by decide +kernel
theorem d_M_digit_229 : decode c_M_digit 229 = .ok (.iconst 1, 1) := by decide +kernel
theorem d_M_digit_230 : decode c_M_digit 230 = .ok (.putfield 35, 3) := by decide +kernel
theorem d_M_digit_233 : decode c_M_digit 233 = .ok (.iconst 0, 1) := by decide +kernel
theorem d_M_digit_234 : decode c_M_digit 234 = .ok (.ireturn, 1) := by decide +kernel
theorem d_M_told_0 : decode c_M_told 0 = .ok (.aload_n 0, 1) := by decide +kernel
theorem d_M_told_1 : decode c_M_told 1 = .ok (.iconst 0, 1) := by decide +kernel
theorem d_M_told_2 : decode c_M_told 2 = .ok (.putfield 35, 3) := by decide +kernel
theorem d_M_told_5 : decode c_M_told 5 = .ok (.iload_n 2, 1) := by decide +kernel
theorem d_M_told_6 : decode c_M_told 6 = .ok (.tableswitch 137 0 5 #[38, 59, 80, 102, 108, 114], 38) := by decide +kernel
theorem d_M_told_44 : decode c_M_told 44 = .ok (.aload_n 0, 1) := by decide +kernel
theorem d_M_told_45 : decode c_M_told 45 = .ok (.iload_n 1, 1) := by decide +kernel
theorem d_M_told_46 : decode c_M_told 46 = .ok (.invokevirtual 58, 3) := by decide +kernel
theorem d_M_told_49 : decode c_M_told 49 = .ok (.ifCond .eq 12, 3) := by decide +kernel
theorem d_M_told_52 : decode c_M_told 52 = .ok (.aload_n 0, 1) := by decide +kernel
theorem d_M_told_53 : decode c_M_told 53 = .ok (.getfield 7, 3) := by decide +kernel
theorem d_M_told_56 : decode c_M_told 56 = .ok (.iload_n 1, 1) := by decide +kernel
theorem d_M_told_57 : decode c_M_told 57 = .ok (.laload, 1) := by decide +kernel
theorem d_M_told_58 : decode c_M_told 58 = .ok (.goto 6, 3) := by decide +kernel
theorem d_M_told_61 : decode c_M_told 61 = .ok (.ldc2_w 95, 3) := by decide +kernel
theorem d_M_told_64 : decode c_M_told 64 = .ok (.lreturn, 1) := by decide +kernel
theorem d_M_told_65 : decode c_M_told 65 = .ok (.aload_n 0, 1) := by decide +kernel
theorem d_M_told_66 : decode c_M_told 66 = .ok (.iload_n 1, 1) := by decide +kernel
theorem d_M_told_67 : decode c_M_told 67 = .ok (.invokevirtual 58, 3) := by decide +kernel
theorem d_M_told_70 : decode c_M_told 70 = .ok (.ifCond .eq 12, 3) := by decide +kernel
theorem d_M_told_73 : decode c_M_told 73 = .ok (.aload_n 0, 1) := by decide +kernel
theorem d_M_told_74 : decode c_M_told 74 = .ok (.getfield 13, 3) := by decide +kernel
theorem d_M_told_77 : decode c_M_told 77 = .ok (.iload_n 1, 1) := by decide +kernel
theorem d_M_told_78 : decode c_M_told 78 = .ok (.laload, 1) := by decide +kernel
theorem d_M_told_79 : decode c_M_told 79 = .ok (.goto 6, 3) := by decide +kernel
theorem d_M_told_82 : decode c_M_told 82 = .ok (.ldc2_w 95, 3) := by decide +kernel
theorem d_M_told_85 : decode c_M_told 85 = .ok (.lreturn, 1) := by decide +kernel
theorem d_M_told_86 : decode c_M_told 86 = .ok (.aload_n 0, 1) := by decide +kernel
theorem d_M_told_87 : decode c_M_told 87 = .ok (.iload_n 1, 1) := by decide +kernel
theorem d_M_told_88 : decode c_M_told 88 = .ok (.invokevirtual 58, 3) := by decide +kernel
theorem d_M_told_91 : decode c_M_told 91 = .ok (.ifCond .eq 13, 3) := by decide +kernel
theorem d_M_told_94 : decode c_M_told 94 = .ok (.aload_n 0, 1) := by decide +kernel
theorem d_M_told_95 : decode c_M_told 95 = .ok (.getfield 16, 3) := by decide +kernel
theorem d_M_told_98 : decode c_M_told 98 = .ok (.iload_n 1, 1) := by decide +kernel
theorem d_M_told_99 : decode c_M_told 99 = .ok (.iaload, 1) := by decide +kernel
theorem d_M_told_100 : decode c_M_told 100 = .ok (.i2l, 1) := by decide +kernel
theorem d_M_told_101 : decode c_M_told 101 = .ok (.goto 6, 3) := by decide +kernel
theorem d_M_told_104 : decode c_M_told 104 = .ok (.ldc2_w 95, 3) := by decide +kernel
theorem d_M_told_107 : decode c_M_told 107 = .ok (.lreturn, 1) := by decide +kernel
theorem d_M_told_108 : decode c_M_told 108 = .ok (.aload_n 0, 1) := by decide +kernel
theorem d_M_told_109 : decode c_M_told 109 = .ok (.getfield 39, 3) := by decide +kernel
theorem d_M_told_112 : decode c_M_told 112 = .ok (.i2l, 1) := by decide +kernel
theorem d_M_told_113 : decode c_M_told 113 = .ok (.lreturn, 1) := by decide +kernel
theorem d_M_told_114 : decode c_M_told 114 = .ok (.aload_n 0, 1) := by decide +kernel
theorem d_M_told_115 : decode c_M_told 115 = .ok (.getfield 84, 3) := by decide +kernel
theorem d_M_told_118 : decode c_M_told 118 = .ok (.i2l, 1) := by decide +kernel
theorem d_M_told_119 : decode c_M_told 119 = .ok (.lreturn, 1) := by decide +kernel
theorem d_M_told_120 : decode c_M_told 120 = .ok (.iload_n 1, 1) := by decide +kernel
theorem d_M_told_121 : decode c_M_told 121 = .ok (.ifCond .lt 18, 3) := by decide +kernel
theorem d_M_told_124 : decode c_M_told 124 = .ok (.iload_n 1, 1) := by decide +kernel
theorem d_M_told_125 : decode c_M_told 125 = .ok (.iconst 4, 1) := by decide +kernel
theorem d_M_told_126 : decode c_M_told 126 = .ok (.if_icmp .ge 13, 3) := by decide +kernel
theorem d_M_told_129 : decode c_M_told 129 = .ok (.aload_n 0, 1) := by decide +kernel
theorem d_M_told_130 : decode c_M_told 130 = .ok (.getfield 20, 3) := by decide +kernel
theorem d_M_told_133 : decode c_M_told 133 = .ok (.iload_n 1, 1) := by decide +kernel
theorem d_M_told_134 : decode c_M_told 134 = .ok (.iaload, 1) := by decide +kernel
theorem d_M_told_135 : decode c_M_told 135 = .ok (.i2l, 1) := by decide +kernel
theorem d_M_told_136 : decode c_M_told 136 = .ok (.goto 6, 3) := by decide +kernel
theorem d_M_told_139 : decode c_M_told 139 = .ok (.ldc2_w 95, 3) := by decide +kernel
theorem d_M_told_142 : decode c_M_told 142 = .ok (.lreturn, 1) := by decide +kernel
theorem d_M_told_143 : decode c_M_told 143 = .ok (.ldc2_w 95, 3) := by decide +kernel
theorem d_M_told_146 : decode c_M_told 146 = .ok (.lreturn, 1) := by decide +kernel
theorem d_M_clear_0 : decode c_M_clear 0 = .ok (.aload_n 0, 1) := by decide +kernel
theorem d_M_clear_1 : decode c_M_clear 1 = .ok (.iconst 0, 1) := by decide +kernel
theorem d_M_clear_2 : decode c_M_clear 2 = .ok (.putfield 35, 3) := by decide +kernel
theorem d_M_clear_5 : decode c_M_clear 5 = .ok (.aload_n 0, 1) := by decide +kernel
theorem d_M_clear_6 : decode c_M_clear 6 = .ok (.iconst 0, 1) := by decide +kernel
theorem d_M_clear_7 : decode c_M_clear 7 = .ok (.putfield 39, 3) := by decide +kernel
theorem d_M_clear_10 : decode c_M_clear 10 = .ok (.aload_n 0, 1) := by decide +kernel
theorem d_M_clear_11 : decode c_M_clear 11 = .ok (.iconst 0, 1) := by decide +kernel
theorem d_M_clear_12 : decode c_M_clear 12 = .ok (.putfield 84, 3) := by decide +kernel
theorem d_M_clear_15 : decode c_M_clear 15 = .ok (.iconst 0, 1) := by decide +kernel
theorem d_M_clear_16 : decode c_M_clear 16 = .ok (.istore_n 1, 1) := by decide +kernel
theorem d_M_clear_17 : decode c_M_clear 17 = .ok (.iload_n 1, 1) := by decide +kernel
theorem d_M_clear_18 : decode c_M_clear 18 = .ok (.iconst 4, 1) := by decide +kernel
theorem d_M_clear_19 : decode c_M_clear 19 = .ok (.if_icmp .ge 16, 3) := by decide +kernel
theorem d_M_clear_22 : decode c_M_clear 22 = .ok (.aload_n 0, 1) := by decide +kernel
theorem d_M_clear_23 : decode c_M_clear 23 = .ok (.getfield 20, 3) := by decide +kernel
theorem d_M_clear_26 : decode c_M_clear 26 = .ok (.iload_n 1, 1) := by decide +kernel
theorem d_M_clear_27 : decode c_M_clear 27 = .ok (.iconst 0, 1) := by decide +kernel
theorem d_M_clear_28 : decode c_M_clear 28 = .ok (.iastore, 1) := by decide +kernel
theorem d_M_clear_29 : decode c_M_clear 29 = .ok (.iinc 1 1, 3) := by decide +kernel
theorem d_M_clear_32 : decode c_M_clear 32 = .ok (.goto (-15), 3) := by decide +kernel
theorem d_M_clear_35 : decode c_M_clear 35 = .ok (.return_, 1) := by decide +kernel
