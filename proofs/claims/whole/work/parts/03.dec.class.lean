theorem d_X_init_0 : decode c_X_init 0 = .ok (.aload_n 0, 1) := by decide +kernel
theorem d_X_init_1 : decode c_X_init 1 = .ok (.invokespecial 1, 3) := by decide +kernel
theorem d_X_init_4 : decode c_X_init 4 = .ok (.aload_n 0, 1) := by decide +kernel
theorem d_X_init_5 : decode c_X_init 5 = .ok (.sipush 500, 3) := by decide +kernel
theorem d_X_init_8 : decode c_X_init 8 = .ok (.newarray .long, 2) := by decide +kernel
theorem d_X_init_10 : decode c_X_init 10 = .ok (.putfield 9, 3) := by decide +kernel
theorem d_X_init_13 : decode c_X_init 13 = .ok (.aload_n 0, 1) := by decide +kernel
theorem d_X_init_14 : decode c_X_init 14 = .ok (.sipush 500, 3) := by decide +kernel
theorem d_X_init_17 : decode c_X_init 17 = .ok (.newarray .long, 2) := by decide +kernel
theorem d_X_init_19 : decode c_X_init 19 = .ok (.putfield 13, 3) := by decide +kernel
theorem d_X_init_22 : decode c_X_init 22 = .ok (.aload_n 0, 1) := by decide +kernel
theorem d_X_init_23 : decode c_X_init 23 = .ok (.sipush 500, 3) := by decide +kernel
theorem d_X_init_26 : decode c_X_init 26 = .ok (.newarray .int, 2) := by decide +kernel
theorem d_X_init_28 : decode c_X_init 28 = .ok (.putfield 16, 3) := by decide +kernel
theorem d_X_init_31 : decode c_X_init 31 = .ok (.aload_n 0, 1) := by decide +kernel
theorem d_X_init_32 : decode c_X_init 32 = .ok (.bipush 16, 2) := by decide +kernel
theorem d_X_init_34 : decode c_X_init 34 = .ok (.newarray .long, 2) := by decide +kernel
theorem d_X_init_36 : decode c_X_init 36 = .ok (.putfield 20, 3) := by decide +kernel
theorem d_X_init_39 : decode c_X_init 39 = .ok (.aload_n 0, 1) := by decide +kernel
theorem d_X_init_40 : decode c_X_init 40 = .ok (.iconst 4, 1) := by decide +kernel
theorem d_X_init_41 : decode c_X_init 41 = .ok (.anewarray 23, 3) := by decide +kernel
theorem d_X_init_44 : decode c_X_init 44 = .ok (.putfield 25, 3) := by decide +kernel
theorem d_X_init_47 : decode c_X_init 47 = .ok (.iconst 0, 1) := by decide +kernel
theorem d_X_init_48 : decode c_X_init 48 = .ok (.istore_n 1, 1) := by decide +kernel
theorem d_X_init_49 : decode c_X_init 49 = .ok (.iload_n 1, 1) := by decide +kernel
theorem d_X_init_50 : decode c_X_init 50 = .ok (.iconst 4, 1) := by decide +kernel
theorem d_X_init_51 : decode c_X_init 51 = .ok (.if_icmp .ge 22, 3) := by decide +kernel
theorem d_X_init_54 : decode c_X_init 54 = .ok (.aload_n 0, 1) := by decide +kernel
theorem d_X_init_55 : decode c_X_init 55 = .ok (.getfield 25, 3) := by decide +kernel
theorem d_X_init_58 : decode c_X_init 58 = .ok (.iload_n 1, 1) := by decide +kernel
theorem d_X_init_59 : decode c_X_init 59 = .ok (.new 23, 3) := by decide +kernel
theorem d_X_init_62 : decode c_X_init 62 = .ok (.dup, 1) := by decide +kernel
theorem d_X_init_63 : decode c_X_init 63 = .ok (.invokespecial 29, 3) := by decide +kernel
theorem d_X_init_66 : decode c_X_init 66 = .ok (.aastore, 1) := by decide +kernel
theorem d_X_init_67 : decode c_X_init 67 = .ok (.iinc 1 1, 3) := by decide +kernel
theorem d_X_init_70 : decode c_X_init 70 = .ok (.goto (-21), 3) := by decide +kernel
theorem d_X_init_73 : decode c_X_init 73 = .ok (.return_, 1) := by decide +kernel
theorem d_X_value_0 : decode c_X_value 0 = .ok (.lload_n 3, 1) := by decide +kernel
theorem d_X_value_1 : decode c_X_value 1 = .ok (.lconst 0, 1) := by decide +kernel
theorem d_X_value_2 : decode c_X_value 2 = .ok (.lcmp, 1) := by decide +kernel
theorem d_X_value_3 : decode c_X_value 3 = .ok (.ifCond .ne 13, 3) := by decide +kernel
theorem d_X_value_6 : decode c_X_value 6 = .ok (.new 30, 3) := by decide +kernel
theorem d_X_value_9 : decode c_X_value 9 = .ok (.dup, 1) := by decide +kernel
theorem d_X_value_10 : decode c_X_value 10 = .ok (.ldc 32, 2) := by decide +kernel
theorem d_X_value_12 : decode c_X_value 12 = .ok (.invokespecial 34, 3) := by decide +kernel
theorem d_X_value_15 : decode c_X_value 15 = .ok (.athrow, 1) := by decide +kernel
theorem d_X_value_16 : decode c_X_value 16 = .ok (.iload 5, 2) := by decide +kernel
theorem d_X_value_18 : decode c_X_value 18 = .ok (.ifCond .lt 23, 3) := by decide +kernel
theorem d_X_value_21 : decode c_X_value 21 = .ok (.iload 5, 2) := by decide +kernel
theorem d_X_value_23 : decode c_X_value 23 = .ok (.iconst 4, 1) := by decide +kernel
theorem d_X_value_24 : decode c_X_value 24 = .ok (.if_icmp .gt 17, 3) := by decide +kernel
theorem d_X_value_27 : decode c_X_value 27 = .ok (.lload_n 1, 1) := by decide +kernel
theorem d_X_value_28 : decode c_X_value 28 = .ok (.invokestatic 37, 3) := by decide +kernel
theorem d_X_value_31 : decode c_X_value 31 = .ok (.ifCond .ne 10, 3) := by decide +kernel
theorem d_X_value_34 : decode c_X_value 34 = .ok (.lload_n 3, 1) := by decide +kernel
theorem d_X_value_35 : decode c_X_value 35 = .ok (.invokestatic 37, 3) := by decide +kernel
theorem d_X_value_38 : decode c_X_value 38 = .ok (.ifCond .eq 6, 3) := by decide +kernel
theorem d_X_value_41 : decode c_X_value 41 = .ok (.bipush (-3), 2) := by decide +kernel
theorem d_X_value_43 : decode c_X_value 43 = .ok (.ireturn, 1) := by decide +kernel
theorem d_X_value_44 : decode c_X_value 44 = .ok (.aload_n 0, 1) := by decide +kernel
theorem d_X_value_45 : decode c_X_value 45 = .ok (.lload_n 1, 1) := by decide +kernel
theorem d_X_value_46 : decode c_X_value 46 = .ok (.lload_n 3, 1) := by decide +kernel
theorem d_X_value_47 : decode c_X_value 47 = .ok (.iload 5, 2) := by decide +kernel
theorem d_X_value_49 : decode c_X_value 49 = .ok (.invokevirtual 41, 3) := by decide +kernel
theorem d_X_value_52 : decode c_X_value 52 = .ok (.ireturn, 1) := by decide +kernel
theorem d_X_add_0 : decode c_X_add 0 = .ok (.aload_n 0, 1) := by decide +kernel
theorem d_X_add_1 : decode c_X_add 1 = .ok (.iload_n 1, 1) := by decide +kernel
theorem d_X_add_2 : decode c_X_add 2 = .ok (.invokevirtual 45, 3) := by decide +kernel
theorem d_X_add_5 : decode c_X_add 5 = .ok (.ifCond .eq 11, 3) := by decide +kernel
theorem d_X_add_8 : decode c_X_add 8 = .ok (.aload_n 0, 1) := by decide +kernel
theorem d_X_add_9 : decode c_X_add 9 = .ok (.iload_n 2, 1) := by decide +kernel
theorem d_X_add_10 : decode c_X_add 10 = .ok (.invokevirtual 45, 3) := by decide +kernel
theorem d_X_add_13 : decode c_X_add 13 = .ok (.ifCond .ne 6, 3) := by decide +kernel
theorem d_X_add_16 : decode c_X_add 16 = .ok (.bipush (-3), 2) := by decide +kernel
theorem d_X_add_18 : decode c_X_add 18 = .ok (.ireturn, 1) := by decide +kernel
theorem d_X_add_19 : decode c_X_add 19 = .ok (.aload_n 0, 1) := by decide +kernel
theorem d_X_add_20 : decode c_X_add 20 = .ok (.getfield 16, 3) := by decide +kernel
theorem d_X_add_23 : decode c_X_add 23 = .ok (.iload_n 1, 1) := by decide +kernel
theorem d_X_add_24 : decode c_X_add 24 = .ok (.iaload, 1) := by decide +kernel
theorem d_X_add_25 : decode c_X_add 25 = .ok (.aload_n 0, 1) := by decide +kernel
theorem d_X_add_26 : decode c_X_add 26 = .ok (.getfield 16, 3) := by decide +kernel
theorem d_X_add_29 : decode c_X_add 29 = .ok (.iload_n 2, 1) := by decide +kernel
theorem d_X_add_30 : decode c_X_add 30 = .ok (.iaload, 1) := by decide +kernel
theorem d_X_add_31 : decode c_X_add 31 = .ok (.if_icmp .eq 5, 3) := by decide +kernel
theorem d_X_add_34 : decode c_X_add 34 = .ok (.iconst (-1), 1) := by decide +kernel
theorem d_X_add_35 : decode c_X_add 35 = .ok (.ireturn, 1) := by decide +kernel
theorem d_X_add_36 : decode c_X_add 36 = .ok (.aload_n 0, 1) := by decide +kernel
theorem d_X_add_37 : decode c_X_add 37 = .ok (.aload_n 0, 1) := by decide +kernel
theorem d_X_add_38 : decode c_X_add 38 = .ok (.getfield 9, 3) := by decide +kernel
theorem d_X_add_41 : decode c_X_add 41 = .ok (.iload_n 1, 1) := by decide +kernel
theorem d_X_add_42 : decode c_X_add 42 = .ok (.laload, 1) := by decide +kernel
theorem d_X_add_43 : decode c_X_add 43 = .ok (.aload_n 0, 1) := by decide +kernel
theorem d_X_add_44 : decode c_X_add 44 = .ok (.getfield 13, 3) := by decide +kernel
theorem d_X_add_47 : decode c_X_add 47 = .ok (.iload_n 2, 1) := by decide +kernel
theorem d_X_add_48 : decode c_X_add 48 = .ok (.laload, 1) := by decide +kernel
theorem d_X_add_49 : decode c_X_add 49 = .ok (.lmul, 1) := by decide +kernel
theorem d_X_add_50 : decode c_X_add 50 = .ok (.aload_n 0, 1) := by decide +kernel
theorem d_X_add_51 : decode c_X_add 51 = .ok (.getfield 9, 3) := by decide +kernel
theorem d_X_add_54 : decode c_X_add 54 = .ok (.iload_n 2, 1) := by decide +kernel
theorem d_X_add_55 : decode c_X_add 55 = .ok (.laload, 1) := by decide +kernel
theorem d_X_add_56 : decode c_X_add 56 = .ok (.aload_n 0, 1) := by decide +kernel
theorem d_X_add_57 : decode c_X_add 57 = .ok (.getfield 13, 3) := by decide +kernel
theorem d_X_add_60 : decode c_X_add 60 = .ok (.iload_n 1, 1) := by decide +kernel
theorem d_X_add_61 : decode c_X_add 61 = .ok (.laload, 1) := by decide +kernel
theorem d_X_add_62 : decode c_X_add 62 = .ok (.lmul, 1) := by decide +kernel
theorem d_X_add_63 : decode c_X_add 63 = .ok (.ladd, 1) := by decide +kernel
theorem d_X_add_64 : decode c_X_add 64 = .ok (.aload_n 0, 1) := by decide +kernel
theorem d_X_add_65 : decode c_X_add 65 = .ok (.getfield 13, 3) := by decide +kernel
theorem d_X_add_68 : decode c_X_add 68 = .ok (.iload_n 1, 1) := by decide +kernel
theorem d_X_add_69 : decode c_X_add 69 = .ok (.laload, 1) := by decide +kernel
theorem d_X_add_70 : decode c_X_add 70 = .ok (.aload_n 0, 1) := by decide +kernel
theorem d_X_add_71 : decode c_X_add 71 = .ok (.getfield 13, 3) := by decide +kernel
theorem d_X_add_74 : decode c_X_add 74 = .ok (.iload_n 2, 1) := by decide +kernel
theorem d_X_add_75 : decode c_X_add 75 = .ok (.laload, 1) := by decide +kernel
theorem d_X_add_76 : decode c_X_add 76 = .ok (.lmul, 1) := by decide +kernel
theorem d_X_add_77 : decode c_X_add 77 = .ok (.aload_n 0, 1) := by decide +kernel
theorem d_X_add_78 : decode c_X_add 78 = .ok (.getfield 16, 3) := by decide +kernel
theorem d_X_add_81 : decode c_X_add 81 = .ok (.iload_n 1, 1) := by decide +kernel
theorem d_X_add_82 : decode c_X_add 82 = .ok (.iaload, 1) := by decide +kernel
theorem d_X_add_83 : decode c_X_add 83 = .ok (.invokevirtual 41, 3) := by decide +kernel
theorem d_X_add_86 : decode c_X_add 86 = .ok (.ireturn, 1) := by decide +kernel
theorem d_X_times_0 : decode c_X_times 0 = .ok (.aload_n 0, 1) := by decide +kernel
theorem d_X_times_1 : decode c_X_times 1 = .ok (.iload_n 1, 1) := by decide +kernel
theorem d_X_times_2 : decode c_X_times 2 = .ok (.invokevirtual 45, 3) := by decide +kernel
theorem d_X_times_5 : decode c_X_times 5 = .ok (.ifCond .eq 11, 3) := by decide +kernel
theorem d_X_times_8 : decode c_X_times 8 = .ok (.aload_n 0, 1) := by decide +kernel
theorem d_X_times_9 : decode c_X_times 9 = .ok (.iload_n 2, 1) := by decide +kernel
theorem d_X_times_10 : decode c_X_times 10 = .ok (.invokevirtual 45, 3) := by decide +kernel
theorem d_X_times_13 : decode c_X_times 13 = .ok (.ifCond .ne 6, 3) := by decide +kernel
theorem d_X_times_16 : decode c_X_times 16 = .ok (.bipush (-3), 2) := by decide +kernel
theorem d_X_times_18 : decode c_X_times 18 = .ok (.ireturn, 1) := by decide +kernel
theorem d_X_times_19 : decode c_X_times 19 = .ok (.aload_n 0, 1) := by decide +kernel
theorem d_X_times_20 : decode c_X_times 20 = .ok (.getfield 16, 3) := by decide +kernel
theorem d_X_times_23 : decode c_X_times 23 = .ok (.iload_n 1, 1) := by decide +kernel
theorem d_X_times_24 : decode c_X_times 24 = .ok (.iaload, 1) := by decide +kernel
theorem d_X_times_25 : decode c_X_times 25 = .ok (.aload_n 0, 1) := by decide +kernel
theorem d_X_times_26 : decode c_X_times 26 = .ok (.getfield 16, 3) := by decide +kernel
theorem d_X_times_29 : decode c_X_times 29 = .ok (.iload_n 2, 1) := by decide +kernel
theorem d_X_times_30 : decode c_X_times 30 = .ok (.iaload, 1) := by decide +kernel
theorem d_X_times_31 : decode c_X_times 31 = .ok (.invokestatic 49, 3) := by decide +kernel
theorem d_X_times_34 : decode c_X_times 34 = .ok (.istore_n 3, 1) := by decide +kernel
theorem d_X_times_35 : decode c_X_times 35 = .ok (.iload_n 3, 1) := by decide +kernel
theorem d_X_times_36 : decode c_X_times 36 = .ok (.iconst (-1), 1) := by decide +kernel
theorem d_X_times_37 : decode c_X_times 37 = .ok (.if_icmp .ne 5, 3) := by decide +kernel
theorem d_X_times_40 : decode c_X_times 40 = .ok (.iconst (-1), 1) := by decide +kernel
theorem d_X_times_41 : decode c_X_times 41 = .ok (.ireturn, 1) := by decide +kernel
theorem d_X_times_42 : decode c_X_times 42 = .ok (.aload_n 0, 1) := by decide +kernel
theorem d_X_times_43 : decode c_X_times 43 = .ok (.aload_n 0, 1) := by decide +kernel
theorem d_X_times_44 : decode c_X_times 44 = .ok (.getfield 9, 3) := by decide +kernel
theorem d_X_times_47 : decode c_X_times 47 = .ok (.iload_n 1, 1) := by decide +kernel
theorem d_X_times_48 : decode c_X_times 48 = .ok (.laload, 1) := by decide +kernel
theorem d_X_times_49 : decode c_X_times 49 = .ok (.aload_n 0, 1) := by decide +kernel
theorem d_X_times_50 : decode c_X_times 50 = .ok (.getfield 9, 3) := by decide +kernel
theorem d_X_times_53 : decode c_X_times 53 = .ok (.iload_n 2, 1) := by decide +kernel
theorem d_X_times_54 : decode c_X_times 54 = .ok (.laload, 1) := by decide +kernel
theorem d_X_times_55 : decode c_X_times 55 = .ok (.lmul, 1) := by decide +kernel
theorem d_X_times_56 : decode c_X_times 56 = .ok (.aload_n 0, 1) := by decide +kernel
theorem d_X_times_57 : decode c_X_times 57 = .ok (.getfield 13, 3) := by decide +kernel
theorem d_X_times_60 : decode c_X_times 60 = .ok (.iload_n 1, 1) := by decide +kernel
theorem d_X_times_61 : decode c_X_times 61 = .ok (.laload, 1) := by decide +kernel
theorem d_X_times_62 : decode c_X_times 62 = .ok (.aload_n 0, 1) := by decide +kernel
theorem d_X_times_63 : decode c_X_times 63 = .ok (.getfield 13, 3) := by decide +kernel
theorem d_X_times_66 : decode c_X_times 66 = .ok (.iload_n 2, 1) := by decide +kernel
theorem d_X_times_67 : decode c_X_times 67 = .ok (.laload, 1) := by decide +kernel
theorem d_X_times_68 : decode c_X_times 68 = .ok (.lmul, 1) := by decide +kernel
theorem d_X_times_69 : decode c_X_times 69 = .ok (.iload_n 3, 1) := by decide +kernel
theorem d_X_times_70 : decode c_X_times 70 = .ok (.invokevirtual 41, 3) := by decide +kernel
theorem d_X_times_73 : decode c_X_times 73 = .ok (.ireturn, 1) := by decide +kernel
theorem d_X_over_0 : decode c_X_over 0 = .ok (.aload_n 0, 1) := by decide +kernel
theorem d_X_over_1 : decode c_X_over 1 = .ok (.iload_n 1, 1) := by decide +kernel
theorem d_X_over_2 : decode c_X_over 2 = .ok (.invokevirtual 45, 3) := by decide +kernel
theorem d_X_over_5 : decode c_X_over 5 = .ok (.ifCond .eq 11, 3) := by decide +kernel
theorem d_X_over_8 : decode c_X_over 8 = .ok (.aload_n 0, 1) := by decide +kernel
theorem d_X_over_9 : decode c_X_over 9 = .ok (.iload_n 2, 1) := by decide +kernel
theorem d_X_over_10 : decode c_X_over 10 = .ok (.invokevirtual 45, 3) := by decide +kernel
theorem d_X_over_13 : decode c_X_over 13 = .ok (.ifCond .ne 6, 3) := by decide +kernel
theorem d_X_over_16 : decode c_X_over 16 = .ok (.bipush (-3), 2) := by decide +kernel
theorem d_X_over_18 : decode c_X_over 18 = .ok (.ireturn, 1) := by decide +kernel
theorem d_X_over_19 : decode c_X_over 19 = .ok (.aload_n 0, 1) := by decide +kernel
theorem d_X_over_20 : decode c_X_over 20 = .ok (.getfield 16, 3) := by decide +kernel
theorem d_X_over_23 : decode c_X_over 23 = .ok (.iload_n 1, 1) := by decide +kernel
theorem d_X_over_24 : decode c_X_over 24 = .ok (.iaload, 1) := by decide +kernel
theorem d_X_over_25 : decode c_X_over 25 = .ok (.aload_n 0, 1) := by decide +kernel
theorem d_X_over_26 : decode c_X_over 26 = .ok (.getfield 16, 3) := by decide +kernel
theorem d_X_over_29 : decode c_X_over 29 = .ok (.iload_n 2, 1) := by decide +kernel
theorem d_X_over_30 : decode c_X_over 30 = .ok (.iaload, 1) := by decide +kernel
theorem d_X_over_31 : decode c_X_over 31 = .ok (.invokestatic 53, 3) := by decide +kernel
theorem d_X_over_34 : decode c_X_over 34 = .ok (.istore_n 3, 1) := by decide +kernel
theorem d_X_over_35 : decode c_X_over 35 = .ok (.iload_n 3, 1) := by decide +kernel
theorem d_X_over_36 : decode c_X_over 36 = .ok (.iconst (-1), 1) := by decide +kernel
theorem d_X_over_37 : decode c_X_over 37 = .ok (.if_icmp .ne 5, 3) := by decide +kernel
theorem d_X_over_40 : decode c_X_over 40 = .ok (.iconst (-1), 1) := by decide +kernel
theorem d_X_over_41 : decode c_X_over 41 = .ok (.ireturn, 1) := by decide +kernel
theorem d_X_over_42 : decode c_X_over 42 = .ok (.aload_n 0, 1) := by decide +kernel
theorem d_X_over_43 : decode c_X_over 43 = .ok (.getfield 9, 3) := by decide +kernel
theorem d_X_over_46 : decode c_X_over 46 = .ok (.iload_n 2, 1) := by decide +kernel
theorem d_X_over_47 : decode c_X_over 47 = .ok (.laload, 1) := by decide +kernel
theorem d_X_over_48 : decode c_X_over 48 = .ok (.lconst 0, 1) := by decide +kernel
theorem d_X_over_49 : decode c_X_over 49 = .ok (.lcmp, 1) := by decide +kernel
theorem d_X_over_50 : decode c_X_over 50 = .ok (.ifCond .ne 13, 3) := by decide +kernel
theorem d_X_over_53 : decode c_X_over 53 = .ok (.new 30, 3) := by decide +kernel
theorem d_X_over_56 : decode c_X_over 56 = .ok (.dup, 1) := by decide +kernel
theorem d_X_over_57 : decode c_X_over 57 = .ok (.ldc 56, 2) := by decide +kernel
theorem d_X_over_59 : decode c_X_over 59 = .ok (.invokespecial 34, 3) := by decide +kernel
theorem d_X_over_62 : decode c_X_over 62 = .ok (.athrow, 1) := by decide +kernel
theorem d_X_over_63 : decode c_X_over 63 = .ok (.aload_n 0, 1) := by decide +kernel
theorem d_X_over_64 : decode c_X_over 64 = .ok (.aload_n 0, 1) := by decide +kernel
theorem d_X_over_65 : decode c_X_over 65 = .ok (.getfield 9, 3) := by decide +kernel
theorem d_X_over_68 : decode c_X_over 68 = .ok (.iload_n 1, 1) := by decide +kernel
theorem d_X_over_69 : decode c_X_over 69 = .ok (.laload, 1) := by decide +kernel
theorem d_X_over_70 : decode c_X_over 70 = .ok (.aload_n 0, 1) := by decide +kernel
theorem d_X_over_71 : decode c_X_over 71 = .ok (.getfield 13, 3) := by decide +kernel
theorem d_X_over_74 : decode c_X_over 74 = .ok (.iload_n 2, 1) := by decide +kernel
theorem d_X_over_75 : decode c_X_over 75 = .ok (.laload, 1) := by decide +kernel
theorem d_X_over_76 : decode c_X_over 76 = .ok (.lmul, 1) := by decide +kernel
theorem d_X_over_77 : decode c_X_over 77 = .ok (.aload_n 0, 1) := by decide +kernel
theorem d_X_over_78 : decode c_X_over 78 = .ok (.getfield 13, 3) := by decide +kernel
theorem d_X_over_81 : decode c_X_over 81 = .ok (.iload_n 1, 1) := by decide +kernel
theorem d_X_over_82 : decode c_X_over 82 = .ok (.laload, 1) := by decide +kernel
theorem d_X_over_83 : decode c_X_over 83 = .ok (.aload_n 0, 1) := by decide +kernel
theorem d_X_over_84 : decode c_X_over 84 = .ok (.getfield 9, 3) := by decide +kernel
theorem d_X_over_87 : decode c_X_over 87 = .ok (.iload_n 2, 1) := by decide +kernel
theorem d_X_over_88 : decode c_X_over 88 = .ok (.laload, 1) := by decide +kernel
theorem d_X_over_89 : decode c_X_over 89 = .ok (.lmul, 1) := by decide +kernel
theorem d_X_over_90 : decode c_X_over 90 = .ok (.iload_n 3, 1) := by decide +kernel
theorem d_X_over_91 : decode c_X_over 91 = .ok (.invokevirtual 41, 3) := by decide +kernel
theorem d_X_over_94 : decode c_X_over 94 = .ok (.ireturn, 1) := by decide +kernel
theorem d_X_round_0 : decode c_X_round 0 = .ok (.aload_n 0, 1) := by decide +kernel
theorem d_X_round_1 : decode c_X_round 1 = .ok (.iload_n 1, 1) := by decide +kernel
theorem d_X_round_2 : decode c_X_round 2 = .ok (.invokevirtual 45, 3) := by decide +kernel
theorem d_X_round_5 : decode c_X_round 5 = .ok (.ifCond .ne 6, 3) := by decide +kernel
theorem d_X_round_8 : decode c_X_round 8 = .ok (.bipush (-3), 2) := by decide +kernel
theorem d_X_round_10 : decode c_X_round 10 = .ok (.ireturn, 1) := by decide +kernel
theorem d_X_round_11 : decode c_X_round 11 = .ok (.iload_n 2, 1) := by decide +kernel
theorem d_X_round_12 : decode c_X_round 12 = .ok (.ifCond .lt 23, 3) := by decide +kernel
theorem d_X_round_15 : decode c_X_round 15 = .ok (.iload_n 2, 1) := by decide +kernel
theorem d_X_round_16 : decode c_X_round 16 = .ok (.bipush 6, 2) := by decide +kernel
theorem d_X_round_18 : decode c_X_round 18 = .ok (.if_icmp .gt 17, 3) := by decide +kernel
theorem d_X_round_21 : decode c_X_round 21 = .ok (.lload_n 3, 1) := by decide +kernel
theorem d_X_round_22 : decode c_X_round 22 = .ok (.lconst 1, 1) := by decide +kernel
theorem d_X_round_23 : decode c_X_round 23 = .ok (.lcmp, 1) := by decide +kernel
theorem d_X_round_24 : decode c_X_round 24 = .ok (.ifCond .lt 11, 3) := by decide +kernel
theorem d_X_round_27 : decode c_X_round 27 = .ok (.lload_n 3, 1) := by decide +kernel
theorem d_X_round_28 : decode c_X_round 28 = .ok (.ldc2_w 58, 3) := by decide +kernel
theorem d_X_round_31 : decode c_X_round 31 = .ok (.lcmp, 1) := by decide +kernel
theorem d_X_round_32 : decode c_X_round 32 = .ok (.ifCond .le 5, 3) := by decide +kernel
theorem d_X_round_35 : decode c_X_round 35 = .ok (.iconst (-1), 1) := by decide +kernel
theorem d_X_round_36 : decode c_X_round 36 = .ok (.ireturn, 1) := by decide +kernel
theorem d_X_round_37 : decode c_X_round 37 = .ok (.aload_n 0, 1) := by decide +kernel
theorem d_X_round_38 : decode c_X_round 38 = .ok (.getfield 9, 3) := by decide +kernel
theorem d_X_round_41 : decode c_X_round 41 = .ok (.iload_n 1, 1) := by decide +kernel
theorem d_X_round_42 : decode c_X_round 42 = .ok (.laload, 1) := by decide +kernel
theorem d_X_round_43 : decode c_X_round 43 = .ok (.lload_n 3, 1) := by decide +kernel
theorem d_X_round_44 : decode c_X_round 44 = .ok (.lmul, 1) := by decide +kernel
theorem d_X_round_45 : decode c_X_round 45 = .ok (.lstore 5, 2) := by decide +kernel
theorem d_X_round_47 : decode c_X_round 47 = .ok (.lload 5, 2) := by decide +kernel
theorem d_X_round_49 : decode c_X_round 49 = .ok (.aload_n 0, 1) := by decide +kernel
theorem d_X_round_50 : decode c_X_round 50 = .ok (.getfield 13, 3) := by decide +kernel
theorem d_X_round_53 : decode c_X_round 53 = .ok (.iload_n 1, 1) := by decide +kernel
theorem d_X_round_54 : decode c_X_round 54 = .ok (.laload, 1) := by decide +kernel
theorem d_X_round_55 : decode c_X_round 55 = .ok (.invokestatic 60, 3) := by decide +kernel
theorem d_X_round_58 : decode c_X_round 58 = .ok (.lstore 7, 2) := by decide +kernel
theorem d_X_round_60 : decode c_X_round 60 = .ok (.lload 5, 2) := by decide +kernel
theorem d_X_round_62 : decode c_X_round 62 = .ok (.aload_n 0, 1) := by decide +kernel
theorem d_X_round_63 : decode c_X_round 63 = .ok (.getfield 13, 3) := by decide +kernel
theorem d_X_round_66 : decode c_X_round 66 = .ok (.iload_n 1, 1) := by decide +kernel
theorem d_X_round_67 : decode c_X_round 67 = .ok (.laload, 1) := by decide +kernel
theorem d_X_round_68 : decode c_X_round 68 = .ok (.invokestatic 64, 3) := by decide +kernel
theorem d_X_round_71 : decode c_X_round 71 = .ok (.lstore 9, 2) := by decide +kernel
theorem d_X_round_73 : decode c_X_round 73 = .ok (.iload_n 2, 1) := by decide +kernel
theorem d_X_round_74 : decode c_X_round 74 = .ok (.lload 7, 2) := by decide +kernel
theorem d_X_round_76 : decode c_X_round 76 = .ok (.lload 9, 2) := by decide +kernel
theorem d_X_round_78 : decode c_X_round 78 = .ok (.aload_n 0, 1) := by decide +kernel
theorem d_X_round_79 : decode c_X_round 79 = .ok (.getfield 13, 3) := by decide +kernel
theorem d_X_round_82 : decode c_X_round 82 = .ok (.iload_n 1, 1) := by decide +kernel
theorem d_X_round_83 : decode c_X_round 83 = .ok (.laload, 1) := by decide +kernel
theorem d_X_round_84 : decode c_X_round 84 = .ok (.invokestatic 67, 3) := by decide +kernel
theorem d_X_round_87 : decode c_X_round 87 = .ok (.ifCond .eq 10, 3) := by decide +kernel
theorem d_X_round_90 : decode c_X_round 90 = .ok (.lload 7, 2) := by decide +kernel
theorem d_X_round_92 : decode c_X_round 92 = .ok (.lconst 1, 1) := by decide +kernel
theorem d_X_round_93 : decode c_X_round 93 = .ok (.ladd, 1) := by decide +kernel
theorem d_X_round_94 : decode c_X_round 94 = .ok (.goto 5, 3) := by decide +kernel
theorem d_X_round_97 : decode c_X_round 97 = .ok (.lload 7, 2) := by decide +kernel
theorem d_X_round_99 : decode c_X_round 99 = .ok (.lstore 11, 2) := by decide +kernel
theorem d_X_round_101 : decode c_X_round 101 = .ok (.aload_n 0, 1) := by decide +kernel
theorem d_X_round_102 : decode c_X_round 102 = .ok (.lload 11, 2) := by decide +kernel
theorem d_X_round_104 : decode c_X_round 104 = .ok (.lload_n 3, 1) := by decide +kernel
theorem d_X_round_105 : decode c_X_round 105 = .ok (.aload_n 0, 1) := by decide +kernel
theorem d_X_round_106 : decode c_X_round 106 = .ok (.getfield 16, 3) := by decide +kernel
theorem d_X_round_109 : decode c_X_round 109 = .ok (.iload_n 1, 1) := by decide +kernel
theorem d_X_round_110 : decode c_X_round 110 = .ok (.iaload, 1) := by decide +kernel
theorem d_X_round_111 : decode c_X_round 111 = .ok (.invokevirtual 41, 3) := by decide +kernel
theorem d_X_round_114 : decode c_X_round 114 = .ok (.ireturn, 1) := by decide +kernel
theorem d_X_order_0 : decode c_X_order 0 = .ok (.aload_n 0, 1) := by decide +kernel
theorem d_X_order_1 : decode c_X_order 1 = .ok (.iload_n 1, 1) := by decide +kernel
theorem d_X_order_2 : decode c_X_order 2 = .ok (.invokevirtual 45, 3) := by decide +kernel
theorem d_X_order_5 : decode c_X_order 5 = .ok (.ifCond .eq 11, 3) := by decide +kernel
theorem d_X_order_8 : decode c_X_order 8 = .ok (.aload_n 0, 1) := by decide +kernel
theorem d_X_order_9 : decode c_X_order 9 = .ok (.iload_n 2, 1) := by decide +kernel
theorem d_X_order_10 : decode c_X_order 10 = .ok (.invokevirtual 45, 3) := by decide +kernel
theorem d_X_order_13 : decode c_X_order 13 = .ok (.ifCond .ne 6, 3) := by decide +kernel
theorem d_X_order_16 : decode c_X_order 16 = .ok (.bipush (-3), 2) := by decide +kernel
theorem d_X_order_18 : decode c_X_order 18 = .ok (.ireturn, 1) := by decide +kernel
theorem d_X_order_19 : decode c_X_order 19 = .ok (.aload_n 0, 1) := by decide +kernel
theorem d_X_order_20 : decode c_X_order 20 = .ok (.getfield 16, 3) := by decide +kernel
theorem d_X_order_23 : decode c_X_order 23 = .ok (.iload_n 1, 1) := by decide +kernel
theorem d_X_order_24 : decode c_X_order 24 = .ok (.iaload, 1) := by decide +kernel
theorem d_X_order_25 : decode c_X_order 25 = .ok (.aload_n 0, 1) := by decide +kernel
theorem d_X_order_26 : decode c_X_order 26 = .ok (.getfield 16, 3) := by decide +kernel
theorem d_X_order_29 : decode c_X_order 29 = .ok (.iload_n 2, 1) := by decide +kernel
theorem d_X_order_30 : decode c_X_order 30 = .ok (.iaload, 1) := by decide +kernel
theorem d_X_order_31 : decode c_X_order 31 = .ok (.if_icmp .eq 5, 3) := by decide +kernel
theorem d_X_order_34 : decode c_X_order 34 = .ok (.iconst 2, 1) := by decide +kernel
theorem d_X_order_35 : decode c_X_order 35 = .ok (.ireturn, 1) := by decide +kernel
theorem d_X_order_36 : decode c_X_order 36 = .ok (.aload_n 0, 1) := by decide +kernel
theorem d_X_order_37 : decode c_X_order 37 = .ok (.getfield 9, 3) := by decide +kernel
theorem d_X_order_40 : decode c_X_order 40 = .ok (.iload_n 1, 1) := by decide +kernel
theorem d_X_order_41 : decode c_X_order 41 = .ok (.laload, 1) := by decide +kernel
theorem d_X_order_42 : decode c_X_order 42 = .ok (.aload_n 0, 1) := by decide +kernel
theorem d_X_order_43 : decode c_X_order 43 = .ok (.getfield 13, 3) := by decide +kernel
theorem d_X_order_46 : decode c_X_order 46 = .ok (.iload_n 2, 1) := by decide +kernel
theorem d_X_order_47 : decode c_X_order 47 = .ok (.laload, 1) := by decide +kernel
theorem d_X_order_48 : decode c_X_order 48 = .ok (.lmul, 1) := by decide +kernel
theorem d_X_order_49 : decode c_X_order 49 = .ok (.lstore_n 3, 1) := by decide +kernel
theorem d_X_order_50 : decode c_X_order 50 = .ok (.aload_n 0, 1) := by decide +kernel
theorem d_X_order_51 : decode c_X_order 51 = .ok (.getfield 9, 3) := by decide +kernel
theorem d_X_order_54 : decode c_X_order 54 = .ok (.iload_n 2, 1) := by decide +kernel
theorem d_X_order_55 : decode c_X_order 55 = .ok (.laload, 1) := by decide +kernel
theorem d_X_order_56 : decode c_X_order 56 = .ok (.aload_n 0, 1) := by decide +kernel
theorem d_X_order_57 : decode c_X_order 57 = .ok (.getfield 13, 3) := by decide +kernel
theorem d_X_order_60 : decode c_X_order 60 = .ok (.iload_n 1, 1) := by decide +kernel
theorem d_X_order_61 : decode c_X_order 61 = .ok (.laload, 1) := by decide +kernel
theorem d_X_order_62 : decode c_X_order 62 = .ok (.lmul, 1) := by decide +kernel
theorem d_X_order_63 : decode c_X_order 63 = .ok (.lstore 5, 2) := by decide +kernel
theorem d_X_order_65 : decode c_X_order 65 = .ok (.lload_n 3, 1) := by decide +kernel
theorem d_X_order_66 : decode c_X_order 66 = .ok (.lload 5, 2) := by decide +kernel
theorem d_X_order_68 : decode c_X_order 68 = .ok (.lcmp, 1) := by decide +kernel
theorem d_X_order_69 : decode c_X_order 69 = .ok (.ifCond .ge 7, 3) := by decide +kernel
theorem d_X_order_72 : decode c_X_order 72 = .ok (.iconst (-1), 1) := by decide +kernel
theorem d_X_order_73 : decode c_X_order 73 = .ok (.goto 15, 3) := by decide +kernel
theorem d_X_order_76 : decode c_X_order 76 = .ok (.lload_n 3, 1) := by decide +kernel
theorem d_X_order_77 : decode c_X_order 77 = .ok (.lload 5, 2) := by decide +kernel
theorem d_X_order_79 : decode c_X_order 79 = .ok (.lcmp, 1) := by decide +kernel
theorem d_X_order_80 : decode c_X_order 80 = .ok (.ifCond .le 7, 3) := by decide +kernel
theorem d_X_order_83 : decode c_X_order 83 = .ok (.iconst 1, 1) := by decide +kernel
theorem d_X_order_84 : decode c_X_order 84 = .ok (.goto 4, 3) := by decide +kernel
theorem d_X_order_87 : decode c_X_order 87 = .ok (.iconst 0, 1) := by decide +kernel
theorem d_X_order_88 : decode c_X_order 88 = .ok (.ireturn, 1) := by decide +kernel
theorem d_X_row_0 : decode c_X_row 0 = .ok (.aload_n 0, 1) := by decide +kernel
theorem d_X_row_1 : decode c_X_row 1 = .ok (.iload_n 1, 1) := by decide +kernel
theorem d_X_row_2 : decode c_X_row 2 = .ok (.invokevirtual 71, 3) := by decide +kernel
theorem d_X_row_5 : decode c_X_row 5 = .ok (.astore 8, 2) := by decide +kernel
theorem d_X_row_7 : decode c_X_row 7 = .ok (.aload 8, 2) := by decide +kernel
theorem d_X_row_9 : decode c_X_row 9 = .ok (.ifnull 16, 3) := by decide +kernel
theorem d_X_row_12 : decode c_X_row 12 = .ok (.aload 8, 2) := by decide +kernel
theorem d_X_row_14 : decode c_X_row 14 = .ok (.lload_n 2, 1) := by decide +kernel
theorem d_X_row_15 : decode c_X_row 15 = .ok (.lload 4, 2) := by decide +kernel
theorem d_X_row_17 : decode c_X_row 17 = .ok (.lload 6, 2) := by decide +kernel
theorem d_X_row_19 : decode c_X_row 19 = .ok (.invokevirtual 75, 3) := by decide +kernel
theorem d_X_row_22 : decode c_X_row 22 = .ok (.ifCond .ne 5, 3) := by decide +kernel
theorem d_X_row_25 : decode c_X_row 25 = .ok (.iconst 0, 1) := by decide +kernel
theorem d_X_row_26 : decode c_X_row 26 = .ok (.ireturn, 1) := by decide +kernel
theorem d_X_row_27 : decode c_X_row 27 = .ok (.aload 8, 2) := by decide +kernel
theorem d_X_row_29 : decode c_X_row 29 = .ok (.lload_n 2, 1) := by decide +kernel
theorem d_X_row_30 : decode c_X_row 30 = .ok (.lload 4, 2) := by decide +kernel
theorem d_X_row_32 : decode c_X_row 32 = .ok (.lload 6, 2) := by decide +kernel
theorem d_X_row_34 : decode c_X_row 34 = .ok (.invokevirtual 79, 3) := by decide +kernel
theorem d_X_row_37 : decode c_X_row 37 = .ok (.iconst 1, 1) := by decide +kernel
theorem d_X_row_38 : decode c_X_row 38 = .ok (.ireturn, 1) := by decide +kernel
theorem d_X_join_0 : decode c_X_join 0 = .ok (.aload_n 0, 1) := by decide +kernel
theorem d_X_join_1 : decode c_X_join 1 = .ok (.iload_n 1, 1) := by decide +kernel
theorem d_X_join_2 : decode c_X_join 2 = .ok (.invokevirtual 71, 3) := by decide +kernel
theorem d_X_join_5 : decode c_X_join 5 = .ok (.astore_n 3, 1) := by decide +kernel
theorem d_X_join_6 : decode c_X_join 6 = .ok (.aload_n 3, 1) := by decide +kernel
theorem d_X_join_7 : decode c_X_join 7 = .ok (.ifnull 11, 3) := by decide +kernel
theorem d_X_join_10 : decode c_X_join 10 = .ok (.aload_n 0, 1) := by decide +kernel
theorem d_X_join_11 : decode c_X_join 11 = .ok (.iload_n 2, 1) := by decide +kernel
theorem d_X_join_12 : decode c_X_join 12 = .ok (.invokevirtual 45, 3) := by decide +kernel
theorem d_X_join_15 : decode c_X_join 15 = .ok (.ifCond .ne 6, 3) := by decide +kernel
theorem d_X_join_18 : decode c_X_join 18 = .ok (.bipush (-3), 2) := by decide +kernel
theorem d_X_join_20 : decode c_X_join 20 = .ok (.ireturn, 1) := by decide +kernel
theorem d_X_join_21 : decode c_X_join 21 = .ok (.aload_n 3, 1) := by decide +kernel
theorem d_X_join_22 : decode c_X_join 22 = .ok (.getfield 83, 3) := by decide +kernel
theorem d_X_join_25 : decode c_X_join 25 = .ok (.ifCond .ne 5, 3) := by decide +kernel
theorem d_X_join_28 : decode c_X_join 28 = .ok (.iconst (-1), 1) := by decide +kernel
theorem d_X_join_29 : decode c_X_join 29 = .ok (.ireturn, 1) := by decide +kernel
theorem d_X_join_30 : decode c_X_join 30 = .ok (.aload_n 3, 1) := by decide +kernel
theorem d_X_join_31 : decode c_X_join 31 = .ok (.aload_n 0, 1) := by decide +kernel
theorem d_X_join_32 : decode c_X_join 32 = .ok (.getfield 9, 3) := by decide +kernel
theorem d_X_join_35 : decode c_X_join 35 = .ok (.iload_n 2, 1) := by decide +kernel
theorem d_X_join_36 : decode c_X_join 36 = .ok (.laload, 1) := by decide +kernel
theorem d_X_join_37 : decode c_X_join 37 = .ok (.aload_n 0, 1) := by decide +kernel
theorem d_X_join_38 : decode c_X_join 38 = .ok (.getfield 13, 3) := by decide +kernel
theorem d_X_join_41 : decode c_X_join 41 = .ok (.iload_n 2, 1) := by decide +kernel
theorem d_X_join_42 : decode c_X_join 42 = .ok (.laload, 1) := by decide +kernel
theorem d_X_join_43 : decode c_X_join 43 = .ok (.invokevirtual 87, 3) := by decide +kernel
theorem d_X_join_46 : decode c_X_join 46 = .ok (.istore 4, 2) := by decide +kernel
theorem d_X_join_48 : decode c_X_join 48 = .ok (.iload 4, 2) := by decide +kernel
theorem d_X_join_50 : decode c_X_join 50 = .ok (.ifCond .ne 19, 3) := by decide +kernel
theorem d_X_join_53 : decode c_X_join 53 = .ok (.aload_n 0, 1) := by decide +kernel
theorem d_X_join_54 : decode c_X_join 54 = .ok (.aload_n 3, 1) := by decide +kernel
theorem d_X_join_55 : decode c_X_join 55 = .ok (.getfield 91, 3) := by decide +kernel
theorem d_X_join_58 : decode c_X_join 58 = .ok (.iconst 0, 1) := by decide +kernel
theorem d_X_join_59 : decode c_X_join 59 = .ok (.laload, 1) := by decide +kernel
theorem d_X_join_60 : decode c_X_join 60 = .ok (.aload_n 3, 1) := by decide +kernel
theorem d_X_join_61 : decode c_X_join 61 = .ok (.getfield 94, 3) := by decide +kernel
theorem d_X_join_64 : decode c_X_join 64 = .ok (.iconst 0, 1) := by decide +kernel
theorem d_X_join_65 : decode c_X_join 65 = .ok (.invokevirtual 41, 3) := by decide +kernel
theorem d_X_join_68 : decode c_X_join 68 = .ok (.ireturn, 1) := by decide +kernel
theorem d_X_join_69 : decode c_X_join 69 = .ok (.iload 4, 2) := by decide +kernel
theorem d_X_join_71 : decode c_X_join 71 = .ok (.aload_n 3, 1) := by decide +kernel
theorem d_X_join_72 : decode c_X_join 72 = .ok (.getfield 83, 3) := by decide +kernel
theorem d_X_join_75 : decode c_X_join 75 = .ok (.if_icmp .lt 24, 3) := by decide +kernel
theorem d_X_join_78 : decode c_X_join 78 = .ok (.aload_n 0, 1) := by decide +kernel
theorem d_X_join_79 : decode c_X_join 79 = .ok (.aload_n 3, 1) := by decide +kernel
theorem d_X_join_80 : decode c_X_join 80 = .ok (.getfield 91, 3) := by decide +kernel
theorem d_X_join_83 : decode c_X_join 83 = .ok (.aload_n 3, 1) := by decide +kernel
theorem d_X_join_84 : decode c_X_join 84 = .ok (.getfield 83, 3) := by decide +kernel
theorem d_X_join_87 : decode c_X_join 87 = .ok (.iconst 1, 1) := by decide +kernel
theorem d_X_join_88 : decode c_X_join 88 = .ok (.isub, 1) := by decide +kernel
theorem d_X_join_89 : decode c_X_join 89 = .ok (.laload, 1) := by decide +kernel
theorem d_X_join_90 : decode c_X_join 90 = .ok (.aload_n 3, 1) := by decide +kernel
theorem d_X_join_91 : decode c_X_join 91 = .ok (.getfield 94, 3) := by decide +kernel
theorem d_X_join_94 : decode c_X_join 94 = .ok (.iconst 0, 1) := by decide +kernel
theorem d_X_join_95 : decode c_X_join 95 = .ok (.invokevirtual 41, 3) := by decide +kernel
theorem d_X_join_98 : decode c_X_join 98 = .ok (.ireturn, 1) := by decide +kernel
theorem d_X_join_99 : decode c_X_join 99 = .ok (.aload_n 0, 1) := by decide +kernel
theorem d_X_join_100 : decode c_X_join 100 = .ok (.aload_n 3, 1) := by decide +kernel
theorem d_X_join_101 : decode c_X_join 101 = .ok (.iload 4, 2) := by decide +kernel
theorem d_X_join_103 : decode c_X_join 103 = .ok (.iload_n 2, 1) := by decide +kernel
theorem d_X_join_104 : decode c_X_join 104 = .ok (.invokevirtual 98, 3) := by decide +kernel
theorem d_X_join_107 : decode c_X_join 107 = .ok (.ireturn, 1) := by decide +kernel
theorem d_X_weight_0 : decode c_X_weight 0 = .ok (.lload_n 1, 1) := by decide +kernel
theorem d_X_weight_1 : decode c_X_weight 1 = .ok (.lconst 0, 1) := by decide +kernel
theorem d_X_weight_2 : decode c_X_weight 2 = .ok (.lcmp, 1) := by decide +kernel
theorem d_X_weight_3 : decode c_X_weight 3 = .ok (.ifCond .lt 20, 3) := by decide +kernel
theorem d_X_weight_6 : decode c_X_weight 6 = .ok (.lload_n 1, 1) := by decide +kernel
theorem d_X_weight_7 : decode c_X_weight 7 = .ok (.ldc2_w 102, 3) := by decide +kernel
theorem d_X_weight_10 : decode c_X_weight 10 = .ok (.lcmp, 1) := by decide +kernel
theorem d_X_weight_11 : decode c_X_weight 11 = .ok (.ifCond .gt 12, 3) := by decide +kernel
theorem d_X_weight_14 : decode c_X_weight 14 = .ok (.aload_n 0, 1) := by decide +kernel
theorem d_X_weight_15 : decode c_X_weight 15 = .ok (.getfield 104, 3) := by decide +kernel
theorem d_X_weight_18 : decode c_X_weight 18 = .ok (.bipush 16, 2) := by decide +kernel
theorem d_X_weight_20 : decode c_X_weight 20 = .ok (.if_icmp .lt 5, 3) := by decide +kernel
theorem d_X_weight_23 : decode c_X_weight 23 = .ok (.iconst 0, 1) := by decide +kernel
theorem d_X_weight_24 : decode c_X_weight 24 = .ok (.ireturn, 1) := by decide +kernel
theorem d_X_weight_25 : decode c_X_weight 25 = .ok (.aload_n 0, 1) := by decide +kernel
theorem d_X_weight_26 : decode c_X_weight 26 = .ok (.getfield 20, 3) := by decide +kernel
theorem d_X_weight_29 : decode c_X_weight 29 = .ok (.aload_n 0, 1) := by decide +kernel
theorem d_X_weight_30 : decode c_X_weight 30 = .ok (.getfield 104, 3) := by decide +kernel
theorem d_X_weight_33 : decode c_X_weight 33 = .ok (.lload_n 1, 1) := by decide +kernel
theorem d_X_weight_34 : decode c_X_weight 34 = .ok (.lastore, 1) := by decide +kernel
theorem d_X_weight_35 : decode c_X_weight 35 = .ok (.aload_n 0, 1) := by decide +kernel
theorem d_X_weight_36 : decode c_X_weight 36 = .ok (.dup, 1) := by decide +kernel
theorem d_X_weight_37 : decode c_X_weight 37 = .ok (.getfield 104, 3) := by decide +kernel
theorem d_X_weight_40 : decode c_X_weight 40 = .ok (.iconst 1, 1) := by decide +kernel
theorem d_X_weight_41 : decode c_X_weight 41 = .ok (.iadd, 1) := by decide +kernel
theorem d_X_weight_42 : decode c_X_weight 42 = .ok (.putfield 104, 3) := by decide +kernel
theorem d_X_weight_45 : decode c_X_weight 45 = .ok (.iconst 1, 1) := by decide +kernel
theorem d_X_weight_46 : decode c_X_weight 46 = .ok (.ireturn, 1) := by decide +kernel
theorem d_X_share_0 : decode c_X_share 0 = .ok (.aload_n 0, 1) := by decide +kernel
theorem d_X_share_1 : decode c_X_share 1 = .ok (.iload_n 1, 1) := by decide +kernel
theorem d_X_share_2 : decode c_X_share 2 = .ok (.invokevirtual 45, 3) := by decide +kernel
theorem d_X_share_5 : decode c_X_share 5 = .ok (.ifCond .eq 15, 3) := by decide +kernel
theorem d_X_share_8 : decode c_X_share 8 = .ok (.iload_n 2, 1) := by decide +kernel
theorem d_X_share_9 : decode c_X_share 9 = .ok (.ifCond .lt 11, 3) := by decide +kernel
theorem d_X_share_12 : decode c_X_share 12 = .ok (.iload_n 2, 1) := by decide +kernel
theorem d_X_share_13 : decode c_X_share 13 = .ok (.aload_n 0, 1) := by decide +kernel
theorem d_X_share_14 : decode c_X_share 14 = .ok (.getfield 104, 3) := by decide +kernel
theorem d_X_share_17 : decode c_X_share 17 = .ok (.if_icmp .lt 6, 3) := by decide +kernel
theorem d_X_share_20 : decode c_X_share 20 = .ok (.bipush (-3), 2) := by decide +kernel
theorem d_X_share_22 : decode c_X_share 22 = .ok (.ireturn, 1) := by decide +kernel
theorem d_X_share_23 : decode c_X_share 23 = .ok (.aload_n 0, 1) := by decide +kernel
theorem d_X_share_24 : decode c_X_share 24 = .ok (.invokevirtual 107, 3) := by decide +kernel
theorem d_X_share_27 : decode c_X_share 27 = .ok (.lstore_n 3, 1) := by decide +kernel
theorem d_X_share_28 : decode c_X_share 28 = .ok (.aload_n 0, 1) := by decide +kernel
theorem d_X_share_29 : decode c_X_share 29 = .ok (.getfield 9, 3) := by decide +kernel
theorem d_X_share_32 : decode c_X_share 32 = .ok (.iload_n 1, 1) := by decide +kernel
theorem d_X_share_33 : decode c_X_share 33 = .ok (.laload, 1) := by decide +kernel
theorem d_X_share_34 : decode c_X_share 34 = .ok (.lconst 0, 1) := by decide +kernel
theorem d_X_share_35 : decode c_X_share 35 = .ok (.lcmp, 1) := by decide +kernel
theorem d_X_share_36 : decode c_X_share 36 = .ok (.ifCond .lt 9, 3) := by decide +kernel
theorem d_X_share_39 : decode c_X_share 39 = .ok (.lload_n 3, 1) := by decide +kernel
theorem d_X_share_40 : decode c_X_share 40 = .ok (.lconst 0, 1) := by decide +kernel
theorem d_X_share_41 : decode c_X_share 41 = .ok (.lcmp, 1) := by decide +kernel
theorem d_X_share_42 : decode c_X_share 42 = .ok (.ifCond .ne 5, 3) := by decide +kernel
theorem d_X_share_45 : decode c_X_share 45 = .ok (.iconst (-1), 1) := by decide +kernel
theorem d_X_share_46 : decode c_X_share 46 = .ok (.ireturn, 1) := by decide +kernel
theorem d_X_share_47 : decode c_X_share 47 = .ok (.aload_n 0, 1) := by decide +kernel
theorem d_X_share_48 : decode c_X_share 48 = .ok (.getfield 9, 3) := by decide +kernel
theorem d_X_share_51 : decode c_X_share 51 = .ok (.iload_n 1, 1) := by decide +kernel
theorem d_X_share_52 : decode c_X_share 52 = .ok (.laload, 1) := by decide +kernel
theorem d_X_share_53 : decode c_X_share 53 = .ok (.ldc2_w 111, 3) := by decide +kernel
theorem d_X_share_56 : decode c_X_share 56 = .ok (.lmul, 1) := by decide +kernel
theorem d_X_share_57 : decode c_X_share 57 = .ok (.lstore 5, 2) := by decide +kernel
theorem d_X_share_59 : decode c_X_share 59 = .ok (.aload_n 0, 1) := by decide +kernel
theorem d_X_share_60 : decode c_X_share 60 = .ok (.getfield 13, 3) := by decide +kernel
theorem d_X_share_63 : decode c_X_share 63 = .ok (.iload_n 1, 1) := by decide +kernel
theorem d_X_share_64 : decode c_X_share 64 = .ok (.laload, 1) := by decide +kernel
theorem d_X_share_65 : decode c_X_share 65 = .ok (.lstore 7, 2) := by decide +kernel
theorem d_X_share_67 : decode c_X_share 67 = .ok (.aload_n 0, 1) := by decide +kernel
theorem d_X_share_68 : decode c_X_share 68 = .ok (.iload_n 2, 1) := by decide +kernel
theorem d_X_share_69 : decode c_X_share 69 = .ok (.lload 5, 2) := by decide +kernel
theorem d_X_share_71 : decode c_X_share 71 = .ok (.lload 7, 2) := by decide +kernel
theorem d_X_share_73 : decode c_X_share 73 = .ok (.invokestatic 60, 3) := by decide +kernel
theorem d_X_share_76 : decode c_X_share 76 = .ok (.lload_n 3, 1) := by decide +kernel
theorem d_X_share_77 : decode c_X_share 77 = .ok (.invokevirtual 113, 3) := by decide +kernel
theorem d_X_share_80 : decode c_X_share 80 = .ok (.lstore 9, 2) := by decide +kernel
theorem d_X_share_82 : decode c_X_share 82 = .ok (.iload_n 2, 1) := by decide +kernel
theorem d_X_share_83 : decode c_X_share 83 = .ok (.ifCond .le 19, 3) := by decide +kernel
theorem d_X_share_86 : decode c_X_share 86 = .ok (.aload_n 0, 1) := by decide +kernel
theorem d_X_share_87 : decode c_X_share 87 = .ok (.lload 9, 2) := by decide +kernel
theorem d_X_share_89 : decode c_X_share 89 = .ok (.ldc2_w 111, 3) := by decide +kernel
theorem d_X_share_92 : decode c_X_share 92 = .ok (.aload_n 0, 1) := by decide +kernel
theorem d_X_share_93 : decode c_X_share 93 = .ok (.getfield 16, 3) := by decide +kernel
theorem d_X_share_96 : decode c_X_share 96 = .ok (.iload_n 1, 1) := by decide +kernel
theorem d_X_share_97 : decode c_X_share 97 = .ok (.iaload, 1) := by decide +kernel
theorem d_X_share_98 : decode c_X_share 98 = .ok (.invokevirtual 41, 3) := by decide +kernel
theorem d_X_share_101 : decode c_X_share 101 = .ok (.ireturn, 1) := by decide +kernel
theorem d_X_share_102 : decode c_X_share 102 = .ok (.aload_n 0, 1) := by decide +kernel
theorem d_X_share_103 : decode c_X_share 103 = .ok (.lload 9, 2) := by decide +kernel
theorem d_X_share_105 : decode c_X_share 105 = .ok (.lload 7, 2) := by decide +kernel
theorem d_X_share_107 : decode c_X_share 107 = .ok (.lmul, 1) := by decide +kernel
theorem d_X_share_108 : decode c_X_share 108 = .ok (.lload 5, 2) := by decide +kernel
theorem d_X_share_110 : decode c_X_share 110 = .ok (.lload 7, 2) := by decide +kernel
theorem d_X_share_112 : decode c_X_share 112 = .ok (.invokestatic 64, 3) := by decide +kernel
theorem d_X_share_115 : decode c_X_share 115 = .ok (.ladd, 1) := by decide +kernel
theorem d_X_share_116 : decode c_X_share 116 = .ok (.ldc2_w 111, 3) := by decide +kernel
theorem d_X_share_119 : decode c_X_share 119 = .ok (.lload 7, 2) := by decide +kernel
theorem d_X_share_121 : decode c_X_share 121 = .ok (.lmul, 1) := by decide +kernel
theorem d_X_share_122 : decode c_X_share 122 = .ok (.aload_n 0, 1) := by decide +kernel
theorem d_X_share_123 : decode c_X_share 123 = .ok (.getfield 16, 3) := by decide +kernel
theorem d_X_share_126 : decode c_X_share 126 = .ok (.iload_n 1, 1) := by decide +kernel
theorem d_X_share_127 : decode c_X_share 127 = .ok (.iaload, 1) := by decide +kernel
theorem d_X_share_128 : decode c_X_share 128 = .ok (.invokevirtual 41, 3) := by decide +kernel
theorem d_X_share_131 : decode c_X_share 131 = .ok (.ireturn, 1) := by decide +kernel
theorem d_X_digit_0 : decode c_X_digit 0 = .ok (.aload_n 0, 1) := by decide +kernel
theorem d_X_digit_1 : decode c_X_digit 1 = .ok (.iload_n 1, 1) := by decide +kernel
theorem d_X_digit_2 : decode c_X_digit 2 = .ok (.invokevirtual 45, 3) := by decide +kernel
theorem d_X_digit_5 : decode c_X_digit 5 = .ok (.ifCond .ne 6, 3) := by decide +kernel
theorem d_X_digit_8 : decode c_X_digit 8 = .ok (.bipush (-3), 2) := by decide +kernel
theorem d_X_digit_10 : decode c_X_digit 10 = .ok (.ireturn, 1) := by decide +kernel
theorem d_X_digit_11 : decode c_X_digit 11 = .ok (.aload_n 0, 1) := by decide +kernel
theorem d_X_digit_12 : decode c_X_digit 12 = .ok (.getfield 9, 3) := by decide +kernel
theorem d_X_digit_15 : decode c_X_digit 15 = .ok (.iload_n 1, 1) := by decide +kernel
theorem d_X_digit_16 : decode c_X_digit 16 = .ok (.laload, 1) := by decide +kernel
theorem d_X_digit_17 : decode c_X_digit 17 = .ok (.invokestatic 117, 3) := by decide +kernel
theorem d_X_digit_20 : decode c_X_digit 20 = .ok (.lstore 4, 2) := by decide +kernel
theorem d_X_digit_22 : decode c_X_digit 22 = .ok (.aload_n 0, 1) := by decide +kernel
theorem d_X_digit_23 : decode c_X_digit 23 = .ok (.getfield 13, 3) := by decide +kernel
theorem d_X_digit_26 : decode c_X_digit 26 = .ok (.iload_n 1, 1) := by decide +kernel
theorem d_X_digit_27 : decode c_X_digit 27 = .ok (.laload, 1) := by decide +kernel
theorem d_X_digit_28 : decode c_X_digit 28 = .ok (.lstore 6, 2) := by decide +kernel
theorem d_X_digit_30 : decode c_X_digit 30 = .ok (.iload_n 2, 1) := by decide +kernel
theorem d_X_digit_31 : decode c_X_digit 31 = .ok (.ifCond .ne 17, 3) := by decide +kernel
theorem d_X_digit_34 : decode c_X_digit 34 = .ok (.lload 4, 2) := by decide +kernel
theorem d_X_digit_36 : decode c_X_digit 36 = .ok (.lload 6, 2) := by decide +kernel
theorem d_X_digit_38 : decode c_X_digit 38 = .ok (.invokestatic 60, 3) := by decide +kernel
theorem d_X_digit_41 : decode c_X_digit 41 = .ok (.iload_n 3, 1) := by decide +kernel
theorem d_X_digit_42 : decode c_X_digit 42 = .ok (.invokestatic 123, 3) := by decide +kernel
theorem d_X_digit_45 : decode c_X_digit 45 = .ok (.goto 16, 3) := by decide +kernel
theorem d_X_digit_48 : decode c_X_digit 48 = .ok (.lload 4, 2) := by decide +kernel
theorem d_X_digit_50 : decode c_X_digit 50 = .ok (.lload 6, 2) := by decide +kernel
theorem d_X_digit_52 : decode c_X_digit 52 = .ok (.invokestatic 64, 3) := by decide +kernel
theorem d_X_digit_55 : decode c_X_digit 55 = .ok (.lload 6, 2) := by decide +kernel
theorem d_X_digit_57 : decode c_X_digit 57 = .ok (.iload_n 3, 1) := by decide +kernel
theorem d_X_digit_58 : decode c_X_digit 58 = .ok (.invokestatic 127, 3) := by decide +kernel
theorem d_X_digit_61 : decode c_X_digit 61 = .ok (.istore 8, 2) := by decide +kernel
theorem d_X_digit_63 : decode c_X_digit 63 = .ok (.iload 8, 2) := by decide +kernel
theorem d_X_digit_65 : decode c_X_digit 65 = .ok (.iconst (-1), 1) := by decide +kernel
theorem d_X_digit_66 : decode c_X_digit 66 = .ok (.if_icmp .ne 13, 3) := by decide +kernel
theorem d_X_digit_69 : decode c_X_digit 69 = .ok (.new 130, 3) := by decide +kernel
theorem d_X_digit_72 : decode c_X_digit 72 = .ok (.dup, 1) := by decide +kernel
theorem d_X_digit_73 : decode c_X_digit 73 = .ok (.ldc 132, 2) := by decide +kernel
theorem d_X_digit_75 : decode c_X_digit 75 = .ok (.invokespecial 134, 3) := by decide +kernel
theorem d_X_digit_78 : decode c_X_digit 78 = .ok (.athrow, 1) := by decide +kernel
theorem d_X_digit_79 : decode c_X_digit 79 = .ok (.iload 8, 2) := by decide +kernel
theorem d_X_digit_81 : decode c_X_digit 81 = .ok (.ireturn, 1) := by decide +kernel
theorem d_X_told_0 : decode c_X_told 0 = .ok (.iload_n 2, 1) := by decide +kernel
theorem d_X_told_1 : decode c_X_told 1 = .ok (.tableswitch 137 0 5 #[39, 60, 81, 103, 109, 115], 39) := by decide +kernel
theorem d_X_told_40 : decode c_X_told 40 = .ok (.aload_n 0, 1) := by decide +kernel
theorem d_X_told_41 : decode c_X_told 41 = .ok (.iload_n 1, 1) := by decide +kernel
theorem d_X_told_42 : decode c_X_told 42 = .ok (.invokevirtual 45, 3) := by decide +kernel
theorem d_X_told_45 : decode c_X_told 45 = .ok (.ifCond .eq 12, 3) := by decide +kernel
theorem d_X_told_48 : decode c_X_told 48 = .ok (.aload_n 0, 1) := by decide +kernel
theorem d_X_told_49 : decode c_X_told 49 = .ok (.getfield 9, 3) := by decide +kernel
theorem d_X_told_52 : decode c_X_told 52 = .ok (.iload_n 1, 1) := by decide +kernel
theorem d_X_told_53 : decode c_X_told 53 = .ok (.laload, 1) := by decide +kernel
theorem d_X_told_54 : decode c_X_told 54 = .ok (.goto 6, 3) := by decide +kernel
theorem d_X_told_57 : decode c_X_told 57 = .ok (.ldc2_w 135, 3) := by decide +kernel
theorem d_X_told_60 : decode c_X_told 60 = .ok (.lreturn, 1) := by decide +kernel
theorem d_X_told_61 : decode c_X_told 61 = .ok (.aload_n 0, 1) := by decide +kernel
theorem d_X_told_62 : decode c_X_told 62 = .ok (.iload_n 1, 1) := by decide +kernel
theorem d_X_told_63 : decode c_X_told 63 = .ok (.invokevirtual 45, 3) := by decide +kernel
theorem d_X_told_66 : decode c_X_told 66 = .ok (.ifCond .eq 12, 3) := by decide +kernel
theorem d_X_told_69 : decode c_X_told 69 = .ok (.aload_n 0, 1) := by decide +kernel
theorem d_X_told_70 : decode c_X_told 70 = .ok (.getfield 13, 3) := by decide +kernel
theorem d_X_told_73 : decode c_X_told 73 = .ok (.iload_n 1, 1) := by decide +kernel
theorem d_X_told_74 : decode c_X_told 74 = .ok (.laload, 1) := by decide +kernel
theorem d_X_told_75 : decode c_X_told 75 = .ok (.goto 6, 3) := by decide +kernel
theorem d_X_told_78 : decode c_X_told 78 = .ok (.ldc2_w 135, 3) := by decide +kernel
theorem d_X_told_81 : decode c_X_told 81 = .ok (.lreturn, 1) := by decide +kernel
theorem d_X_told_82 : decode c_X_told 82 = .ok (.aload_n 0, 1) := by decide +kernel
theorem d_X_told_83 : decode c_X_told 83 = .ok (.iload_n 1, 1) := by decide +kernel
theorem d_X_told_84 : decode c_X_told 84 = .ok (.invokevirtual 45, 3) := by decide +kernel
theorem d_X_told_87 : decode c_X_told 87 = .ok (.ifCond .eq 13, 3) := by decide +kernel
theorem d_X_told_90 : decode c_X_told 90 = .ok (.aload_n 0, 1) := by decide +kernel
theorem d_X_told_91 : decode c_X_told 91 = .ok (.getfield 16, 3) := by decide +kernel
theorem d_X_told_94 : decode c_X_told 94 = .ok (.iload_n 1, 1) := by decide +kernel
theorem d_X_told_95 : decode c_X_told 95 = .ok (.iaload, 1) := by decide +kernel
theorem d_X_told_96 : decode c_X_told 96 = .ok (.i2l, 1) := by decide +kernel
theorem d_X_told_97 : decode c_X_told 97 = .ok (.goto 6, 3) := by decide +kernel
theorem d_X_told_100 : decode c_X_told 100 = .ok (.ldc2_w 135, 3) := by decide +kernel
theorem d_X_told_103 : decode c_X_told 103 = .ok (.lreturn, 1) := by decide +kernel
theorem d_X_told_104 : decode c_X_told 104 = .ok (.aload_n 0, 1) := by decide +kernel
theorem d_X_told_105 : decode c_X_told 105 = .ok (.getfield 137, 3) := by decide +kernel
theorem d_X_told_108 : decode c_X_told 108 = .ok (.i2l, 1) := by decide +kernel
theorem d_X_told_109 : decode c_X_told 109 = .ok (.lreturn, 1) := by decide +kernel
theorem d_X_told_110 : decode c_X_told 110 = .ok (.aload_n 0, 1) := by decide +kernel
theorem d_X_told_111 : decode c_X_told 111 = .ok (.getfield 104, 3) := by decide +kernel
theorem d_X_told_114 : decode c_X_told 114 = .ok (.i2l, 1) := by decide +kernel
theorem d_X_told_115 : decode c_X_told 115 = .ok (.lreturn, 1) := by decide +kernel
theorem d_X_told_116 : decode c_X_told 116 = .ok (.aload_n 0, 1) := by decide +kernel
theorem d_X_told_117 : decode c_X_told 117 = .ok (.iload_n 1, 1) := by decide +kernel
theorem d_X_told_118 : decode c_X_told 118 = .ok (.invokevirtual 71, 3) := by decide +kernel
theorem d_X_told_121 : decode c_X_told 121 = .ok (.astore_n 3, 1) := by decide +kernel
theorem d_X_told_122 : decode c_X_told 122 = .ok (.aload_n 3, 1) := by decide +kernel
theorem d_X_told_123 : decode c_X_told 123 = .ok (.ifnonnull 9, 3) := by decide +kernel
theorem d_X_told_126 : decode c_X_told 126 = .ok (.ldc2_w 135, 3) := by decide +kernel
theorem d_X_told_129 : decode c_X_told 129 = .ok (.goto 8, 3) := by decide +kernel
theorem d_X_told_132 : decode c_X_told 132 = .ok (.aload_n 3, 1) := by decide +kernel
theorem d_X_told_133 : decode c_X_told 133 = .ok (.getfield 83, 3) := by decide +kernel
theorem d_X_told_136 : decode c_X_told 136 = .ok (.i2l, 1) := by decide +kernel
theorem d_X_told_137 : decode c_X_told 137 = .ok (.lreturn, 1) := by decide +kernel
theorem d_X_told_138 : decode c_X_told 138 = .ok (.ldc2_w 135, 3) := by decide +kernel
theorem d_X_told_141 : decode c_X_told 141 = .ok (.lreturn, 1) := by decide +kernel
theorem d_X_clear_0 : decode c_X_clear 0 = .ok (.aload_n 0, 1) := by decide +kernel
theorem d_X_clear_1 : decode c_X_clear 1 = .ok (.iconst 0, 1) := by decide +kernel
theorem d_X_clear_2 : decode c_X_clear 2 = .ok (.putfield 137, 3) := by decide +kernel
theorem d_X_clear_5 : decode c_X_clear 5 = .ok (.aload_n 0, 1) := by decide +kernel
theorem d_X_clear_6 : decode c_X_clear 6 = .ok (.iconst 0, 1) := by decide +kernel
theorem d_X_clear_7 : decode c_X_clear 7 = .ok (.putfield 104, 3) := by decide +kernel
theorem d_X_clear_10 : decode c_X_clear 10 = .ok (.iconst 0, 1) := by decide +kernel
theorem d_X_clear_11 : decode c_X_clear 11 = .ok (.istore_n 1, 1) := by decide +kernel
theorem d_X_clear_12 : decode c_X_clear 12 = .ok (.iload_n 1, 1) := by decide +kernel
theorem d_X_clear_13 : decode c_X_clear 13 = .ok (.iconst 4, 1) := by decide +kernel
theorem d_X_clear_14 : decode c_X_clear 14 = .ok (.if_icmp .ge 24, 3) := by decide +kernel
theorem d_X_clear_17 : decode c_X_clear 17 = .ok (.aload_n 0, 1) := by decide +kernel
theorem d_X_clear_18 : decode c_X_clear 18 = .ok (.iload_n 1, 1) := by decide +kernel
theorem d_X_clear_19 : decode c_X_clear 19 = .ok (.invokevirtual 71, 3) := by decide +kernel
theorem d_X_clear_22 : decode c_X_clear 22 = .ok (.astore_n 2, 1) := by decide +kernel
theorem d_X_clear_23 : decode c_X_clear 23 = .ok (.aload_n 2, 1) := by decide +kernel
theorem d_X_clear_24 : decode c_X_clear 24 = .ok (.ifnull 8, 3) := by decide +kernel
theorem d_X_clear_27 : decode c_X_clear 27 = .ok (.aload_n 2, 1) := by decide +kernel
theorem d_X_clear_28 : decode c_X_clear 28 = .ok (.iconst 0, 1) := by decide +kernel
theorem d_X_clear_29 : decode c_X_clear 29 = .ok (.putfield 83, 3) := by decide +kernel
theorem d_X_clear_32 : decode c_X_clear 32 = .ok (.iinc 1 1, 3) := by decide +kernel
theorem d_X_clear_35 : decode c_X_clear 35 = .ok (.goto (-23), 3) := by decide +kernel
theorem d_X_clear_38 : decode c_X_clear 38 = .ok (.return_, 1) := by decide +kernel
theorem d_X_isAmount_0 : decode c_X_isAmount 0 = .ok (.iload_n 1, 1) := by decide +kernel
theorem d_X_isAmount_1 : decode c_X_isAmount 1 = .ok (.ifCond .lt 15, 3) := by decide +kernel
theorem d_X_isAmount_4 : decode c_X_isAmount 4 = .ok (.iload_n 1, 1) := by decide +kernel
theorem d_X_isAmount_5 : decode c_X_isAmount 5 = .ok (.aload_n 0, 1) := by decide +kernel
theorem d_X_isAmount_6 : decode c_X_isAmount 6 = .ok (.getfield 137, 3) := by decide +kernel
theorem d_X_isAmount_9 : decode c_X_isAmount 9 = .ok (.if_icmp .ge 7, 3) := by decide +kernel
theorem d_X_isAmount_12 : decode c_X_isAmount 12 = .ok (.iconst 1, 1) := by decide +kernel
theorem d_X_isAmount_13 : decode c_X_isAmount 13 = .ok (.goto 4, 3) := by decide +kernel
theorem d_X_isAmount_16 : decode c_X_isAmount 16 = .ok (.iconst 0, 1) := by decide +kernel
theorem d_X_isAmount_17 : decode c_X_isAmount 17 = .ok (.ireturn, 1) := by decide +kernel
theorem d_X_tableAt_0 : decode c_X_tableAt 0 = .ok (.iload_n 1, 1) := by decide +kernel
theorem d_X_tableAt_1 : decode c_X_tableAt 1 = .ok (.ifCond .lt 17, 3) := by decide +kernel
theorem d_X_tableAt_4 : decode c_X_tableAt 4 = .ok (.iload_n 1, 1) := by decide +kernel
theorem d_X_tableAt_5 : decode c_X_tableAt 5 = .ok (.iconst 4, 1) := by decide +kernel
theorem d_X_tableAt_6 : decode c_X_tableAt 6 = .ok (.if_icmp .ge 12, 3) := by decide +kernel
theorem d_X_tableAt_9 : decode c_X_tableAt 9 = .ok (.aload_n 0, 1) := by decide +kernel
theorem d_X_tableAt_10 : decode c_X_tableAt 10 = .ok (.getfield 25, 3) := by decide +kernel
theorem d_X_tableAt_13 : decode c_X_tableAt 13 = .ok (.iload_n 1, 1) := by decide +kernel
theorem d_X_tableAt_14 : decode c_X_tableAt 14 = .ok (.aaload, 1) := by decide +kernel
theorem d_X_tableAt_15 : decode c_X_tableAt 15 = .ok (.goto 4, 3) := by decide +kernel
theorem d_X_tableAt_18 : decode c_X_tableAt 18 = .ok (.aconst_null, 1) := by decide +kernel
theorem d_X_tableAt_19 : decode c_X_tableAt 19 = .ok (.areturn, 1) := by decide +kernel
theorem d_X_isTooFar_0 : decode c_X_isTooFar 0 = .ok (.lload_n 0, 1) := by decide +kernel
theorem d_X_isTooFar_1 : decode c_X_isTooFar 1 = .ok (.ldc2_w 140, 3) := by decide +kernel
theorem d_X_isTooFar_4 : decode c_X_isTooFar 4 = .ok (.lcmp, 1) := by decide +kernel
theorem d_X_isTooFar_5 : decode c_X_isTooFar 5 = .ok (.ifCond .le 11, 3) := by decide +kernel
theorem d_X_isTooFar_8 : decode c_X_isTooFar 8 = .ok (.lload_n 0, 1) := by decide +kernel
theorem d_X_isTooFar_9 : decode c_X_isTooFar 9 = .ok (.ldc2_w 142, 3) := by decide +kernel
theorem d_X_isTooFar_12 : decode c_X_isTooFar 12 = .ok (.lcmp, 1) := by decide +kernel
theorem d_X_isTooFar_13 : decode c_X_isTooFar 13 = .ok (.ifCond .lt 7, 3) := by decide +kernel
theorem d_X_isTooFar_16 : decode c_X_isTooFar 16 = .ok (.iconst 1, 1) := by decide +kernel
theorem d_X_isTooFar_17 : decode c_X_isTooFar 17 = .ok (.goto 4, 3) := by decide +kernel
theorem d_X_isTooFar_20 : decode c_X_isTooFar 20 = .ok (.iconst 0, 1) := by decide +kernel
theorem d_X_isTooFar_21 : decode c_X_isTooFar 21 = .ok (.ireturn, 1) := by decide +kernel
theorem d_X_keep_0 : decode c_X_keep 0 = .ok (.lload_n 1, 1) := by decide +kernel
theorem d_X_keep_1 : decode c_X_keep 1 = .ok (.lload_n 3, 1) := by decide +kernel
theorem d_X_keep_2 : decode c_X_keep 2 = .ok (.invokestatic 144, 3) := by decide +kernel
theorem d_X_keep_5 : decode c_X_keep 5 = .ok (.lstore 6, 2) := by decide +kernel
theorem d_X_keep_7 : decode c_X_keep 7 = .ok (.lload 6, 2) := by decide +kernel
theorem d_X_keep_9 : decode c_X_keep 9 = .ok (.lconst 1, 1) := by decide +kernel
theorem d_X_keep_10 : decode c_X_keep 10 = .ok (.lcmp, 1) := by decide +kernel
theorem d_X_keep_11 : decode c_X_keep 11 = .ok (.ifCond .lt 13, 3) := by decide +kernel
theorem d_X_keep_14 : decode c_X_keep 14 = .ok (.aload_n 0, 1) := by decide +kernel
theorem d_X_keep_15 : decode c_X_keep 15 = .ok (.getfield 137, 3) := by decide +kernel
theorem d_X_keep_18 : decode c_X_keep 18 = .ok (.sipush 500, 3) := by decide +kernel
theorem d_X_keep_21 : decode c_X_keep 21 = .ok (.if_icmp .lt 6, 3) := by decide +kernel
theorem d_X_keep_24 : decode c_X_keep 24 = .ok (.bipush (-2), 2) := by decide +kernel
theorem d_X_keep_26 : decode c_X_keep 26 = .ok (.ireturn, 1) := by decide +kernel
theorem d_X_keep_27 : decode c_X_keep 27 = .ok (.lload_n 3, 1) := by decide +kernel
theorem d_X_keep_28 : decode c_X_keep 28 = .ok (.lconst 0, 1) := by decide +kernel
theorem d_X_keep_29 : decode c_X_keep 29 = .ok (.lcmp, 1) := by decide +kernel
theorem d_X_keep_30 : decode c_X_keep 30 = .ok (.ifCond .ge 9, 3) := by decide +kernel
theorem d_X_keep_33 : decode c_X_keep 33 = .ok (.lload 6, 2) := by decide +kernel
theorem d_X_keep_35 : decode c_X_keep 35 = .ok (.lneg, 1) := by decide +kernel
theorem d_X_keep_36 : decode c_X_keep 36 = .ok (.goto 5, 3) := by decide +kernel
theorem d_X_keep_39 : decode c_X_keep 39 = .ok (.lload 6, 2) := by decide +kernel
theorem d_X_keep_41 : decode c_X_keep 41 = .ok (.lstore 8, 2) := by decide +kernel
theorem d_X_keep_43 : decode c_X_keep 43 = .ok (.lload_n 1, 1) := by decide +kernel
theorem d_X_keep_44 : decode c_X_keep 44 = .ok (.lload 8, 2) := by decide +kernel
theorem d_X_keep_46 : decode c_X_keep 46 = .ok (.ldiv, 1) := by decide +kernel
theorem d_X_keep_47 : decode c_X_keep 47 = .ok (.lstore 10, 2) := by decide +kernel
theorem d_X_keep_49 : decode c_X_keep 49 = .ok (.lload_n 3, 1) := by decide +kernel
theorem d_X_keep_50 : decode c_X_keep 50 = .ok (.lload 8, 2) := by decide +kernel
theorem d_X_keep_52 : decode c_X_keep 52 = .ok (.ldiv, 1) := by decide +kernel
theorem d_X_keep_53 : decode c_X_keep 53 = .ok (.lstore 12, 2) := by decide +kernel
theorem d_X_keep_55 : decode c_X_keep 55 = .ok (.lload 10, 2) := by decide +kernel
theorem d_X_keep_57 : decode c_X_keep 57 = .ok (.ldc2_w 147, 3) := by decide +kernel
theorem d_X_keep_60 : decode c_X_keep 60 = .ok (.lcmp, 1) := by decide +kernel
theorem d_X_keep_61 : decode c_X_keep 61 = .ok (.ifCond .lt 28, 3) := by decide +kernel
theorem d_X_keep_64 : decode c_X_keep 64 = .ok (.lload 10, 2) := by decide +kernel
theorem d_X_keep_66 : decode c_X_keep 66 = .ok (.ldc2_w 149, 3) := by decide +kernel
theorem d_X_keep_69 : decode c_X_keep 69 = .ok (.lcmp, 1) := by decide +kernel
theorem d_X_keep_70 : decode c_X_keep 70 = .ok (.ifCond .gt 19, 3) := by decide +kernel
theorem d_X_keep_73 : decode c_X_keep 73 = .ok (.lload 12, 2) := by decide +kernel
theorem d_X_keep_75 : decode c_X_keep 75 = .ok (.lconst 1, 1) := by decide +kernel
theorem d_X_keep_76 : decode c_X_keep 76 = .ok (.lcmp, 1) := by decide +kernel
theorem d_X_keep_77 : decode c_X_keep 77 = .ok (.ifCond .lt 12, 3) := by decide +kernel
theorem d_X_keep_80 : decode c_X_keep 80 = .ok (.lload 12, 2) := by decide +kernel
theorem d_X_keep_82 : decode c_X_keep 82 = .ok (.ldc2_w 149, 3) := by decide +kernel
theorem d_X_keep_85 : decode c_X_keep 85 = .ok (.lcmp, 1) := by decide +kernel
theorem d_X_keep_86 : decode c_X_keep 86 = .ok (.ifCond .le 6, 3) := by decide +kernel
theorem d_X_keep_89 : decode c_X_keep 89 = .ok (.bipush (-2), 2) := by decide +kernel
theorem d_X_keep_91 : decode c_X_keep 91 = .ok (.ireturn, 1) := by decide +kernel
theorem d_X_keep_92 : decode c_X_keep 92 = .ok (.aload_n 0, 1) := by decide +kernel
theorem d_X_keep_93 : decode c_X_keep 93 = .ok (.getfield 9, 3) := by decide +kernel
theorem d_X_keep_96 : decode c_X_keep 96 = .ok (.aload_n 0, 1) := by decide +kernel
theorem d_X_keep_97 : decode c_X_keep 97 = .ok (.getfield 137, 3) := by decide +kernel
theorem d_X_keep_100 : decode c_X_keep 100 = .ok (.lload 10, 2) := by decide +kernel
theorem d_X_keep_102 : decode c_X_keep 102 = .ok (.lastore, 1) := by decide +kernel
theorem d_X_keep_103 : decode c_X_keep 103 = .ok (.aload_n 0, 1) := by decide +kernel
theorem d_X_keep_104 : decode c_X_keep 104 = .ok (.getfield 13, 3) := by decide +kernel
theorem d_X_keep_107 : decode c_X_keep 107 = .ok (.aload_n 0, 1) := by decide +kernel
theorem d_X_keep_108 : decode c_X_keep 108 = .ok (.getfield 137, 3) := by decide +kernel
theorem d_X_keep_111 : decode c_X_keep 111 = .ok (.lload 12, 2) := by decide +kernel
theorem d_X_keep_113 : decode c_X_keep 113 = .ok (.lastore, 1) := by decide +kernel
theorem d_X_keep_114 : decode c_X_keep 114 = .ok (.aload_n 0, 1) := by decide +kernel
theorem d_X_keep_115 : decode c_X_keep 115 = .ok (.getfield 16, 3) := by decide +kernel
theorem d_X_keep_118 : decode c_X_keep 118 = .ok (.aload_n 0, 1) := by decide +kernel
theorem d_X_keep_119 : decode c_X_keep 119 = .ok (.getfield 137, 3) := by decide +kernel
theorem d_X_keep_122 : decode c_X_keep 122 = .ok (.iload 5, 2) := by decide +kernel
theorem d_X_keep_124 : decode c_X_keep 124 = .ok (.iastore, 1) := by decide +kernel
theorem d_X_keep_125 : decode c_X_keep 125 = .ok (.aload_n 0, 1) := by decide +kernel
theorem d_X_keep_126 : decode c_X_keep 126 = .ok (.dup, 1) := by decide +kernel
theorem d_X_keep_127 : decode c_X_keep 127 = .ok (.getfield 137, 3) := by decide +kernel
theorem d_X_keep_130 : decode c_X_keep 130 = .ok (.iconst 1, 1) := by decide +kernel
theorem d_X_keep_131 : decode c_X_keep 131 = .ok (.iadd, 1) := by decide +kernel
theorem d_X_keep_132 : decode c_X_keep 132 = .ok (.putfield 137, 3) := by decide +kernel
theorem d_X_keep_135 : decode c_X_keep 135 = .ok (.aload_n 0, 1) := by decide +kernel
theorem d_X_keep_136 : decode c_X_keep 136 = .ok (.getfield 137, 3) := by decide +kernel
theorem d_X_keep_139 : decode c_X_keep 139 = .ok (.iconst 1, 1) := by decide +kernel
theorem d_X_keep_140 : decode c_X_keep 140 = .ok (.isub, 1) := by decide +kernel
theorem d_X_keep_141 : decode c_X_keep 141 = .ok (.ireturn, 1) := by decide +kernel
theorem d_X_commonDivisor_0 : decode c_X_commonDivisor 0 = .ok (.lload_n 0, 1) := by decide +kernel
theorem d_X_commonDivisor_1 : decode c_X_commonDivisor 1 = .ok (.invokestatic 117, 3) := by decide +kernel
theorem d_X_commonDivisor_4 : decode c_X_commonDivisor 4 = .ok (.lstore 4, 2) := by decide +kernel
theorem d_X_commonDivisor_6 : decode c_X_commonDivisor 6 = .ok (.lload_n 2, 1) := by decide +kernel
theorem d_X_commonDivisor_7 : decode c_X_commonDivisor 7 = .ok (.invokestatic 117, 3) := by decide +kernel
theorem d_X_commonDivisor_10 : decode c_X_commonDivisor 10 = .ok (.lstore 6, 2) := by decide +kernel
theorem d_X_commonDivisor_12 : decode c_X_commonDivisor 12 = .ok (.iconst 0, 1) := by decide +kernel
theorem d_X_commonDivisor_13 : decode c_X_commonDivisor 13 = .ok (.istore 8, 2) := by decide +kernel
theorem d_X_commonDivisor_15 : decode c_X_commonDivisor 15 = .ok (.iload 8, 2) := by decide +kernel
theorem d_X_commonDivisor_17 : decode c_X_commonDivisor 17 = .ok (.sipush 1000, 3) := by decide +kernel
theorem d_X_commonDivisor_20 : decode c_X_commonDivisor 20 = .ok (.if_icmp .ge 31, 3) := by decide +kernel
theorem d_X_commonDivisor_23 : decode c_X_commonDivisor 23 = .ok (.lload 6, 2) := by decide +kernel
theorem d_X_commonDivisor_25 : decode c_X_commonDivisor 25 = .ok (.lconst 0, 1) := by decide +kernel
theorem d_X_commonDivisor_26 : decode c_X_commonDivisor 26 = .ok (.lcmp, 1) := by decide +kernel
theorem d_X_commonDivisor_27 : decode c_X_commonDivisor 27 = .ok (.ifCond .eq 24, 3) := by decide +kernel
theorem d_X_commonDivisor_30 : decode c_X_commonDivisor 30 = .ok (.lload 4, 2) := by decide +kernel
theorem d_X_commonDivisor_32 : decode c_X_commonDivisor 32 = .ok (.lload 6, 2) := by decide +kernel
theorem d_X_commonDivisor_34 : decode c_X_commonDivisor 34 = .ok (.lrem, 1) := by decide +kernel
theorem d_X_commonDivisor_35 : decode c_X_commonDivisor 35 = .ok (.lstore 9, 2) := by decide +kernel
theorem d_X_commonDivisor_37 : decode c_X_commonDivisor 37 = .ok (.lload 6, 2) := by decide +kernel
theorem d_X_commonDivisor_39 : decode c_X_commonDivisor 39 = .ok (.lstore 4, 2) := by decide +kernel
theorem d_X_commonDivisor_41 : decode c_X_commonDivisor 41 = .ok (.lload 9, 2) := by decide +kernel
theorem d_X_commonDivisor_43 : decode c_X_commonDivisor 43 = .ok (.lstore 6, 2) := by decide +kernel
theorem d_X_commonDivisor_45 : decode c_X_commonDivisor 45 = .ok (.iinc 8 1, 3) := by decide +kernel
theorem d_X_commonDivisor_48 : decode c_X_commonDivisor 48 = .ok (.goto (-33), 3) := by decide +kernel
theorem d_X_commonDivisor_51 : decode c_X_commonDivisor 51 = .ok (.lload 4, 2) := by decide +kernel
theorem d_X_commonDivisor_53 : decode c_X_commonDivisor 53 = .ok (.lreturn, 1) := by decide +kernel
theorem d_X_quotientDown_0 : decode c_X_quotientDown 0 = .ok (.lload_n 2, 1) := by decide +kernel
theorem d_X_quotientDown_1 : decode c_X_quotientDown 1 = .ok (.lconst 1, 1) := by decide +kernel
theorem d_X_quotientDown_2 : decode c_X_quotientDown 2 = .ok (.lcmp, 1) := by decide +kernel
theorem d_X_quotientDown_3 : decode c_X_quotientDown 3 = .ok (.ifCond .ge 7, 3) := by decide +kernel
theorem d_X_quotientDown_6 : decode c_X_quotientDown 6 = .ok (.lconst 0, 1) := by decide +kernel
theorem d_X_quotientDown_7 : decode c_X_quotientDown 7 = .ok (.goto 8, 3) := by decide +kernel
theorem d_X_quotientDown_10 : decode c_X_quotientDown 10 = .ok (.lload_n 0, 1) := by decide +kernel
theorem d_X_quotientDown_11 : decode c_X_quotientDown 11 = .ok (.lload_n 2, 1) := by decide +kernel
theorem d_X_quotientDown_12 : decode c_X_quotientDown 12 = .ok (.invokestatic 151, 3) := by decide +kernel
theorem d_X_quotientDown_15 : decode c_X_quotientDown 15 = .ok (.lreturn, 1) := by decide +kernel
theorem d_X_restOf_0 : decode c_X_restOf 0 = .ok (.lload_n 2, 1) := by decide +kernel
theorem d_X_restOf_1 : decode c_X_restOf 1 = .ok (.lconst 1, 1) := by decide +kernel
theorem d_X_restOf_2 : decode c_X_restOf 2 = .ok (.lcmp, 1) := by decide +kernel
theorem d_X_restOf_3 : decode c_X_restOf 3 = .ok (.ifCond .ge 7, 3) := by decide +kernel
theorem d_X_restOf_6 : decode c_X_restOf 6 = .ok (.lconst 0, 1) := by decide +kernel
theorem d_X_restOf_7 : decode c_X_restOf 7 = .ok (.goto 8, 3) := by decide +kernel
theorem d_X_restOf_10 : decode c_X_restOf 10 = .ok (.lload_n 0, 1) := by decide +kernel
theorem d_X_restOf_11 : decode c_X_restOf 11 = .ok (.lload_n 2, 1) := by decide +kernel
theorem d_X_restOf_12 : decode c_X_restOf 12 = .ok (.invokestatic 154, 3) := by decide +kernel
theorem d_X_restOf_15 : decode c_X_restOf 15 = .ok (.lreturn, 1) := by decide +kernel
theorem d_X_unitOfProduct_0 : decode c_X_unitOfProduct 0 = .ok (.iload_n 0, 1) := by decide +kernel
theorem d_X_unitOfProduct_1 : decode c_X_unitOfProduct 1 = .ok (.ifCond .eq 11, 3) := by decide +kernel
theorem d_X_unitOfProduct_4 : decode c_X_unitOfProduct 4 = .ok (.iload_n 0, 1) := by decide +kernel
theorem d_X_unitOfProduct_5 : decode c_X_unitOfProduct 5 = .ok (.iload_n 1, 1) := by decide +kernel
theorem d_X_unitOfProduct_6 : decode c_X_unitOfProduct 6 = .ok (.invokestatic 157, 3) := by decide +kernel
theorem d_X_unitOfProduct_9 : decode c_X_unitOfProduct 9 = .ok (.ifCond .eq 5, 3) := by decide +kernel
theorem d_X_unitOfProduct_12 : decode c_X_unitOfProduct 12 = .ok (.iload_n 1, 1) := by decide +kernel
theorem d_X_unitOfProduct_13 : decode c_X_unitOfProduct 13 = .ok (.ireturn, 1) := by decide +kernel
theorem d_X_unitOfProduct_14 : decode c_X_unitOfProduct 14 = .ok (.iload_n 1, 1) := by decide +kernel
theorem d_X_unitOfProduct_15 : decode c_X_unitOfProduct 15 = .ok (.ifCond .eq 11, 3) := by decide +kernel
theorem d_X_unitOfProduct_18 : decode c_X_unitOfProduct 18 = .ok (.iload_n 1, 1) := by decide +kernel
theorem d_X_unitOfProduct_19 : decode c_X_unitOfProduct 19 = .ok (.iload_n 0, 1) := by decide +kernel
theorem d_X_unitOfProduct_20 : decode c_X_unitOfProduct 20 = .ok (.invokestatic 157, 3) := by decide +kernel
theorem d_X_unitOfProduct_23 : decode c_X_unitOfProduct 23 = .ok (.ifCond .eq 5, 3) := by decide +kernel
theorem d_X_unitOfProduct_26 : decode c_X_unitOfProduct 26 = .ok (.iload_n 0, 1) := by decide +kernel
theorem d_X_unitOfProduct_27 : decode c_X_unitOfProduct 27 = .ok (.ireturn, 1) := by decide +kernel
theorem d_X_unitOfProduct_28 : decode c_X_unitOfProduct 28 = .ok (.iconst (-1), 1) := by decide +kernel
theorem d_X_unitOfProduct_29 : decode c_X_unitOfProduct 29 = .ok (.ireturn, 1) := by decide +kernel
theorem d_X_unitOfQuotient_0 : decode c_X_unitOfQuotient 0 = .ok (.iload_n 0, 1) := by decide +kernel
theorem d_X_unitOfQuotient_1 : decode c_X_unitOfQuotient 1 = .ok (.iload_n 1, 1) := by decide +kernel
theorem d_X_unitOfQuotient_2 : decode c_X_unitOfQuotient 2 = .ok (.if_icmp .ne 5, 3) := by decide +kernel
theorem d_X_unitOfQuotient_5 : decode c_X_unitOfQuotient 5 = .ok (.iconst 0, 1) := by decide +kernel
theorem d_X_unitOfQuotient_6 : decode c_X_unitOfQuotient 6 = .ok (.ireturn, 1) := by decide +kernel
theorem d_X_unitOfQuotient_7 : decode c_X_unitOfQuotient 7 = .ok (.iload_n 1, 1) := by decide +kernel
theorem d_X_unitOfQuotient_8 : decode c_X_unitOfQuotient 8 = .ok (.ifCond .eq 11, 3) := by decide +kernel
theorem d_X_unitOfQuotient_11 : decode c_X_unitOfQuotient 11 = .ok (.iload_n 1, 1) := by decide +kernel
theorem d_X_unitOfQuotient_12 : decode c_X_unitOfQuotient 12 = .ok (.iload_n 0, 1) := by decide +kernel
theorem d_X_unitOfQuotient_13 : decode c_X_unitOfQuotient 13 = .ok (.invokestatic 157, 3) := by decide +kernel
theorem d_X_unitOfQuotient_16 : decode c_X_unitOfQuotient 16 = .ok (.ifCond .eq 5, 3) := by decide +kernel
theorem d_X_unitOfQuotient_19 : decode c_X_unitOfQuotient 19 = .ok (.iload_n 0, 1) := by decide +kernel
theorem d_X_unitOfQuotient_20 : decode c_X_unitOfQuotient 20 = .ok (.ireturn, 1) := by decide +kernel
theorem d_X_unitOfQuotient_21 : decode c_X_unitOfQuotient 21 = .ok (.iconst (-1), 1) := by decide +kernel
theorem d_X_unitOfQuotient_22 : decode c_X_unitOfQuotient 22 = .ok (.ireturn, 1) := by decide +kernel
theorem d_X_isShareOf_0 : decode c_X_isShareOf 0 = .ok (.iload_n 0, 1) := by decide +kernel
theorem d_X_isShareOf_1 : decode c_X_isShareOf 1 = .ok (.iconst 3, 1) := by decide +kernel
theorem d_X_isShareOf_2 : decode c_X_isShareOf 2 = .ok (.if_icmp .ne 8, 3) := by decide +kernel
theorem d_X_isShareOf_5 : decode c_X_isShareOf 5 = .ok (.iload_n 1, 1) := by decide +kernel
theorem d_X_isShareOf_6 : decode c_X_isShareOf 6 = .ok (.iconst 2, 1) := by decide +kernel
theorem d_X_isShareOf_7 : decode c_X_isShareOf 7 = .ok (.if_icmp .eq 13, 3) := by decide +kernel
theorem d_X_isShareOf_10 : decode c_X_isShareOf 10 = .ok (.iload_n 0, 1) := by decide +kernel
theorem d_X_isShareOf_11 : decode c_X_isShareOf 11 = .ok (.iconst 4, 1) := by decide +kernel
theorem d_X_isShareOf_12 : decode c_X_isShareOf 12 = .ok (.if_icmp .ne 12, 3) := by decide +kernel
theorem d_X_isShareOf_15 : decode c_X_isShareOf 15 = .ok (.iload_n 1, 1) := by decide +kernel
theorem d_X_isShareOf_16 : decode c_X_isShareOf 16 = .ok (.iconst 1, 1) := by decide +kernel
theorem d_X_isShareOf_17 : decode c_X_isShareOf 17 = .ok (.if_icmp .ne 7, 3) := by decide +kernel
theorem d_X_isShareOf_20 : decode c_X_isShareOf 20 = .ok (.iconst 1, 1) := by decide +kernel
theorem d_X_isShareOf_21 : decode c_X_isShareOf 21 = .ok (.goto 4, 3) := by decide +kernel
theorem d_X_isShareOf_24 : decode c_X_isShareOf 24 = .ok (.iconst 0, 1) := by decide +kernel
theorem d_X_isShareOf_25 : decode c_X_isShareOf 25 = .ok (.ireturn, 1) := by decide +kernel
theorem d_X_goesUp_0 : decode c_X_goesUp 0 = .ok (.lload_n 3, 1) := by decide +kernel
theorem d_X_goesUp_1 : decode c_X_goesUp 1 = .ok (.lconst 0, 1) := by decide +kernel
theorem d_X_goesUp_2 : decode c_X_goesUp 2 = .ok (.lcmp, 1) := by decide +kernel
theorem d_X_goesUp_3 : decode c_X_goesUp 3 = .ok (.ifCond .ne 5, 3) := by decide +kernel
theorem d_X_goesUp_6 : decode c_X_goesUp 6 = .ok (.iconst 0, 1) := by decide +kernel
theorem d_X_goesUp_7 : decode c_X_goesUp 7 = .ok (.ireturn, 1) := by decide +kernel
theorem d_X_goesUp_8 : decode c_X_goesUp 8 = .ok (.ldc2_w 161, 3) := by decide +kernel
theorem d_X_goesUp_11 : decode c_X_goesUp 11 = .ok (.lload_n 3, 1) := by decide +kernel
theorem d_X_goesUp_12 : decode c_X_goesUp 12 = .ok (.lmul, 1) := by decide +kernel
theorem d_X_goesUp_13 : decode c_X_goesUp 13 = .ok (.lload 5, 2) := by decide +kernel
theorem d_X_goesUp_15 : decode c_X_goesUp 15 = .ok (.invokestatic 163, 3) := by decide +kernel
theorem d_X_goesUp_18 : decode c_X_goesUp 18 = .ok (.istore 7, 2) := by decide +kernel
theorem d_X_goesUp_20 : decode c_X_goesUp 20 = .ok (.iload_n 0, 1) := by decide +kernel
theorem d_X_goesUp_21 : decode c_X_goesUp 21 = .ok (.tableswitch 122 1 6 #[39, 41, 53, 65, 76, 98], 39) := by decide +kernel
theorem d_X_goesUp_60 : decode c_X_goesUp 60 = .ok (.iconst 1, 1) := by decide +kernel
theorem d_X_goesUp_61 : decode c_X_goesUp 61 = .ok (.ireturn, 1) := by decide +kernel
theorem d_X_goesUp_62 : decode c_X_goesUp 62 = .ok (.lload_n 1, 1) := by decide +kernel
theorem d_X_goesUp_63 : decode c_X_goesUp 63 = .ok (.lconst 0, 1) := by decide +kernel
theorem d_X_goesUp_64 : decode c_X_goesUp 64 = .ok (.lcmp, 1) := by decide +kernel
theorem d_X_goesUp_65 : decode c_X_goesUp 65 = .ok (.ifCond .ge 7, 3) := by decide +kernel
theorem d_X_goesUp_68 : decode c_X_goesUp 68 = .ok (.iconst 1, 1) := by decide +kernel
theorem d_X_goesUp_69 : decode c_X_goesUp 69 = .ok (.goto 4, 3) := by decide +kernel
theorem d_X_goesUp_72 : decode c_X_goesUp 72 = .ok (.iconst 0, 1) := by decide +kernel
theorem d_X_goesUp_73 : decode c_X_goesUp 73 = .ok (.ireturn, 1) := by decide +kernel
theorem d_X_goesUp_74 : decode c_X_goesUp 74 = .ok (.lload_n 1, 1) := by decide +kernel
theorem d_X_goesUp_75 : decode c_X_goesUp 75 = .ok (.lconst 0, 1) := by decide +kernel
theorem d_X_goesUp_76 : decode c_X_goesUp 76 = .ok (.lcmp, 1) := by decide +kernel
theorem d_X_goesUp_77 : decode c_X_goesUp 77 = .ok (.ifCond .lt 7, 3) := by decide +kernel
theorem d_X_goesUp_80 : decode c_X_goesUp 80 = .ok (.iconst 1, 1) := by decide +kernel
theorem d_X_goesUp_81 : decode c_X_goesUp 81 = .ok (.goto 4, 3) := by decide +kernel
theorem d_X_goesUp_84 : decode c_X_goesUp 84 = .ok (.iconst 0, 1) := by decide +kernel
theorem d_X_goesUp_85 : decode c_X_goesUp 85 = .ok (.ireturn, 1) := by decide +kernel
theorem d_X_goesUp_86 : decode c_X_goesUp 86 = .ok (.iload 7, 2) := by decide +kernel
theorem d_X_goesUp_88 : decode c_X_goesUp 88 = .ok (.ifCond .lt 7, 3) := by decide +kernel
theorem d_X_goesUp_91 : decode c_X_goesUp 91 = .ok (.iconst 1, 1) := by decide +kernel
theorem d_X_goesUp_92 : decode c_X_goesUp 92 = .ok (.goto 4, 3) := by decide +kernel
theorem d_X_goesUp_95 : decode c_X_goesUp 95 = .ok (.iconst 0, 1) := by decide +kernel
theorem d_X_goesUp_96 : decode c_X_goesUp 96 = .ok (.ireturn, 1) := by decide +kernel
theorem d_X_goesUp_97 : decode c_X_goesUp 97 = .ok (.iload 7, 2) := by decide +kernel
theorem d_X_goesUp_99 : decode c_X_goesUp 99 = .ok (.ifCond .gt 14, 3) := by decide +kernel
theorem d_X_goesUp_102 : decode c_X_goesUp 102 = .ok (.iload 7, 2) := by decide +kernel
theorem d_X_goesUp_104 : decode c_X_goesUp 104 = .ok (.ifCond .ne 13, 3) := by decide +kernel
theorem d_X_goesUp_107 : decode c_X_goesUp 107 = .ok (.lload_n 1, 1) := by decide +kernel
theorem d_X_goesUp_108 : decode c_X_goesUp 108 = .ok (.lconst 0, 1) := by decide +kernel
theorem d_X_goesUp_109 : decode c_X_goesUp 109 = .ok (.lcmp, 1) := by decide +kernel
theorem d_X_goesUp_110 : decode c_X_goesUp 110 = .ok (.ifCond .lt 7, 3) := by decide +kernel
theorem d_X_goesUp_113 : decode c_X_goesUp 113 = .ok (.iconst 1, 1) := by decide +kernel
theorem d_X_goesUp_114 : decode c_X_goesUp 114 = .ok (.goto 4, 3) := by decide +kernel
theorem d_X_goesUp_117 : decode c_X_goesUp 117 = .ok (.iconst 0, 1) := by decide +kernel
theorem d_X_goesUp_118 : decode c_X_goesUp 118 = .ok (.ireturn, 1) := by decide +kernel
theorem d_X_goesUp_119 : decode c_X_goesUp 119 = .ok (.iload 7, 2) := by decide +kernel
theorem d_X_goesUp_121 : decode c_X_goesUp 121 = .ok (.ifCond .gt 16, 3) := by decide +kernel
theorem d_X_goesUp_124 : decode c_X_goesUp 124 = .ok (.iload 7, 2) := by decide +kernel
theorem d_X_goesUp_126 : decode c_X_goesUp 126 = .ok (.ifCond .ne 15, 3) := by decide +kernel
theorem d_X_goesUp_129 : decode c_X_goesUp 129 = .ok (.lload_n 1, 1) := by decide +kernel
theorem d_X_goesUp_130 : decode c_X_goesUp 130 = .ok (.lconst 1, 1) := by decide +kernel
theorem d_X_goesUp_131 : decode c_X_goesUp 131 = .ok (.land, 1) := by decide +kernel
theorem d_X_goesUp_132 : decode c_X_goesUp 132 = .ok (.lconst 1, 1) := by decide +kernel
theorem d_X_goesUp_133 : decode c_X_goesUp 133 = .ok (.lcmp, 1) := by decide +kernel
theorem d_X_goesUp_134 : decode c_X_goesUp 134 = .ok (.ifCond .ne 7, 3) := by decide +kernel
theorem d_X_goesUp_137 : decode c_X_goesUp 137 = .ok (.iconst 1, 1) := by decide +kernel
theorem d_X_goesUp_138 : decode c_X_goesUp 138 = .ok (.goto 4, 3) := by decide +kernel
theorem d_X_goesUp_141 : decode c_X_goesUp 141 = .ok (.iconst 0, 1) := by decide +kernel
theorem d_X_goesUp_142 : decode c_X_goesUp 142 = .ok (.ireturn, 1) := by decide +kernel
theorem d_X_goesUp_143 : decode c_X_goesUp 143 = .ok (.iconst 0, 1) := by decide +kernel
theorem d_X_goesUp_144 : decode c_X_goesUp 144 = .ok (.ireturn, 1) := by decide +kernel
theorem d_X_keepBetween_0 : decode c_X_keepBetween 0 = .ok (.aload_n 1, 1) := by decide +kernel
theorem d_X_keepBetween_1 : decode c_X_keepBetween 1 = .ok (.getfield 168, 3) := by decide +kernel
theorem d_X_keepBetween_4 : decode c_X_keepBetween 4 = .ok (.iload_n 2, 1) := by decide +kernel
theorem d_X_keepBetween_5 : decode c_X_keepBetween 5 = .ok (.laload, 1) := by decide +kernel
theorem d_X_keepBetween_6 : decode c_X_keepBetween 6 = .ok (.aload_n 1, 1) := by decide +kernel
theorem d_X_keepBetween_7 : decode c_X_keepBetween 7 = .ok (.getfield 168, 3) := by decide +kernel
theorem d_X_keepBetween_10 : decode c_X_keepBetween 10 = .ok (.iload_n 2, 1) := by decide +kernel
theorem d_X_keepBetween_11 : decode c_X_keepBetween 11 = .ok (.iconst 1, 1) := by decide +kernel
theorem d_X_keepBetween_12 : decode c_X_keepBetween 12 = .ok (.isub, 1) := by decide +kernel
theorem d_X_keepBetween_13 : decode c_X_keepBetween 13 = .ok (.laload, 1) := by decide +kernel
theorem d_X_keepBetween_14 : decode c_X_keepBetween 14 = .ok (.lsub, 1) := by decide +kernel
theorem d_X_keepBetween_15 : decode c_X_keepBetween 15 = .ok (.lstore 4, 2) := by decide +kernel
theorem d_X_keepBetween_17 : decode c_X_keepBetween 17 = .ok (.aload_n 1, 1) := by decide +kernel
theorem d_X_keepBetween_18 : decode c_X_keepBetween 18 = .ok (.getfield 91, 3) := by decide +kernel
theorem d_X_keepBetween_21 : decode c_X_keepBetween 21 = .ok (.iload_n 2, 1) := by decide +kernel
theorem d_X_keepBetween_22 : decode c_X_keepBetween 22 = .ok (.laload, 1) := by decide +kernel
theorem d_X_keepBetween_23 : decode c_X_keepBetween 23 = .ok (.aload_n 1, 1) := by decide +kernel
theorem d_X_keepBetween_24 : decode c_X_keepBetween 24 = .ok (.getfield 91, 3) := by decide +kernel
theorem d_X_keepBetween_27 : decode c_X_keepBetween 27 = .ok (.iload_n 2, 1) := by decide +kernel
theorem d_X_keepBetween_28 : decode c_X_keepBetween 28 = .ok (.iconst 1, 1) := by decide +kernel
theorem d_X_keepBetween_29 : decode c_X_keepBetween 29 = .ok (.isub, 1) := by decide +kernel
theorem d_X_keepBetween_30 : decode c_X_keepBetween 30 = .ok (.laload, 1) := by decide +kernel
theorem d_X_keepBetween_31 : decode c_X_keepBetween 31 = .ok (.lsub, 1) := by decide +kernel
theorem d_X_keepBetween_32 : decode c_X_keepBetween 32 = .ok (.lstore 6, 2) := by decide +kernel
theorem d_X_keepBetween_34 : decode c_X_keepBetween 34 = .ok (.aload_n 0, 1) := by decide +kernel
theorem d_X_keepBetween_35 : decode c_X_keepBetween 35 = .ok (.getfield 9, 3) := by decide +kernel
theorem d_X_keepBetween_38 : decode c_X_keepBetween 38 = .ok (.iload_n 3, 1) := by decide +kernel
theorem d_X_keepBetween_39 : decode c_X_keepBetween 39 = .ok (.laload, 1) := by decide +kernel
theorem d_X_keepBetween_40 : decode c_X_keepBetween 40 = .ok (.aload_n 1, 1) := by decide +kernel
theorem d_X_keepBetween_41 : decode c_X_keepBetween 41 = .ok (.getfield 94, 3) := by decide +kernel
theorem d_X_keepBetween_44 : decode c_X_keepBetween 44 = .ok (.lmul, 1) := by decide +kernel
theorem d_X_keepBetween_45 : decode c_X_keepBetween 45 = .ok (.aload_n 1, 1) := by decide +kernel
theorem d_X_keepBetween_46 : decode c_X_keepBetween 46 = .ok (.getfield 168, 3) := by decide +kernel
theorem d_X_keepBetween_49 : decode c_X_keepBetween 49 = .ok (.iload_n 2, 1) := by decide +kernel
theorem d_X_keepBetween_50 : decode c_X_keepBetween 50 = .ok (.iconst 1, 1) := by decide +kernel
theorem d_X_keepBetween_51 : decode c_X_keepBetween 51 = .ok (.isub, 1) := by decide +kernel
theorem d_X_keepBetween_52 : decode c_X_keepBetween 52 = .ok (.laload, 1) := by decide +kernel
theorem d_X_keepBetween_53 : decode c_X_keepBetween 53 = .ok (.aload_n 0, 1) := by decide +kernel
theorem d_X_keepBetween_54 : decode c_X_keepBetween 54 = .ok (.getfield 13, 3) := by decide +kernel
theorem d_X_keepBetween_57 : decode c_X_keepBetween 57 = .ok (.iload_n 3, 1) := by decide +kernel
theorem d_X_keepBetween_58 : decode c_X_keepBetween 58 = .ok (.laload, 1) := by decide +kernel
theorem d_X_keepBetween_59 : decode c_X_keepBetween 59 = .ok (.lmul, 1) := by decide +kernel
theorem d_X_keepBetween_60 : decode c_X_keepBetween 60 = .ok (.lsub, 1) := by decide +kernel
theorem d_X_keepBetween_61 : decode c_X_keepBetween 61 = .ok (.lstore 8, 2) := by decide +kernel
theorem d_X_keepBetween_63 : decode c_X_keepBetween 63 = .ok (.aload_n 1, 1) := by decide +kernel
theorem d_X_keepBetween_64 : decode c_X_keepBetween 64 = .ok (.getfield 91, 3) := by decide +kernel
theorem d_X_keepBetween_67 : decode c_X_keepBetween 67 = .ok (.iload_n 2, 1) := by decide +kernel
theorem d_X_keepBetween_68 : decode c_X_keepBetween 68 = .ok (.iconst 1, 1) := by decide +kernel
theorem d_X_keepBetween_69 : decode c_X_keepBetween 69 = .ok (.isub, 1) := by decide +kernel
theorem d_X_keepBetween_70 : decode c_X_keepBetween 70 = .ok (.laload, 1) := by decide +kernel
theorem d_X_keepBetween_71 : decode c_X_keepBetween 71 = .ok (.lload 4, 2) := by decide +kernel
theorem d_X_keepBetween_73 : decode c_X_keepBetween 73 = .ok (.lmul, 1) := by decide +kernel
theorem d_X_keepBetween_74 : decode c_X_keepBetween 74 = .ok (.aload_n 0, 1) := by decide +kernel
theorem d_X_keepBetween_75 : decode c_X_keepBetween 75 = .ok (.getfield 13, 3) := by decide +kernel
theorem d_X_keepBetween_78 : decode c_X_keepBetween 78 = .ok (.iload_n 3, 1) := by decide +kernel
theorem d_X_keepBetween_79 : decode c_X_keepBetween 79 = .ok (.laload, 1) := by decide +kernel
theorem d_X_keepBetween_80 : decode c_X_keepBetween 80 = .ok (.lmul, 1) := by decide +kernel
theorem d_X_keepBetween_81 : decode c_X_keepBetween 81 = .ok (.lload 6, 2) := by decide +kernel
theorem d_X_keepBetween_83 : decode c_X_keepBetween 83 = .ok (.lload 8, 2) := by decide +kernel
theorem d_X_keepBetween_85 : decode c_X_keepBetween 85 = .ok (.lmul, 1) := by decide +kernel
theorem d_X_keepBetween_86 : decode c_X_keepBetween 86 = .ok (.ladd, 1) := by decide +kernel
theorem d_X_keepBetween_87 : decode c_X_keepBetween 87 = .ok (.lstore 10, 2) := by decide +kernel
theorem d_X_keepBetween_89 : decode c_X_keepBetween 89 = .ok (.aload_n 0, 1) := by decide +kernel
theorem d_X_keepBetween_90 : decode c_X_keepBetween 90 = .ok (.lload 10, 2) := by decide +kernel
theorem d_X_keepBetween_92 : decode c_X_keepBetween 92 = .ok (.lload 4, 2) := by decide +kernel
theorem d_X_keepBetween_94 : decode c_X_keepBetween 94 = .ok (.aload_n 0, 1) := by decide +kernel
theorem d_X_keepBetween_95 : decode c_X_keepBetween 95 = .ok (.getfield 13, 3) := by decide +kernel
theorem d_X_keepBetween_98 : decode c_X_keepBetween 98 = .ok (.iload_n 3, 1) := by decide +kernel
theorem d_X_keepBetween_99 : decode c_X_keepBetween 99 = .ok (.laload, 1) := by decide +kernel
theorem d_X_keepBetween_100 : decode c_X_keepBetween 100 = .ok (.lmul, 1) := by decide +kernel
theorem d_X_keepBetween_101 : decode c_X_keepBetween 101 = .ok (.aload_n 1, 1) := by decide +kernel
theorem d_X_keepBetween_102 : decode c_X_keepBetween 102 = .ok (.getfield 94, 3) := by decide +kernel
theorem d_X_keepBetween_105 : decode c_X_keepBetween 105 = .ok (.lmul, 1) := by decide +kernel
theorem d_X_keepBetween_106 : decode c_X_keepBetween 106 = .ok (.iconst 0, 1) := by decide +kernel
theorem d_X_keepBetween_107 : decode c_X_keepBetween 107 = .ok (.invokevirtual 41, 3) := by decide +kernel
theorem d_X_keepBetween_110 : decode c_X_keepBetween 110 = .ok (.ireturn, 1) := by decide +kernel
theorem d_X_sumOfWeights_0 : decode c_X_sumOfWeights 0 = .ok (.lconst 0, 1) := by decide +kernel
theorem d_X_sumOfWeights_1 : decode c_X_sumOfWeights 1 = .ok (.lstore_n 1, 1) := by decide +kernel
theorem d_X_sumOfWeights_2 : decode c_X_sumOfWeights 2 = .ok (.iconst 0, 1) := by decide +kernel
theorem d_X_sumOfWeights_3 : decode c_X_sumOfWeights 3 = .ok (.istore_n 3, 1) := by decide +kernel
theorem d_X_sumOfWeights_4 : decode c_X_sumOfWeights 4 = .ok (.iload_n 3, 1) := by decide +kernel
theorem d_X_sumOfWeights_5 : decode c_X_sumOfWeights 5 = .ok (.aload_n 0, 1) := by decide +kernel
theorem d_X_sumOfWeights_6 : decode c_X_sumOfWeights 6 = .ok (.getfield 104, 3) := by decide +kernel
theorem d_X_sumOfWeights_9 : decode c_X_sumOfWeights 9 = .ok (.if_icmp .ge 18, 3) := by decide +kernel
theorem d_X_sumOfWeights_12 : decode c_X_sumOfWeights 12 = .ok (.lload_n 1, 1) := by decide +kernel
theorem d_X_sumOfWeights_13 : decode c_X_sumOfWeights 13 = .ok (.aload_n 0, 1) := by decide +kernel
theorem d_X_sumOfWeights_14 : decode c_X_sumOfWeights 14 = .ok (.getfield 20, 3) := by decide +kernel
theorem d_X_sumOfWeights_17 : decode c_X_sumOfWeights 17 = .ok (.iload_n 3, 1) := by decide +kernel
theorem d_X_sumOfWeights_18 : decode c_X_sumOfWeights 18 = .ok (.laload, 1) := by decide +kernel
theorem d_X_sumOfWeights_19 : decode c_X_sumOfWeights 19 = .ok (.ladd, 1) := by decide +kernel
theorem d_X_sumOfWeights_20 : decode c_X_sumOfWeights 20 = .ok (.lstore_n 1, 1) := by decide +kernel
theorem d_X_sumOfWeights_21 : decode c_X_sumOfWeights 21 = .ok (.iinc 3 1, 3) := by decide +kernel
theorem d_X_sumOfWeights_24 : decode c_X_sumOfWeights 24 = .ok (.goto (-20), 3) := by decide +kernel
theorem d_X_sumOfWeights_27 : decode c_X_sumOfWeights 27 = .ok (.lload_n 1, 1) := by decide +kernel
theorem d_X_sumOfWeights_28 : decode c_X_sumOfWeights 28 = .ok (.lreturn, 1) := by decide +kernel
theorem d_X_thousandthsOf_0 : decode c_X_thousandthsOf 0 = .ok (.lload_n 2, 1) := by decide +kernel
theorem d_X_thousandthsOf_1 : decode c_X_thousandthsOf 1 = .ok (.aload_n 0, 1) := by decide +kernel
theorem d_X_thousandthsOf_2 : decode c_X_thousandthsOf 2 = .ok (.getfield 20, 3) := by decide +kernel
theorem d_X_thousandthsOf_5 : decode c_X_thousandthsOf 5 = .ok (.iload_n 1, 1) := by decide +kernel
theorem d_X_thousandthsOf_6 : decode c_X_thousandthsOf 6 = .ok (.laload, 1) := by decide +kernel
theorem d_X_thousandthsOf_7 : decode c_X_thousandthsOf 7 = .ok (.lmul, 1) := by decide +kernel
theorem d_X_thousandthsOf_8 : decode c_X_thousandthsOf 8 = .ok (.lstore 6, 2) := by decide +kernel
theorem d_X_thousandthsOf_10 : decode c_X_thousandthsOf 10 = .ok (.lload 6, 2) := by decide +kernel
theorem d_X_thousandthsOf_12 : decode c_X_thousandthsOf 12 = .ok (.lload 4, 2) := by decide +kernel
theorem d_X_thousandthsOf_14 : decode c_X_thousandthsOf 14 = .ok (.invokestatic 64, 3) := by decide +kernel
theorem d_X_thousandthsOf_17 : decode c_X_thousandthsOf 17 = .ok (.lstore 8, 2) := by decide +kernel
theorem d_X_thousandthsOf_19 : decode c_X_thousandthsOf 19 = .ok (.lconst 0, 1) := by decide +kernel
theorem d_X_thousandthsOf_20 : decode c_X_thousandthsOf 20 = .ok (.lstore 10, 2) := by decide +kernel
theorem d_X_thousandthsOf_22 : decode c_X_thousandthsOf 22 = .ok (.lconst 0, 1) := by decide +kernel
theorem d_X_thousandthsOf_23 : decode c_X_thousandthsOf 23 = .ok (.lstore 12, 2) := by decide +kernel
theorem d_X_thousandthsOf_25 : decode c_X_thousandthsOf 25 = .ok (.iconst 0, 1) := by decide +kernel
theorem d_X_thousandthsOf_26 : decode c_X_thousandthsOf 26 = .ok (.istore 14, 2) := by decide +kernel
theorem d_X_thousandthsOf_28 : decode c_X_thousandthsOf 28 = .ok (.iload 14, 2) := by decide +kernel
theorem d_X_thousandthsOf_30 : decode c_X_thousandthsOf 30 = .ok (.aload_n 0, 1) := by decide +kernel
theorem d_X_thousandthsOf_31 : decode c_X_thousandthsOf 31 = .ok (.getfield 104, 3) := by decide +kernel
theorem d_X_thousandthsOf_34 : decode c_X_thousandthsOf 34 = .ok (.if_icmp .ge 60, 3) := by decide +kernel
theorem d_X_thousandthsOf_37 : decode c_X_thousandthsOf 37 = .ok (.lload_n 2, 1) := by decide +kernel
theorem d_X_thousandthsOf_38 : decode c_X_thousandthsOf 38 = .ok (.aload_n 0, 1) := by decide +kernel
theorem d_X_thousandthsOf_39 : decode c_X_thousandthsOf 39 = .ok (.getfield 20, 3) := by decide +kernel
theorem d_X_thousandthsOf_42 : decode c_X_thousandthsOf 42 = .ok (.iload 14, 2) := by decide +kernel
theorem d_X_thousandthsOf_44 : decode c_X_thousandthsOf 44 = .ok (.laload, 1) := by decide +kernel
theorem d_X_thousandthsOf_45 : decode c_X_thousandthsOf 45 = .ok (.lmul, 1) := by decide +kernel
theorem d_X_thousandthsOf_46 : decode c_X_thousandthsOf 46 = .ok (.lload 4, 2) := by decide +kernel
theorem d_X_thousandthsOf_48 : decode c_X_thousandthsOf 48 = .ok (.invokestatic 64, 3) := by decide +kernel
theorem d_X_thousandthsOf_51 : decode c_X_thousandthsOf 51 = .ok (.lstore 15, 2) := by decide +kernel
theorem d_X_thousandthsOf_53 : decode c_X_thousandthsOf 53 = .ok (.lload 10, 2) := by decide +kernel
theorem d_X_thousandthsOf_55 : decode c_X_thousandthsOf 55 = .ok (.lload 15, 2) := by decide +kernel
theorem d_X_thousandthsOf_57 : decode c_X_thousandthsOf 57 = .ok (.ladd, 1) := by decide +kernel
theorem d_X_thousandthsOf_58 : decode c_X_thousandthsOf 58 = .ok (.lstore 10, 2) := by decide +kernel
theorem d_X_thousandthsOf_60 : decode c_X_thousandthsOf 60 = .ok (.lload 15, 2) := by decide +kernel
theorem d_X_thousandthsOf_62 : decode c_X_thousandthsOf 62 = .ok (.lload 8, 2) := by decide +kernel
theorem d_X_thousandthsOf_64 : decode c_X_thousandthsOf 64 = .ok (.lcmp, 1) := by decide +kernel
theorem d_X_thousandthsOf_65 : decode c_X_thousandthsOf 65 = .ok (.ifCond .gt 17, 3) := by decide +kernel
theorem d_X_thousandthsOf_68 : decode c_X_thousandthsOf 68 = .ok (.lload 15, 2) := by decide +kernel
theorem d_X_thousandthsOf_70 : decode c_X_thousandthsOf 70 = .ok (.lload 8, 2) := by decide +kernel
theorem d_X_thousandthsOf_72 : decode c_X_thousandthsOf 72 = .ok (.lcmp, 1) := by decide +kernel
theorem d_X_thousandthsOf_73 : decode c_X_thousandthsOf 73 = .ok (.ifCond .ne 15, 3) := by decide +kernel
theorem d_X_thousandthsOf_76 : decode c_X_thousandthsOf 76 = .ok (.iload 14, 2) := by decide +kernel
theorem d_X_thousandthsOf_78 : decode c_X_thousandthsOf 78 = .ok (.iload_n 1, 1) := by decide +kernel
theorem d_X_thousandthsOf_79 : decode c_X_thousandthsOf 79 = .ok (.if_icmp .ge 9, 3) := by decide +kernel
theorem d_X_thousandthsOf_82 : decode c_X_thousandthsOf 82 = .ok (.lload 12, 2) := by decide +kernel
theorem d_X_thousandthsOf_84 : decode c_X_thousandthsOf 84 = .ok (.lconst 1, 1) := by decide +kernel
theorem d_X_thousandthsOf_85 : decode c_X_thousandthsOf 85 = .ok (.ladd, 1) := by decide +kernel
theorem d_X_thousandthsOf_86 : decode c_X_thousandthsOf 86 = .ok (.lstore 12, 2) := by decide +kernel
theorem d_X_thousandthsOf_88 : decode c_X_thousandthsOf 88 = .ok (.iinc 14 1, 3) := by decide +kernel
theorem d_X_thousandthsOf_91 : decode c_X_thousandthsOf 91 = .ok (.goto (-63), 3) := by decide +kernel
theorem d_X_thousandthsOf_94 : decode c_X_thousandthsOf 94 = .ok (.lload 10, 2) := by decide +kernel
theorem d_X_thousandthsOf_96 : decode c_X_thousandthsOf 96 = .ok (.lload 4, 2) := by decide +kernel
theorem d_X_thousandthsOf_98 : decode c_X_thousandthsOf 98 = .ok (.invokestatic 60, 3) := by decide +kernel
theorem d_X_thousandthsOf_101 : decode c_X_thousandthsOf 101 = .ok (.lstore 14, 2) := by decide +kernel
theorem d_X_thousandthsOf_103 : decode c_X_thousandthsOf 103 = .ok (.lload 6, 2) := by decide +kernel
theorem d_X_thousandthsOf_105 : decode c_X_thousandthsOf 105 = .ok (.lload 4, 2) := by decide +kernel
theorem d_X_thousandthsOf_107 : decode c_X_thousandthsOf 107 = .ok (.invokestatic 60, 3) := by decide +kernel
theorem d_X_thousandthsOf_110 : decode c_X_thousandthsOf 110 = .ok (.lstore 16, 2) := by decide +kernel
theorem d_X_thousandthsOf_112 : decode c_X_thousandthsOf 112 = .ok (.lload 12, 2) := by decide +kernel
theorem d_X_thousandthsOf_114 : decode c_X_thousandthsOf 114 = .ok (.lload 14, 2) := by decide +kernel
theorem d_X_thousandthsOf_116 : decode c_X_thousandthsOf 116 = .ok (.lcmp, 1) := by decide +kernel
theorem d_X_thousandthsOf_117 : decode c_X_thousandthsOf 117 = .ok (.ifCond .ge 10, 3) := by decide +kernel
theorem d_X_thousandthsOf_120 : decode c_X_thousandthsOf 120 = .ok (.lload 16, 2) := by decide +kernel
theorem d_X_thousandthsOf_122 : decode c_X_thousandthsOf 122 = .ok (.lconst 1, 1) := by decide +kernel
theorem d_X_thousandthsOf_123 : decode c_X_thousandthsOf 123 = .ok (.ladd, 1) := by decide +kernel
theorem d_X_thousandthsOf_124 : decode c_X_thousandthsOf 124 = .ok (.goto 5, 3) := by decide +kernel
theorem d_X_thousandthsOf_127 : decode c_X_thousandthsOf 127 = .ok (.lload 16, 2) := by decide +kernel
theorem d_X_thousandthsOf_129 : decode c_X_thousandthsOf 129 = .ok (.lreturn, 1) := by decide +kernel
theorem d_X_digitBefore_0 : decode c_X_digitBefore 0 = .ok (.iload_n 2, 1) := by decide +kernel
theorem d_X_digitBefore_1 : decode c_X_digitBefore 1 = .ok (.ifCond .lt 9, 3) := by decide +kernel
theorem d_X_digitBefore_4 : decode c_X_digitBefore 4 = .ok (.iload_n 2, 1) := by decide +kernel
theorem d_X_digitBefore_5 : decode c_X_digitBefore 5 = .ok (.bipush 10, 2) := by decide +kernel
theorem d_X_digitBefore_7 : decode c_X_digitBefore 7 = .ok (.if_icmp .lt 5, 3) := by decide +kernel
theorem d_X_digitBefore_10 : decode c_X_digitBefore 10 = .ok (.iconst (-1), 1) := by decide +kernel
theorem d_X_digitBefore_11 : decode c_X_digitBefore 11 = .ok (.ireturn, 1) := by decide +kernel
theorem d_X_digitBefore_12 : decode c_X_digitBefore 12 = .ok (.lload_n 0, 1) := by decide +kernel
theorem d_X_digitBefore_13 : decode c_X_digitBefore 13 = .ok (.lstore_n 3, 1) := by decide +kernel
theorem d_X_digitBefore_14 : decode c_X_digitBefore 14 = .ok (.iconst 0, 1) := by decide +kernel
theorem d_X_digitBefore_15 : decode c_X_digitBefore 15 = .ok (.istore 5, 2) := by decide +kernel
theorem d_X_digitBefore_17 : decode c_X_digitBefore 17 = .ok (.iload 5, 2) := by decide +kernel
theorem d_X_digitBefore_19 : decode c_X_digitBefore 19 = .ok (.iload_n 2, 1) := by decide +kernel
theorem d_X_digitBefore_20 : decode c_X_digitBefore 20 = .ok (.if_icmp .ge 15, 3) := by decide +kernel
theorem d_X_digitBefore_23 : decode c_X_digitBefore 23 = .ok (.lload_n 3, 1) := by decide +kernel
theorem d_X_digitBefore_24 : decode c_X_digitBefore 24 = .ok (.ldc2_w 171, 3) := by decide +kernel
theorem d_X_digitBefore_27 : decode c_X_digitBefore 27 = .ok (.ldiv, 1) := by decide +kernel
theorem d_X_digitBefore_28 : decode c_X_digitBefore 28 = .ok (.lstore_n 3, 1) := by decide +kernel
theorem d_X_digitBefore_29 : decode c_X_digitBefore 29 = .ok (.iinc 5 1, 3) := by decide +kernel
theorem d_X_digitBefore_32 : decode c_X_digitBefore 32 = .ok (.goto (-15), 3) := by decide +kernel
theorem d_X_digitBefore_35 : decode c_X_digitBefore 35 = .ok (.iload_n 2, 1) := by decide +kernel
theorem d_X_digitBefore_36 : decode c_X_digitBefore 36 = .ok (.ifCond .le 13, 3) := by decide +kernel
theorem d_X_digitBefore_39 : decode c_X_digitBefore 39 = .ok (.lload_n 3, 1) := by decide +kernel
theorem d_X_digitBefore_40 : decode c_X_digitBefore 40 = .ok (.lconst 0, 1) := by decide +kernel
theorem d_X_digitBefore_41 : decode c_X_digitBefore 41 = .ok (.lcmp, 1) := by decide +kernel
theorem d_X_digitBefore_42 : decode c_X_digitBefore 42 = .ok (.ifCond .ne 7, 3) := by decide +kernel
theorem d_X_digitBefore_45 : decode c_X_digitBefore 45 = .ok (.iconst (-1), 1) := by decide +kernel
theorem d_X_digitBefore_46 : decode c_X_digitBefore 46 = .ok (.goto 9, 3) := by decide +kernel
theorem d_X_digitBefore_49 : decode c_X_digitBefore 49 = .ok (.lload_n 3, 1) := by decide +kernel
theorem d_X_digitBefore_50 : decode c_X_digitBefore 50 = .ok (.ldc2_w 171, 3) := by decide +kernel
theorem d_X_digitBefore_53 : decode c_X_digitBefore 53 = .ok (.lrem, 1) := by decide +kernel
theorem d_X_digitBefore_54 : decode c_X_digitBefore 54 = .ok (.l2i, 1) := by decide +kernel
theorem d_X_digitBefore_55 : decode c_X_digitBefore 55 = .ok (.ireturn, 1) := by decide +kernel
theorem d_X_digitBehind_0 : decode c_X_digitBehind 0 = .ok (.iload 4, 2) := by decide +kernel
theorem d_X_digitBehind_2 : decode c_X_digitBehind 2 = .ok (.ifCond .lt 10, 3) := by decide +kernel
theorem d_X_digitBehind_5 : decode c_X_digitBehind 5 = .ok (.iload 4, 2) := by decide +kernel
theorem d_X_digitBehind_7 : decode c_X_digitBehind 7 = .ok (.bipush 30, 2) := by decide +kernel
theorem d_X_digitBehind_9 : decode c_X_digitBehind 9 = .ok (.if_icmp .lt 5, 3) := by decide +kernel
theorem d_X_digitBehind_12 : decode c_X_digitBehind 12 = .ok (.iconst (-1), 1) := by decide +kernel
theorem d_X_digitBehind_13 : decode c_X_digitBehind 13 = .ok (.ireturn, 1) := by decide +kernel
theorem d_X_digitBehind_14 : decode c_X_digitBehind 14 = .ok (.lload_n 0, 1) := by decide +kernel
theorem d_X_digitBehind_15 : decode c_X_digitBehind 15 = .ok (.lstore 5, 2) := by decide +kernel
theorem d_X_digitBehind_17 : decode c_X_digitBehind 17 = .ok (.iconst 0, 1) := by decide +kernel
theorem d_X_digitBehind_18 : decode c_X_digitBehind 18 = .ok (.istore 7, 2) := by decide +kernel
theorem d_X_digitBehind_20 : decode c_X_digitBehind 20 = .ok (.iload 7, 2) := by decide +kernel
theorem d_X_digitBehind_22 : decode c_X_digitBehind 22 = .ok (.iload 4, 2) := by decide +kernel
theorem d_X_digitBehind_24 : decode c_X_digitBehind 24 = .ok (.if_icmp .ge 21, 3) := by decide +kernel
theorem d_X_digitBehind_27 : decode c_X_digitBehind 27 = .ok (.lload 5, 2) := by decide +kernel
theorem d_X_digitBehind_29 : decode c_X_digitBehind 29 = .ok (.ldc2_w 171, 3) := by decide +kernel
theorem d_X_digitBehind_32 : decode c_X_digitBehind 32 = .ok (.lmul, 1) := by decide +kernel
theorem d_X_digitBehind_33 : decode c_X_digitBehind 33 = .ok (.lload_n 2, 1) := by decide +kernel
theorem d_X_digitBehind_34 : decode c_X_digitBehind 34 = .ok (.invokestatic 64, 3) := by decide +kernel
theorem d_X_digitBehind_37 : decode c_X_digitBehind 37 = .ok (.lstore 5, 2) := by decide +kernel
theorem d_X_digitBehind_39 : decode c_X_digitBehind 39 = .ok (.iinc 7 1, 3) := by decide +kernel
theorem d_X_digitBehind_42 : decode c_X_digitBehind 42 = .ok (.goto (-22), 3) := by decide +kernel
theorem d_X_digitBehind_45 : decode c_X_digitBehind 45 = .ok (.lload 5, 2) := by decide +kernel
theorem d_X_digitBehind_47 : decode c_X_digitBehind 47 = .ok (.lconst 0, 1) := by decide +kernel
theorem d_X_digitBehind_48 : decode c_X_digitBehind 48 = .ok (.lcmp, 1) := by decide +kernel
theorem d_X_digitBehind_49 : decode c_X_digitBehind 49 = .ok (.ifCond .ne 7, 3) := by decide +kernel
theorem d_X_digitBehind_52 : decode c_X_digitBehind 52 = .ok (.iconst (-1), 1) := by decide +kernel
theorem d_X_digitBehind_53 : decode c_X_digitBehind 53 = .ok (.goto 14, 3) := by decide +kernel
theorem d_X_digitBehind_56 : decode c_X_digitBehind 56 = .ok (.lload 5, 2) := by decide +kernel
theorem d_X_digitBehind_58 : decode c_X_digitBehind 58 = .ok (.ldc2_w 171, 3) := by decide +kernel
theorem d_X_digitBehind_61 : decode c_X_digitBehind 61 = .ok (.lmul, 1) := by decide +kernel
theorem d_X_digitBehind_62 : decode c_X_digitBehind 62 = .ok (.lload_n 2, 1) := by decide +kernel
theorem d_X_digitBehind_63 : decode c_X_digitBehind 63 = .ok (.invokestatic 60, 3) := by decide +kernel
theorem d_X_digitBehind_66 : decode c_X_digitBehind 66 = .ok (.l2i, 1) := by decide +kernel
theorem d_X_digitBehind_67 : decode c_X_digitBehind 67 = .ok (.ireturn, 1) := by decide +kernel
theorem d_T_init_0 : decode c_T_init 0 = .ok (.aload_n 0, 1) := by decide +kernel
theorem d_T_init_1 : decode c_T_init 1 = .ok (.invokespecial 3, 3) := by decide +kernel
theorem d_T_init_4 : decode c_T_init 4 = .ok (.aload_n 0, 1) := by decide +kernel
theorem d_T_init_5 : decode c_T_init 5 = .ok (.bipush 16, 2) := by decide +kernel
theorem d_T_init_7 : decode c_T_init 7 = .ok (.newarray .long, 2) := by decide +kernel
theorem d_T_init_9 : decode c_T_init 9 = .ok (.putfield 9, 3) := by decide +kernel
theorem d_T_init_12 : decode c_T_init 12 = .ok (.aload_n 0, 1) := by decide +kernel
theorem d_T_init_13 : decode c_T_init 13 = .ok (.bipush 16, 2) := by decide +kernel
theorem d_T_init_15 : decode c_T_init 15 = .ok (.newarray .long, 2) := by decide +kernel
theorem d_T_init_17 : decode c_T_init 17 = .ok (.putfield 15, 3) := by decide +kernel
theorem d_T_init_20 : decode c_T_init 20 = .ok (.return_, 1) := by decide +kernel
theorem d_T_takes_0 : decode c_T_takes 0 = .ok (.aload_n 0, 1) := by decide +kernel
theorem d_T_takes_1 : decode c_T_takes 1 = .ok (.getfield 18, 3) := by decide +kernel
theorem d_T_takes_4 : decode c_T_takes 4 = .ok (.bipush 16, 2) := by decide +kernel
theorem d_T_takes_6 : decode c_T_takes 6 = .ok (.if_icmp .ge 19, 3) := by decide +kernel
theorem d_T_takes_9 : decode c_T_takes 9 = .ok (.lload 5, 2) := by decide +kernel
theorem d_T_takes_11 : decode c_T_takes 11 = .ok (.lconst 1, 1) := by decide +kernel
theorem d_T_takes_12 : decode c_T_takes 12 = .ok (.lcmp, 1) := by decide +kernel
theorem d_T_takes_13 : decode c_T_takes 13 = .ok (.ifCond .lt 12, 3) := by decide +kernel
theorem d_T_takes_16 : decode c_T_takes 16 = .ok (.lload 5, 2) := by decide +kernel
theorem d_T_takes_18 : decode c_T_takes 18 = .ok (.ldc2_w 22, 3) := by decide +kernel
theorem d_T_takes_21 : decode c_T_takes 21 = .ok (.lcmp, 1) := by decide +kernel
theorem d_T_takes_22 : decode c_T_takes 22 = .ok (.ifCond .le 5, 3) := by decide +kernel
theorem d_T_takes_25 : decode c_T_takes 25 = .ok (.iconst 0, 1) := by decide +kernel
theorem d_T_takes_26 : decode c_T_takes 26 = .ok (.ireturn, 1) := by decide +kernel
theorem d_T_takes_27 : decode c_T_takes 27 = .ok (.lload_n 1, 1) := by decide +kernel
theorem d_T_takes_28 : decode c_T_takes 28 = .ok (.invokestatic 24, 3) := by decide +kernel
theorem d_T_takes_31 : decode c_T_takes 31 = .ok (.ifCond .eq 10, 3) := by decide +kernel
theorem d_T_takes_34 : decode c_T_takes 34 = .ok (.lload_n 3, 1) := by decide +kernel
theorem d_T_takes_35 : decode c_T_takes 35 = .ok (.invokestatic 24, 3) := by decide +kernel
theorem d_T_takes_38 : decode c_T_takes 38 = .ok (.ifCond .ne 5, 3) := by decide +kernel
theorem d_T_takes_41 : decode c_T_takes 41 = .ok (.iconst 0, 1) := by decide +kernel
theorem d_T_takes_42 : decode c_T_takes 42 = .ok (.ireturn, 1) := by decide +kernel
theorem d_T_takes_43 : decode c_T_takes 43 = .ok (.aload_n 0, 1) := by decide +kernel
theorem d_T_takes_44 : decode c_T_takes 44 = .ok (.getfield 18, 3) := by decide +kernel
theorem d_T_takes_47 : decode c_T_takes 47 = .ok (.ifCond .eq 29, 3) := by decide +kernel
theorem d_T_takes_50 : decode c_T_takes 50 = .ok (.lload 5, 2) := by decide +kernel
theorem d_T_takes_52 : decode c_T_takes 52 = .ok (.aload_n 0, 1) := by decide +kernel
theorem d_T_takes_53 : decode c_T_takes 53 = .ok (.getfield 28, 3) := by decide +kernel
theorem d_T_takes_56 : decode c_T_takes 56 = .ok (.lcmp, 1) := by decide +kernel
theorem d_T_takes_57 : decode c_T_takes 57 = .ok (.ifCond .ne 23, 3) := by decide +kernel
theorem d_T_takes_60 : decode c_T_takes 60 = .ok (.lload_n 1, 1) := by decide +kernel
theorem d_T_takes_61 : decode c_T_takes 61 = .ok (.aload_n 0, 1) := by decide +kernel
theorem d_T_takes_62 : decode c_T_takes 62 = .ok (.getfield 9, 3) := by decide +kernel
theorem d_T_takes_65 : decode c_T_takes 65 = .ok (.aload_n 0, 1) := by decide +kernel
theorem d_T_takes_66 : decode c_T_takes 66 = .ok (.getfield 18, 3) := by decide +kernel
theorem d_T_takes_69 : decode c_T_takes 69 = .ok (.iconst 1, 1) := by decide +kernel
theorem d_T_takes_70 : decode c_T_takes 70 = .ok (.isub, 1) := by decide +kernel
theorem d_T_takes_71 : decode c_T_takes 71 = .ok (.laload, 1) := by decide +kernel
theorem d_T_takes_72 : decode c_T_takes 72 = .ok (.lcmp, 1) := by decide +kernel
theorem d_T_takes_73 : decode c_T_takes 73 = .ok (.ifCond .le 7, 3) := by decide +kernel
theorem d_T_takes_76 : decode c_T_takes 76 = .ok (.iconst 1, 1) := by decide +kernel
theorem d_T_takes_77 : decode c_T_takes 77 = .ok (.goto 4, 3) := by decide +kernel
theorem d_T_takes_80 : decode c_T_takes 80 = .ok (.iconst 0, 1) := by decide +kernel
theorem d_T_takes_81 : decode c_T_takes 81 = .ok (.ireturn, 1) := by decide +kernel
theorem d_T_isInside_0 : decode c_T_isInside 0 = .ok (.lload_n 0, 1) := by decide +kernel
theorem d_T_isInside_1 : decode c_T_isInside 1 = .ok (.ldc2_w 32, 3) := by decide +kernel
theorem d_T_isInside_4 : decode c_T_isInside 4 = .ok (.lcmp, 1) := by decide +kernel
theorem d_T_isInside_5 : decode c_T_isInside 5 = .ok (.ifCond .lt 15, 3) := by decide +kernel
theorem d_T_isInside_8 : decode c_T_isInside 8 = .ok (.lload_n 0, 1) := by decide +kernel
theorem d_T_isInside_9 : decode c_T_isInside 9 = .ok (.ldc2_w 34, 3) := by decide +kernel
theorem d_T_isInside_12 : decode c_T_isInside 12 = .ok (.lcmp, 1) := by decide +kernel
theorem d_T_isInside_13 : decode c_T_isInside 13 = .ok (.ifCond .gt 7, 3) := by decide +kernel
theorem d_T_isInside_16 : decode c_T_isInside 16 = .ok (.iconst 1, 1) := by decide +kernel
theorem d_T_isInside_17 : decode c_T_isInside 17 = .ok (.goto 4, 3) := by decide +kernel
theorem d_T_isInside_20 : decode c_T_isInside 20 = .ok (.iconst 0, 1) := by decide +kernel
theorem d_T_isInside_21 : decode c_T_isInside 21 = .ok (.ireturn, 1) := by decide +kernel
theorem d_T_append_0 : decode c_T_append 0 = .ok (.aload_n 0, 1) := by decide +kernel
theorem d_T_append_1 : decode c_T_append 1 = .ok (.getfield 18, 3) := by decide +kernel
theorem d_T_append_4 : decode c_T_append 4 = .ok (.bipush 16, 2) := by decide +kernel
theorem d_T_append_6 : decode c_T_append 6 = .ok (.if_icmp .lt 4, 3) := by decide +kernel
theorem d_T_append_9 : decode c_T_append 9 = .ok (.return_, 1) := by decide +kernel
theorem d_T_append_10 : decode c_T_append 10 = .ok (.aload_n 0, 1) := by decide +kernel
theorem d_T_append_11 : decode c_T_append 11 = .ok (.getfield 9, 3) := by decide +kernel
theorem d_T_append_14 : decode c_T_append 14 = .ok (.aload_n 0, 1) := by decide +kernel
theorem d_T_append_15 : decode c_T_append 15 = .ok (.getfield 18, 3) := by decide +kernel
theorem d_T_append_18 : decode c_T_append 18 = .ok (.lload_n 1, 1) := by decide +kernel
theorem d_T_append_19 : decode c_T_append 19 = .ok (.lastore, 1) := by decide +kernel
theorem d_T_append_20 : decode c_T_append 20 = .ok (.aload_n 0, 1) := by decide +kernel
theorem d_T_append_21 : decode c_T_append 21 = .ok (.getfield 15, 3) := by decide +kernel
theorem d_T_append_24 : decode c_T_append 24 = .ok (.aload_n 0, 1) := by decide +kernel
theorem d_T_append_25 : decode c_T_append 25 = .ok (.getfield 18, 3) := by decide +kernel
theorem d_T_append_28 : decode c_T_append 28 = .ok (.lload_n 3, 1) := by decide +kernel
theorem d_T_append_29 : decode c_T_append 29 = .ok (.lastore, 1) := by decide +kernel
theorem d_T_append_30 : decode c_T_append 30 = .ok (.aload_n 0, 1) := by decide +kernel
theorem d_T_append_31 : decode c_T_append 31 = .ok (.lload 5, 2) := by decide +kernel
theorem d_T_append_33 : decode c_T_append 33 = .ok (.putfield 28, 3) := by decide +kernel
theorem d_T_append_36 : decode c_T_append 36 = .ok (.aload_n 0, 1) := by decide +kernel
theorem d_T_append_37 : decode c_T_append 37 = .ok (.dup, 1) := by decide +kernel
theorem d_T_append_38 : decode c_T_append 38 = .ok (.getfield 18, 3) := by decide +kernel
theorem d_T_append_41 : decode c_T_append 41 = .ok (.iconst 1, 1) := by decide +kernel
theorem d_T_append_42 : decode c_T_append 42 = .ok (.iadd, 1) := by decide +kernel
theorem d_T_append_43 : decode c_T_append 43 = .ok (.putfield 18, 3) := by decide +kernel
theorem d_T_append_46 : decode c_T_append 46 = .ok (.return_, 1) := by decide +kernel
theorem d_T_firstNotBefore_0 : decode c_T_firstNotBefore 0 = .ok (.lload_n 1, 1) := by decide +kernel
theorem d_T_firstNotBefore_1 : decode c_T_firstNotBefore 1 = .ok (.aload_n 0, 1) := by decide +kernel
theorem d_T_firstNotBefore_2 : decode c_T_firstNotBefore 2 = .ok (.getfield 28, 3) := by decide +kernel
theorem d_T_firstNotBefore_5 : decode c_T_firstNotBefore 5 = .ok (.lmul, 1) := by decide +kernel
theorem d_T_firstNotBefore_6 : decode c_T_firstNotBefore 6 = .ok (.lstore 5, 2) := by decide +kernel
theorem d_T_firstNotBefore_8 : decode c_T_firstNotBefore 8 = .ok (.iconst 0, 1) := by decide +kernel
theorem d_T_firstNotBefore_9 : decode c_T_firstNotBefore 9 = .ok (.istore 7, 2) := by decide +kernel
theorem d_T_firstNotBefore_11 : decode c_T_firstNotBefore 11 = .ok (.iload 7, 2) := by decide +kernel
theorem d_T_firstNotBefore_13 : decode c_T_firstNotBefore 13 = .ok (.aload_n 0, 1) := by decide +kernel
theorem d_T_firstNotBefore_14 : decode c_T_firstNotBefore 14 = .ok (.getfield 18, 3) := by decide +kernel
theorem d_T_firstNotBefore_17 : decode c_T_firstNotBefore 17 = .ok (.if_icmp .ge 24, 3) := by decide +kernel
theorem d_T_firstNotBefore_20 : decode c_T_firstNotBefore 20 = .ok (.aload_n 0, 1) := by decide +kernel
theorem d_T_firstNotBefore_21 : decode c_T_firstNotBefore 21 = .ok (.getfield 9, 3) := by decide +kernel
theorem d_T_firstNotBefore_24 : decode c_T_firstNotBefore 24 = .ok (.iload 7, 2) := by decide +kernel
theorem d_T_firstNotBefore_26 : decode c_T_firstNotBefore 26 = .ok (.laload, 1) := by decide +kernel
theorem d_T_firstNotBefore_27 : decode c_T_firstNotBefore 27 = .ok (.lload_n 3, 1) := by decide +kernel
theorem d_T_firstNotBefore_28 : decode c_T_firstNotBefore 28 = .ok (.lmul, 1) := by decide +kernel
theorem d_T_firstNotBefore_29 : decode c_T_firstNotBefore 29 = .ok (.lload 5, 2) := by decide +kernel
theorem d_T_firstNotBefore_31 : decode c_T_firstNotBefore 31 = .ok (.lcmp, 1) := by decide +kernel
theorem d_T_firstNotBefore_32 : decode c_T_firstNotBefore 32 = .ok (.ifCond .ge 9, 3) := by decide +kernel
theorem d_T_firstNotBefore_35 : decode c_T_firstNotBefore 35 = .ok (.iinc 7 1, 3) := by decide +kernel
theorem d_T_firstNotBefore_38 : decode c_T_firstNotBefore 38 = .ok (.goto (-27), 3) := by decide +kernel
theorem d_T_firstNotBefore_41 : decode c_T_firstNotBefore 41 = .ok (.iload 7, 2) := by decide +kernel
theorem d_T_firstNotBefore_43 : decode c_T_firstNotBefore 43 = .ok (.ireturn, 1) := by decide +kernel
theorem d_JL_compare_0 : decode c_JL_compare 0 = .ok (.lload_n 0, 1) := by decide +kernel
theorem d_JL_compare_1 : decode c_JL_compare 1 = .ok (.lload_n 2, 1) := by decide +kernel
theorem d_JL_compare_2 : decode c_JL_compare 2 = .ok (.lcmp, 1) := by decide +kernel
theorem d_JL_compare_3 : decode c_JL_compare 3 = .ok (.ifCond .ge 7, 3) := by decide +kernel
theorem d_JL_compare_6 : decode c_JL_compare 6 = .ok (.iconst (-1), 1) := by decide +kernel
theorem d_JL_compare_7 : decode c_JL_compare 7 = .ok (.goto 14, 3) := by decide +kernel
theorem d_JL_compare_10 : decode c_JL_compare 10 = .ok (.lload_n 0, 1) := by decide +kernel
theorem d_JL_compare_11 : decode c_JL_compare 11 = .ok (.lload_n 2, 1) := by decide +kernel
theorem d_JL_compare_12 : decode c_JL_compare 12 = .ok (.lcmp, 1) := by decide +kernel
theorem d_JL_compare_13 : decode c_JL_compare 13 = .ok (.ifCond .ne 7, 3) := by decide +kernel
theorem d_JL_compare_16 : decode c_JL_compare 16 = .ok (.iconst 0, 1) := by decide +kernel
theorem d_JL_compare_17 : decode c_JL_compare 17 = .ok (.goto 4, 3) := by decide +kernel
theorem d_JL_compare_20 : decode c_JL_compare 20 = .ok (.iconst 1, 1) := by decide +kernel
theorem d_JL_compare_21 : decode c_JL_compare 21 = .ok (.ireturn, 1) := by decide +kernel
theorem d_JM_abs_0 : decode c_JM_abs 0 = .ok (.lload_n 0, 1) := by decide +kernel
theorem d_JM_abs_1 : decode c_JM_abs 1 = .ok (.lconst 0, 1) := by decide +kernel
theorem d_JM_abs_2 : decode c_JM_abs 2 = .ok (.lcmp, 1) := by decide +kernel
theorem d_JM_abs_3 : decode c_JM_abs 3 = .ok (.ifCond .ge 8, 3) := by decide +kernel
theorem d_JM_abs_6 : decode c_JM_abs 6 = .ok (.lload_n 0, 1) := by decide +kernel
theorem d_JM_abs_7 : decode c_JM_abs 7 = .ok (.lneg, 1) := by decide +kernel
theorem d_JM_abs_8 : decode c_JM_abs 8 = .ok (.goto 4, 3) := by decide +kernel
theorem d_JM_abs_11 : decode c_JM_abs 11 = .ok (.lload_n 0, 1) := by decide +kernel
theorem d_JM_abs_12 : decode c_JM_abs 12 = .ok (.lreturn, 1) := by decide +kernel
theorem d_JM_floorDiv_0 : decode c_JM_floorDiv 0 = .ok (.lload_n 0, 1) := by decide +kernel
theorem d_JM_floorDiv_1 : decode c_JM_floorDiv 1 = .ok (.lload_n 2, 1) := by decide +kernel
theorem d_JM_floorDiv_2 : decode c_JM_floorDiv 2 = .ok (.ldiv, 1) := by decide +kernel
theorem d_JM_floorDiv_3 : decode c_JM_floorDiv 3 = .ok (.lstore 4, 2) := by decide +kernel
theorem d_JM_floorDiv_5 : decode c_JM_floorDiv 5 = .ok (.lload_n 0, 1) := by decide +kernel
theorem d_JM_floorDiv_6 : decode c_JM_floorDiv 6 = .ok (.lload_n 2, 1) := by decide +kernel
theorem d_JM_floorDiv_7 : decode c_JM_floorDiv 7 = .ok (.lxor, 1) := by decide +kernel
theorem d_JM_floorDiv_8 : decode c_JM_floorDiv 8 = .ok (.lconst 0, 1) := by decide +kernel
theorem d_JM_floorDiv_9 : decode c_JM_floorDiv 9 = .ok (.lcmp, 1) := by decide +kernel
theorem d_JM_floorDiv_10 : decode c_JM_floorDiv 10 = .ok (.ifCond .ge 17, 3) := by decide +kernel
theorem d_JM_floorDiv_13 : decode c_JM_floorDiv 13 = .ok (.lload 4, 2) := by decide +kernel
theorem d_JM_floorDiv_15 : decode c_JM_floorDiv 15 = .ok (.lload_n 2, 1) := by decide +kernel
theorem d_JM_floorDiv_16 : decode c_JM_floorDiv 16 = .ok (.lmul, 1) := by decide +kernel
theorem d_JM_floorDiv_17 : decode c_JM_floorDiv 17 = .ok (.lload_n 0, 1) := by decide +kernel
theorem d_JM_floorDiv_18 : decode c_JM_floorDiv 18 = .ok (.lcmp, 1) := by decide +kernel
theorem d_JM_floorDiv_19 : decode c_JM_floorDiv 19 = .ok (.ifCond .eq 8, 3) := by decide +kernel
theorem d_JM_floorDiv_22 : decode c_JM_floorDiv 22 = .ok (.lload 4, 2) := by decide +kernel
theorem d_JM_floorDiv_24 : decode c_JM_floorDiv 24 = .ok (.lconst 1, 1) := by decide +kernel
theorem d_JM_floorDiv_25 : decode c_JM_floorDiv 25 = .ok (.lsub, 1) := by decide +kernel
theorem d_JM_floorDiv_26 : decode c_JM_floorDiv 26 = .ok (.lreturn, 1) := by decide +kernel
theorem d_JM_floorDiv_27 : decode c_JM_floorDiv 27 = .ok (.lload 4, 2) := by decide +kernel
theorem d_JM_floorDiv_29 : decode c_JM_floorDiv 29 = .ok (.lreturn, 1) := by decide +kernel
theorem d_JM_floorMod_0 : decode c_JM_floorMod 0 = .ok (.lload_n 0, 1) := by decide +kernel
theorem d_JM_floorMod_1 : decode c_JM_floorMod 1 = .ok (.lload_n 2, 1) := by decide +kernel
theorem d_JM_floorMod_2 : decode c_JM_floorMod 2 = .ok (.lrem, 1) := by decide +kernel
theorem d_JM_floorMod_3 : decode c_JM_floorMod 3 = .ok (.lstore 4, 2) := by decide +kernel
theorem d_JM_floorMod_5 : decode c_JM_floorMod 5 = .ok (.lload_n 0, 1) := by decide +kernel
theorem d_JM_floorMod_6 : decode c_JM_floorMod 6 = .ok (.lload_n 2, 1) := by decide +kernel
theorem d_JM_floorMod_7 : decode c_JM_floorMod 7 = .ok (.lxor, 1) := by decide +kernel
theorem d_JM_floorMod_8 : decode c_JM_floorMod 8 = .ok (.lconst 0, 1) := by decide +kernel
theorem d_JM_floorMod_9 : decode c_JM_floorMod 9 = .ok (.lcmp, 1) := by decide +kernel
theorem d_JM_floorMod_10 : decode c_JM_floorMod 10 = .ok (.ifCond .ge 15, 3) := by decide +kernel
theorem d_JM_floorMod_13 : decode c_JM_floorMod 13 = .ok (.lload 4, 2) := by decide +kernel
theorem d_JM_floorMod_15 : decode c_JM_floorMod 15 = .ok (.lconst 0, 1) := by decide +kernel
theorem d_JM_floorMod_16 : decode c_JM_floorMod 16 = .ok (.lcmp, 1) := by decide +kernel
theorem d_JM_floorMod_17 : decode c_JM_floorMod 17 = .ok (.ifCond .eq 8, 3) := by decide +kernel
theorem d_JM_floorMod_20 : decode c_JM_floorMod 20 = .ok (.lload 4, 2) := by decide +kernel
theorem d_JM_floorMod_22 : decode c_JM_floorMod 22 = .ok (.lload_n 2, 1) := by decide +kernel
theorem d_JM_floorMod_23 : decode c_JM_floorMod 23 = .ok (.ladd, 1) := by decide +kernel
theorem d_JM_floorMod_24 : decode c_JM_floorMod 24 = .ok (.lreturn, 1) := by decide +kernel
theorem d_JM_floorMod_25 : decode c_JM_floorMod 25 = .ok (.lload 4, 2) := by decide +kernel
theorem d_JM_floorMod_27 : decode c_JM_floorMod 27 = .ok (.lreturn, 1) := by decide +kernel
