theorem d_E_init_0 : decode b_E_init 0 = .ok (.aload_n 0, 1) := by decide +kernel
theorem d_E_init_1 : decode b_E_init 1 = .ok (.invokespecial 1, 3) := by decide +kernel
theorem d_E_init_4 : decode b_E_init 4 = .ok (.aload_n 0, 1) := by decide +kernel
theorem d_E_init_5 : decode b_E_init 5 = .ok (.iload_n 1, 1) := by decide +kernel
theorem d_E_init_6 : decode b_E_init 6 = .ok (.putfield 7, 3) := by decide +kernel
theorem d_E_init_9 : decode b_E_init 9 = .ok (.aload_n 0, 1) := by decide +kernel
theorem d_E_init_10 : decode b_E_init 10 = .ok (.bipush 16, 2) := by decide +kernel
theorem d_E_init_12 : decode b_E_init 12 = .ok (.newarray .int, 2) := by decide +kernel
theorem d_E_init_14 : decode b_E_init 14 = .ok (.putfield 13, 3) := by decide +kernel
theorem d_E_init_17 : decode b_E_init 17 = .ok (.iconst 0, 1) := by decide +kernel
theorem d_E_init_18 : decode b_E_init 18 = .ok (.istore_n 2, 1) := by decide +kernel
theorem d_E_init_19 : decode b_E_init 19 = .ok (.iload_n 2, 1) := by decide +kernel
theorem d_E_init_20 : decode b_E_init 20 = .ok (.aload_n 0, 1) := by decide +kernel
theorem d_E_init_21 : decode b_E_init 21 = .ok (.getfield 13, 3) := by decide +kernel
theorem d_E_init_24 : decode b_E_init 24 = .ok (.arraylength, 1) := by decide +kernel
theorem d_E_init_25 : decode b_E_init 25 = .ok (.if_icmp .ge 16, 3) := by decide +kernel
theorem d_E_init_28 : decode b_E_init 28 = .ok (.aload_n 0, 1) := by decide +kernel
theorem d_E_init_29 : decode b_E_init 29 = .ok (.getfield 13, 3) := by decide +kernel
theorem d_E_init_32 : decode b_E_init 32 = .ok (.iload_n 2, 1) := by decide +kernel
theorem d_E_init_33 : decode b_E_init 33 = .ok (.iconst 1, 1) := by decide +kernel
theorem d_E_init_34 : decode b_E_init 34 = .ok (.iastore, 1) := by decide +kernel
theorem d_E_init_35 : decode b_E_init 35 = .ok (.iinc 2 1, 3) := by decide +kernel
theorem d_E_init_38 : decode b_E_init 38 = .ok (.goto (-19), 3) := by decide +kernel
theorem d_E_init_41 : decode b_E_init 41 = .ok (.aload_n 0, 1) := by decide +kernel
theorem d_E_init_42 : decode b_E_init 42 = .ok (.iconst 4, 1) := by decide +kernel
theorem d_E_init_43 : decode b_E_init 43 = .ok (.anewarray 17, 3) := by decide +kernel
theorem d_E_init_46 : decode b_E_init 46 = .ok (.putfield 19, 3) := by decide +kernel
theorem d_E_init_49 : decode b_E_init 49 = .ok (.iconst 0, 1) := by decide +kernel
theorem d_E_init_50 : decode b_E_init 50 = .ok (.istore_n 2, 1) := by decide +kernel
theorem d_E_init_51 : decode b_E_init 51 = .ok (.iload_n 2, 1) := by decide +kernel
theorem d_E_init_52 : decode b_E_init 52 = .ok (.aload_n 0, 1) := by decide +kernel
theorem d_E_init_53 : decode b_E_init 53 = .ok (.getfield 19, 3) := by decide +kernel
theorem d_E_init_56 : decode b_E_init 56 = .ok (.arraylength, 1) := by decide +kernel
theorem d_E_init_57 : decode b_E_init 57 = .ok (.if_icmp .ge 23, 3) := by decide +kernel
theorem d_E_init_60 : decode b_E_init 60 = .ok (.aload_n 0, 1) := by decide +kernel
theorem d_E_init_61 : decode b_E_init 61 = .ok (.getfield 19, 3) := by decide +kernel
theorem d_E_init_64 : decode b_E_init 64 = .ok (.iload_n 2, 1) := by decide +kernel
theorem d_E_init_65 : decode b_E_init 65 = .ok (.new 17, 3) := by decide +kernel
theorem d_E_init_68 : decode b_E_init 68 = .ok (.dup, 1) := by decide +kernel
theorem d_E_init_69 : decode b_E_init 69 = .ok (.iload_n 2, 1) := by decide +kernel
theorem d_E_init_70 : decode b_E_init 70 = .ok (.invokespecial 23, 3) := by decide +kernel
theorem d_E_init_73 : decode b_E_init 73 = .ok (.aastore, 1) := by decide +kernel
theorem d_E_init_74 : decode b_E_init 74 = .ok (.iinc 2 1, 3) := by decide +kernel
theorem d_E_init_77 : decode b_E_init 77 = .ok (.goto (-26), 3) := by decide +kernel
theorem d_E_init_80 : decode b_E_init 80 = .ok (.aload_n 0, 1) := by decide +kernel
theorem d_E_init_81 : decode b_E_init 81 = .ok (.bipush 12, 2) := by decide +kernel
theorem d_E_init_83 : decode b_E_init 83 = .ok (.anewarray 26, 3) := by decide +kernel
theorem d_E_init_86 : decode b_E_init 86 = .ok (.putfield 28, 3) := by decide +kernel
theorem d_E_init_89 : decode b_E_init 89 = .ok (.aload_n 0, 1) := by decide +kernel
theorem d_E_init_90 : decode b_E_init 90 = .ok (.bipush 16, 2) := by decide +kernel
theorem d_E_init_92 : decode b_E_init 92 = .ok (.anewarray 32, 3) := by decide +kernel
theorem d_E_init_95 : decode b_E_init 95 = .ok (.putfield 34, 3) := by decide +kernel
theorem d_E_init_98 : decode b_E_init 98 = .ok (.aload_n 0, 1) := by decide +kernel
theorem d_E_init_99 : decode b_E_init 99 = .ok (.new 38, 3) := by decide +kernel
theorem d_E_init_102 : decode b_E_init 102 = .ok (.dup, 1) := by decide +kernel
theorem d_E_init_103 : decode b_E_init 103 = .ok (.invokespecial 40, 3) := by decide +kernel
theorem d_E_init_106 : decode b_E_init 106 = .ok (.putfield 41, 3) := by decide +kernel
theorem d_E_init_109 : decode b_E_init 109 = .ok (.return_, 1) := by decide +kernel
theorem d_E_tool_0 : decode b_E_tool 0 = .ok (.aload_n 0, 1) := by decide +kernel
theorem d_E_tool_1 : decode b_E_tool 1 = .ok (.iload_n 1, 1) := by decide +kernel
theorem d_E_tool_2 : decode b_E_tool 2 = .ok (.invokevirtual 45, 3) := by decide +kernel
theorem d_E_tool_5 : decode b_E_tool 5 = .ok (.astore 4, 2) := by decide +kernel
theorem d_E_tool_7 : decode b_E_tool 7 = .ok (.iload_n 2, 1) := by decide +kernel
theorem d_E_tool_8 : decode b_E_tool 8 = .ok (.ldc 49, 2) := by decide +kernel
theorem d_E_tool_10 : decode b_E_tool 10 = .ok (.if_icmp .gt 12, 3) := by decide +kernel
theorem d_E_tool_13 : decode b_E_tool 13 = .ok (.iload_n 3, 1) := by decide +kernel
theorem d_E_tool_14 : decode b_E_tool 14 = .ok (.ifCond .lt 8, 3) := by decide +kernel
theorem d_E_tool_17 : decode b_E_tool 17 = .ok (.iload_n 3, 1) := by decide +kernel
theorem d_E_tool_18 : decode b_E_tool 18 = .ok (.iload_n 2, 1) := by decide +kernel
theorem d_E_tool_19 : decode b_E_tool 19 = .ok (.if_icmp .le 13, 3) := by decide +kernel
theorem d_E_tool_22 : decode b_E_tool 22 = .ok (.new 50, 3) := by decide +kernel
theorem d_E_tool_25 : decode b_E_tool 25 = .ok (.dup, 1) := by decide +kernel
theorem d_E_tool_26 : decode b_E_tool 26 = .ok (.ldc 52, 2) := by decide +kernel
theorem d_E_tool_28 : decode b_E_tool 28 = .ok (.invokespecial 54, 3) := by decide +kernel
theorem d_E_tool_31 : decode b_E_tool 31 = .ok (.athrow, 1) := by decide +kernel
theorem d_E_tool_32 : decode b_E_tool 32 = .ok (.aload_n 0, 1) := by decide +kernel
theorem d_E_tool_33 : decode b_E_tool 33 = .ok (.getfield 57, 3) := by decide +kernel
theorem d_E_tool_36 : decode b_E_tool 36 = .ok (.aload_n 0, 1) := by decide +kernel
theorem d_E_tool_37 : decode b_E_tool 37 = .ok (.getfield 28, 3) := by decide +kernel
theorem d_E_tool_40 : decode b_E_tool 40 = .ok (.arraylength, 1) := by decide +kernel
theorem d_E_tool_41 : decode b_E_tool 41 = .ok (.if_icmp .lt 13, 3) := by decide +kernel
theorem d_E_tool_44 : decode b_E_tool 44 = .ok (.new 60, 3) := by decide +kernel
theorem d_E_tool_47 : decode b_E_tool 47 = .ok (.dup, 1) := by decide +kernel
theorem d_E_tool_48 : decode b_E_tool 48 = .ok (.ldc 62, 2) := by decide +kernel
theorem d_E_tool_50 : decode b_E_tool 50 = .ok (.invokespecial 64, 3) := by decide +kernel
theorem d_E_tool_53 : decode b_E_tool 53 = .ok (.athrow, 1) := by decide +kernel
theorem d_E_tool_54 : decode b_E_tool 54 = .ok (.aload_n 0, 1) := by decide +kernel
theorem d_E_tool_55 : decode b_E_tool 55 = .ok (.getfield 57, 3) := by decide +kernel
theorem d_E_tool_58 : decode b_E_tool 58 = .ok (.istore 5, 2) := by decide +kernel
theorem d_E_tool_60 : decode b_E_tool 60 = .ok (.aload_n 0, 1) := by decide +kernel
theorem d_E_tool_61 : decode b_E_tool 61 = .ok (.getfield 28, 3) := by decide +kernel
theorem d_E_tool_64 : decode b_E_tool 64 = .ok (.iload 5, 2) := by decide +kernel
theorem d_E_tool_66 : decode b_E_tool 66 = .ok (.new 26, 3) := by decide +kernel
theorem d_E_tool_69 : decode b_E_tool 69 = .ok (.dup, 1) := by decide +kernel
theorem d_E_tool_70 : decode b_E_tool 70 = .ok (.aload 4, 2) := by decide +kernel
theorem d_E_tool_72 : decode b_E_tool 72 = .ok (.iload_n 2, 1) := by decide +kernel
theorem d_E_tool_73 : decode b_E_tool 73 = .ok (.iload_n 3, 1) := by decide +kernel
theorem d_E_tool_74 : decode b_E_tool 74 = .ok (.invokespecial 65, 3) := by decide +kernel
theorem d_E_tool_77 : decode b_E_tool 77 = .ok (.aastore, 1) := by decide +kernel
theorem d_E_tool_78 : decode b_E_tool 78 = .ok (.aload_n 0, 1) := by decide +kernel
theorem d_E_tool_79 : decode b_E_tool 79 = .ok (.iload 5, 2) := by decide +kernel
theorem d_E_tool_81 : decode b_E_tool 81 = .ok (.iconst 1, 1) := by decide +kernel
theorem d_E_tool_82 : decode b_E_tool 82 = .ok (.iadd, 1) := by decide +kernel
theorem d_E_tool_83 : decode b_E_tool 83 = .ok (.putfield 57, 3) := by decide +kernel
theorem d_E_tool_86 : decode b_E_tool 86 = .ok (.iload 5, 2) := by decide +kernel
theorem d_E_tool_88 : decode b_E_tool 88 = .ok (.ireturn, 1) := by decide +kernel
theorem d_E_rate_0 : decode b_E_rate 0 = .ok (.iload_n 1, 1) := by decide +kernel
theorem d_E_rate_1 : decode b_E_rate 1 = .ok (.iload_n 2, 1) := by decide +kernel
theorem d_E_rate_2 : decode b_E_rate 2 = .ok (.invokestatic 68, 3) := by decide +kernel
theorem d_E_rate_5 : decode b_E_rate 5 = .ok (.istore 4, 2) := by decide +kernel
theorem d_E_rate_7 : decode b_E_rate 7 = .ok (.iload_n 3, 1) := by decide +kernel
theorem d_E_rate_8 : decode b_E_rate 8 = .ok (.ifCond .lt 9, 3) := by decide +kernel
theorem d_E_rate_11 : decode b_E_rate 11 = .ok (.iload_n 3, 1) := by decide +kernel
theorem d_E_rate_12 : decode b_E_rate 12 = .ok (.ldc 49, 2) := by decide +kernel
theorem d_E_rate_14 : decode b_E_rate 14 = .ok (.if_icmp .le 13, 3) := by decide +kernel
theorem d_E_rate_17 : decode b_E_rate 17 = .ok (.new 50, 3) := by decide +kernel
theorem d_E_rate_20 : decode b_E_rate 20 = .ok (.dup, 1) := by decide +kernel
theorem d_E_rate_21 : decode b_E_rate 21 = .ok (.ldc 72, 2) := by decide +kernel
theorem d_E_rate_23 : decode b_E_rate 23 = .ok (.invokespecial 54, 3) := by decide +kernel
theorem d_E_rate_26 : decode b_E_rate 26 = .ok (.athrow, 1) := by decide +kernel
theorem d_E_rate_27 : decode b_E_rate 27 = .ok (.aload_n 0, 1) := by decide +kernel
theorem d_E_rate_28 : decode b_E_rate 28 = .ok (.getfield 13, 3) := by decide +kernel
theorem d_E_rate_31 : decode b_E_rate 31 = .ok (.iload 4, 2) := by decide +kernel
theorem d_E_rate_33 : decode b_E_rate 33 = .ok (.iload_n 3, 1) := by decide +kernel
theorem d_E_rate_34 : decode b_E_rate 34 = .ok (.iastore, 1) := by decide +kernel
theorem d_E_rate_35 : decode b_E_rate 35 = .ok (.return_, 1) := by decide +kernel
theorem d_E_limit_0 : decode b_E_limit 0 = .ok (.aload_n 0, 1) := by decide +kernel
theorem d_E_limit_1 : decode b_E_limit 1 = .ok (.iload_n 1, 1) := by decide +kernel
theorem d_E_limit_2 : decode b_E_limit 2 = .ok (.invokevirtual 45, 3) := by decide +kernel
theorem d_E_limit_5 : decode b_E_limit 5 = .ok (.astore 4, 2) := by decide +kernel
theorem d_E_limit_7 : decode b_E_limit 7 = .ok (.lload_n 2, 1) := by decide +kernel
theorem d_E_limit_8 : decode b_E_limit 8 = .ok (.lconst 1, 1) := by decide +kernel
theorem d_E_limit_9 : decode b_E_limit 9 = .ok (.lcmp, 1) := by decide +kernel
theorem d_E_limit_10 : decode b_E_limit 10 = .ok (.ifCond .lt 11, 3) := by decide +kernel
theorem d_E_limit_13 : decode b_E_limit 13 = .ok (.lload_n 2, 1) := by decide +kernel
theorem d_E_limit_14 : decode b_E_limit 14 = .ok (.ldc2_w 74, 3) := by decide +kernel
theorem d_E_limit_17 : decode b_E_limit 17 = .ok (.lcmp, 1) := by decide +kernel
theorem d_E_limit_18 : decode b_E_limit 18 = .ok (.ifCond .le 13, 3) := by decide +kernel
theorem d_E_limit_21 : decode b_E_limit 21 = .ok (.new 50, 3) := by decide +kernel
theorem d_E_limit_24 : decode b_E_limit 24 = .ok (.dup, 1) := by decide +kernel
theorem d_E_limit_25 : decode b_E_limit 25 = .ok (.ldc 76, 2) := by decide +kernel
theorem d_E_limit_27 : decode b_E_limit 27 = .ok (.invokespecial 54, 3) := by decide +kernel
theorem d_E_limit_30 : decode b_E_limit 30 = .ok (.athrow, 1) := by decide +kernel
theorem d_E_limit_31 : decode b_E_limit 31 = .ok (.aload 4, 2) := by decide +kernel
theorem d_E_limit_33 : decode b_E_limit 33 = .ok (.lload_n 2, 1) := by decide +kernel
theorem d_E_limit_34 : decode b_E_limit 34 = .ok (.putfield 78, 3) := by decide +kernel
theorem d_E_limit_37 : decode b_E_limit 37 = .ok (.return_, 1) := by decide +kernel
theorem d_E_use_0 : decode b_E_use 0 = .ok (.aload_n 0, 1) := by decide +kernel
theorem d_E_use_1 : decode b_E_use 1 = .ok (.iload_n 1, 1) := by decide +kernel
theorem d_E_use_2 : decode b_E_use 2 = .ok (.invokevirtual 82, 3) := by decide +kernel
theorem d_E_use_5 : decode b_E_use 5 = .ok (.astore 5, 2) := by decide +kernel
theorem d_E_use_7 : decode b_E_use 7 = .ok (.iload_n 3, 1) := by decide +kernel
theorem d_E_use_8 : decode b_E_use 8 = .ok (.iload 4, 2) := by decide +kernel
theorem d_E_use_10 : decode b_E_use 10 = .ok (.invokestatic 68, 3) := by decide +kernel
theorem d_E_use_13 : decode b_E_use 13 = .ok (.istore 6, 2) := by decide +kernel
theorem d_E_use_15 : decode b_E_use 15 = .ok (.iload_n 2, 1) := by decide +kernel
theorem d_E_use_16 : decode b_E_use 16 = .ok (.ifCond .lt 9, 3) := by decide +kernel
theorem d_E_use_19 : decode b_E_use 19 = .ok (.iload_n 2, 1) := by decide +kernel
theorem d_E_use_20 : decode b_E_use 20 = .ok (.ldc 49, 2) := by decide +kernel
theorem d_E_use_22 : decode b_E_use 22 = .ok (.if_icmp .le 13, 3) := by decide +kernel
theorem d_E_use_25 : decode b_E_use 25 = .ok (.new 50, 3) := by decide +kernel
theorem d_E_use_28 : decode b_E_use 28 = .ok (.dup, 1) := by decide +kernel
theorem d_E_use_29 : decode b_E_use 29 = .ok (.ldc 86, 2) := by decide +kernel
theorem d_E_use_31 : decode b_E_use 31 = .ok (.invokespecial 54, 3) := by decide +kernel
theorem d_E_use_34 : decode b_E_use 34 = .ok (.athrow, 1) := by decide +kernel
theorem d_E_use_35 : decode b_E_use 35 = .ok (.aload 5, 2) := by decide +kernel
theorem d_E_use_37 : decode b_E_use 37 = .ok (.getfield 88, 3) := by decide +kernel
theorem d_E_use_40 : decode b_E_use 40 = .ok (.ifCond .eq 13, 3) := by decide +kernel
theorem d_E_use_43 : decode b_E_use 43 = .ok (.new 60, 3) := by decide +kernel
theorem d_E_use_46 : decode b_E_use 46 = .ok (.dup, 1) := by decide +kernel
theorem d_E_use_47 : decode b_E_use 47 = .ok (.ldc 92, 2) := by decide +kernel
theorem d_E_use_49 : decode b_E_use 49 = .ok (.invokespecial 64, 3) := by decide +kernel
theorem d_E_use_52 : decode b_E_use 52 = .ok (.athrow, 1) := by decide +kernel
theorem d_E_use_53 : decode b_E_use 53 = .ok (.aload 5, 2) := by decide +kernel
theorem d_E_use_55 : decode b_E_use 55 = .ok (.iload_n 2, 1) := by decide +kernel
theorem d_E_use_56 : decode b_E_use 56 = .ok (.i2l, 1) := by decide +kernel
theorem d_E_use_57 : decode b_E_use 57 = .ok (.aload_n 0, 1) := by decide +kernel
theorem d_E_use_58 : decode b_E_use 58 = .ok (.getfield 13, 3) := by decide +kernel
theorem d_E_use_61 : decode b_E_use 61 = .ok (.iload 6, 2) := by decide +kernel
theorem d_E_use_63 : decode b_E_use 63 = .ok (.iaload, 1) := by decide +kernel
theorem d_E_use_64 : decode b_E_use 64 = .ok (.i2l, 1) := by decide +kernel
theorem d_E_use_65 : decode b_E_use 65 = .ok (.lmul, 1) := by decide +kernel
theorem d_E_use_66 : decode b_E_use 66 = .ok (.invokevirtual 94, 3) := by decide +kernel
theorem d_E_use_69 : decode b_E_use 69 = .ok (.aload 5, 2) := by decide +kernel
theorem d_E_use_71 : decode b_E_use 71 = .ok (.invokevirtual 98, 3) := by decide +kernel
theorem d_E_use_74 : decode b_E_use 74 = .ok (.ifCond .ne 7, 3) := by decide +kernel
theorem d_E_use_77 : decode b_E_use 77 = .ok (.iconst 1, 1) := by decide +kernel
theorem d_E_use_78 : decode b_E_use 78 = .ok (.goto 4, 3) := by decide +kernel
theorem d_E_use_81 : decode b_E_use 81 = .ok (.iconst 0, 1) := by decide +kernel
theorem d_E_use_82 : decode b_E_use 82 = .ok (.ireturn, 1) := by decide +kernel
theorem d_E_grind_0 : decode b_E_grind 0 = .ok (.aload_n 0, 1) := by decide +kernel
theorem d_E_grind_1 : decode b_E_grind 1 = .ok (.iload_n 1, 1) := by decide +kernel
theorem d_E_grind_2 : decode b_E_grind 2 = .ok (.invokevirtual 82, 3) := by decide +kernel
theorem d_E_grind_5 : decode b_E_grind 5 = .ok (.astore_n 3, 1) := by decide +kernel
theorem d_E_grind_6 : decode b_E_grind 6 = .ok (.iload_n 2, 1) := by decide +kernel
theorem d_E_grind_7 : decode b_E_grind 7 = .ok (.iconst 1, 1) := by decide +kernel
theorem d_E_grind_8 : decode b_E_grind 8 = .ok (.if_icmp .lt 9, 3) := by decide +kernel
theorem d_E_grind_11 : decode b_E_grind 11 = .ok (.iload_n 2, 1) := by decide +kernel
theorem d_E_grind_12 : decode b_E_grind 12 = .ok (.ldc 49, 2) := by decide +kernel
theorem d_E_grind_14 : decode b_E_grind 14 = .ok (.if_icmp .le 13, 3) := by decide +kernel
theorem d_E_grind_17 : decode b_E_grind 17 = .ok (.new 50, 3) := by decide +kernel
theorem d_E_grind_20 : decode b_E_grind 20 = .ok (.dup, 1) := by decide +kernel
theorem d_E_grind_21 : decode b_E_grind 21 = .ok (.ldc 102, 2) := by decide +kernel
theorem d_E_grind_23 : decode b_E_grind 23 = .ok (.invokespecial 54, 3) := by decide +kernel
theorem d_E_grind_26 : decode b_E_grind 26 = .ok (.athrow, 1) := by decide +kernel
theorem d_E_grind_27 : decode b_E_grind 27 = .ok (.aload_n 3, 1) := by decide +kernel
theorem d_E_grind_28 : decode b_E_grind 28 = .ok (.getfield 88, 3) := by decide +kernel
theorem d_E_grind_31 : decode b_E_grind 31 = .ok (.ifCond .eq 13, 3) := by decide +kernel
theorem d_E_grind_34 : decode b_E_grind 34 = .ok (.new 60, 3) := by decide +kernel
theorem d_E_grind_37 : decode b_E_grind 37 = .ok (.dup, 1) := by decide +kernel
theorem d_E_grind_38 : decode b_E_grind 38 = .ok (.ldc 92, 2) := by decide +kernel
theorem d_E_grind_40 : decode b_E_grind 40 = .ok (.invokespecial 64, 3) := by decide +kernel
theorem d_E_grind_43 : decode b_E_grind 43 = .ok (.athrow, 1) := by decide +kernel
theorem d_E_grind_44 : decode b_E_grind 44 = .ok (.aload_n 3, 1) := by decide +kernel
theorem d_E_grind_45 : decode b_E_grind 45 = .ok (.iload_n 2, 1) := by decide +kernel
theorem d_E_grind_46 : decode b_E_grind 46 = .ok (.invokevirtual 104, 3) := by decide +kernel
theorem d_E_grind_49 : decode b_E_grind 49 = .ok (.ireturn, 1) := by decide +kernel
theorem d_E_about_0 : decode b_E_about 0 = .ok (.aload_n 0, 1) := by decide +kernel
theorem d_E_about_1 : decode b_E_about 1 = .ok (.iload_n 1, 1) := by decide +kernel
theorem d_E_about_2 : decode b_E_about 2 = .ok (.invokevirtual 82, 3) := by decide +kernel
theorem d_E_about_5 : decode b_E_about 5 = .ok (.astore_n 3, 1) := by decide +kernel
theorem d_E_about_6 : decode b_E_about 6 = .ok (.iload_n 2, 1) := by decide +kernel
theorem d_E_about_7 : decode b_E_about 7 = .ok (.tableswitch 73 0 5 #[37, 42, 48, 57, 63, 68], 37) := by decide +kernel
theorem d_E_about_44 : decode b_E_about 44 = .ok (.aload_n 3, 1) := by decide +kernel
theorem d_E_about_45 : decode b_E_about 45 = .ok (.getfield 108, 3) := by decide +kernel
theorem d_E_about_48 : decode b_E_about 48 = .ok (.lreturn, 1) := by decide +kernel
theorem d_E_about_49 : decode b_E_about 49 = .ok (.aload_n 3, 1) := by decide +kernel
theorem d_E_about_50 : decode b_E_about 50 = .ok (.getfield 111, 3) := by decide +kernel
theorem d_E_about_53 : decode b_E_about 53 = .ok (.i2l, 1) := by decide +kernel
theorem d_E_about_54 : decode b_E_about 54 = .ok (.lreturn, 1) := by decide +kernel
theorem d_E_about_55 : decode b_E_about 55 = .ok (.aload_n 3, 1) := by decide +kernel
theorem d_E_about_56 : decode b_E_about 56 = .ok (.getfield 114, 3) := by decide +kernel
theorem d_E_about_59 : decode b_E_about 59 = .ok (.getfield 118, 3) := by decide +kernel
theorem d_E_about_62 : decode b_E_about 62 = .ok (.i2l, 1) := by decide +kernel
theorem d_E_about_63 : decode b_E_about 63 = .ok (.lreturn, 1) := by decide +kernel
theorem d_E_about_64 : decode b_E_about 64 = .ok (.aload_n 3, 1) := by decide +kernel
theorem d_E_about_65 : decode b_E_about 65 = .ok (.invokevirtual 121, 3) := by decide +kernel
theorem d_E_about_68 : decode b_E_about 68 = .ok (.i2l, 1) := by decide +kernel
theorem d_E_about_69 : decode b_E_about 69 = .ok (.lreturn, 1) := by decide +kernel
theorem d_E_about_70 : decode b_E_about 70 = .ok (.aload_n 3, 1) := by decide +kernel
theorem d_E_about_71 : decode b_E_about 71 = .ok (.getfield 125, 3) := by decide +kernel
theorem d_E_about_74 : decode b_E_about 74 = .ok (.lreturn, 1) := by decide +kernel
theorem d_E_about_75 : decode b_E_about 75 = .ok (.aload_n 3, 1) := by decide +kernel
theorem d_E_about_76 : decode b_E_about 76 = .ok (.getfield 128, 3) := by decide +kernel
theorem d_E_about_79 : decode b_E_about 79 = .ok (.lreturn, 1) := by decide +kernel
theorem d_E_about_80 : decode b_E_about 80 = .ok (.new 131, 3) := by decide +kernel
theorem d_E_about_83 : decode b_E_about 83 = .ok (.dup, 1) := by decide +kernel
theorem d_E_about_84 : decode b_E_about 84 = .ok (.ldc 133, 2) := by decide +kernel
theorem d_E_about_86 : decode b_E_about 86 = .ok (.invokespecial 135, 3) := by decide +kernel
theorem d_E_about_89 : decode b_E_about 89 = .ok (.athrow, 1) := by decide +kernel
theorem d_E_spare_0 : decode b_E_spare 0 = .ok (.aload_n 0, 1) := by decide +kernel
theorem d_E_spare_1 : decode b_E_spare 1 = .ok (.iload_n 1, 1) := by decide +kernel
theorem d_E_spare_2 : decode b_E_spare 2 = .ok (.invokevirtual 45, 3) := by decide +kernel
theorem d_E_spare_5 : decode b_E_spare 5 = .ok (.getfield 118, 3) := by decide +kernel
theorem d_E_spare_8 : decode b_E_spare 8 = .ok (.istore_n 2, 1) := by decide +kernel
theorem d_E_spare_9 : decode b_E_spare 9 = .ok (.iconst 0, 1) := by decide +kernel
theorem d_E_spare_10 : decode b_E_spare 10 = .ok (.istore_n 3, 1) := by decide +kernel
theorem d_E_spare_11 : decode b_E_spare 11 = .ok (.iconst 0, 1) := by decide +kernel
theorem d_E_spare_12 : decode b_E_spare 12 = .ok (.istore 4, 2) := by decide +kernel
theorem d_E_spare_14 : decode b_E_spare 14 = .ok (.iload 4, 2) := by decide +kernel
theorem d_E_spare_16 : decode b_E_spare 16 = .ok (.aload_n 0, 1) := by decide +kernel
theorem d_E_spare_17 : decode b_E_spare 17 = .ok (.getfield 28, 3) := by decide +kernel
theorem d_E_spare_20 : decode b_E_spare 20 = .ok (.arraylength, 1) := by decide +kernel
theorem d_E_spare_21 : decode b_E_spare 21 = .ok (.if_icmp .ge 35, 3) := by decide +kernel
theorem d_E_spare_24 : decode b_E_spare 24 = .ok (.aload_n 0, 1) := by decide +kernel
theorem d_E_spare_25 : decode b_E_spare 25 = .ok (.getfield 28, 3) := by decide +kernel
theorem d_E_spare_28 : decode b_E_spare 28 = .ok (.iload 4, 2) := by decide +kernel
theorem d_E_spare_30 : decode b_E_spare 30 = .ok (.aaload, 1) := by decide +kernel
theorem d_E_spare_31 : decode b_E_spare 31 = .ok (.astore 5, 2) := by decide +kernel
theorem d_E_spare_33 : decode b_E_spare 33 = .ok (.aload 5, 2) := by decide +kernel
theorem d_E_spare_35 : decode b_E_spare 35 = .ok (.ifnull 15, 3) := by decide +kernel
theorem d_E_spare_38 : decode b_E_spare 38 = .ok (.aload 5, 2) := by decide +kernel
theorem d_E_spare_40 : decode b_E_spare 40 = .ok (.iload_n 2, 1) := by decide +kernel
theorem d_E_spare_41 : decode b_E_spare 41 = .ok (.invokevirtual 136, 3) := by decide +kernel
theorem d_E_spare_44 : decode b_E_spare 44 = .ok (.ifCond .eq 6, 3) := by decide +kernel
theorem d_E_spare_47 : decode b_E_spare 47 = .ok (.iinc 3 1, 3) := by decide +kernel
theorem d_E_spare_50 : decode b_E_spare 50 = .ok (.iinc 4 1, 3) := by decide +kernel
theorem d_E_spare_53 : decode b_E_spare 53 = .ok (.goto (-39), 3) := by decide +kernel
theorem d_E_spare_56 : decode b_E_spare 56 = .ok (.iload_n 3, 1) := by decide +kernel
theorem d_E_spare_57 : decode b_E_spare 57 = .ok (.ireturn, 1) := by decide +kernel
theorem d_E_take_0 : decode b_E_take 0 = .ok (.aload_n 0, 1) := by decide +kernel
theorem d_E_take_1 : decode b_E_take 1 = .ok (.aload_n 0, 1) := by decide +kernel
theorem d_E_take_2 : decode b_E_take 2 = .ok (.iload_n 1, 1) := by decide +kernel
theorem d_E_take_3 : decode b_E_take 3 = .ok (.invokevirtual 45, 3) := by decide +kernel
theorem d_E_take_6 : decode b_E_take 6 = .ok (.getfield 118, 3) := by decide +kernel
theorem d_E_take_9 : decode b_E_take 9 = .ok (.invokevirtual 139, 3) := by decide +kernel
theorem d_E_take_12 : decode b_E_take 12 = .ok (.istore_n 2, 1) := by decide +kernel
theorem d_E_take_13 : decode b_E_take 13 = .ok (.iload_n 2, 1) := by decide +kernel
theorem d_E_take_14 : decode b_E_take 14 = .ok (.iconst (-1), 1) := by decide +kernel
theorem d_E_take_15 : decode b_E_take 15 = .ok (.if_icmp .eq 12, 3) := by decide +kernel
theorem d_E_take_18 : decode b_E_take 18 = .ok (.aload_n 0, 1) := by decide +kernel
theorem d_E_take_19 : decode b_E_take 19 = .ok (.iload_n 2, 1) := by decide +kernel
theorem d_E_take_20 : decode b_E_take 20 = .ok (.invokevirtual 82, 3) := by decide +kernel
theorem d_E_take_23 : decode b_E_take 23 = .ok (.iconst 1, 1) := by decide +kernel
theorem d_E_take_24 : decode b_E_take 24 = .ok (.putfield 143, 3) := by decide +kernel
theorem d_E_take_27 : decode b_E_take 27 = .ok (.iload_n 2, 1) := by decide +kernel
theorem d_E_take_28 : decode b_E_take 28 = .ok (.ireturn, 1) := by decide +kernel
theorem d_E_bring_0 : decode b_E_bring 0 = .ok (.aload_n 0, 1) := by decide +kernel
theorem d_E_bring_1 : decode b_E_bring 1 = .ok (.iload_n 1, 1) := by decide +kernel
theorem d_E_bring_2 : decode b_E_bring 2 = .ok (.invokevirtual 82, 3) := by decide +kernel
theorem d_E_bring_5 : decode b_E_bring 5 = .ok (.astore_n 2, 1) := by decide +kernel
theorem d_E_bring_6 : decode b_E_bring 6 = .ok (.aload_n 2, 1) := by decide +kernel
theorem d_E_bring_7 : decode b_E_bring 7 = .ok (.getfield 143, 3) := by decide +kernel
theorem d_E_bring_10 : decode b_E_bring 10 = .ok (.istore_n 3, 1) := by decide +kernel
theorem d_E_bring_11 : decode b_E_bring 11 = .ok (.aload_n 2, 1) := by decide +kernel
theorem d_E_bring_12 : decode b_E_bring 12 = .ok (.iconst 0, 1) := by decide +kernel
theorem d_E_bring_13 : decode b_E_bring 13 = .ok (.putfield 143, 3) := by decide +kernel
theorem d_E_bring_16 : decode b_E_bring 16 = .ok (.iload_n 3, 1) := by decide +kernel
theorem d_E_bring_17 : decode b_E_bring 17 = .ok (.ireturn, 1) := by decide +kernel
theorem d_E_life_0 : decode b_E_life 0 = .ok (.aload_n 0, 1) := by decide +kernel
theorem d_E_life_1 : decode b_E_life 1 = .ok (.iload_n 1, 1) := by decide +kernel
theorem d_E_life_2 : decode b_E_life 2 = .ok (.invokevirtual 45, 3) := by decide +kernel
theorem d_E_life_5 : decode b_E_life 5 = .ok (.astore_n 3, 1) := by decide +kernel
theorem d_E_life_6 : decode b_E_life 6 = .ok (.iload_n 2, 1) := by decide +kernel
theorem d_E_life_7 : decode b_E_life 7 = .ok (.iconst 1, 1) := by decide +kernel
theorem d_E_life_8 : decode b_E_life 8 = .ok (.if_icmp .lt 10, 3) := by decide +kernel
theorem d_E_life_11 : decode b_E_life 11 = .ok (.iload_n 2, 1) := by decide +kernel
theorem d_E_life_12 : decode b_E_life 12 = .ok (.sipush 1000, 3) := by decide +kernel
theorem d_E_life_15 : decode b_E_life 15 = .ok (.if_icmp .le 13, 3) := by decide +kernel
theorem d_E_life_18 : decode b_E_life 18 = .ok (.new 50, 3) := by decide +kernel
theorem d_E_life_21 : decode b_E_life 21 = .ok (.dup, 1) := by decide +kernel
theorem d_E_life_22 : decode b_E_life 22 = .ok (.ldc 146, 2) := by decide +kernel
theorem d_E_life_24 : decode b_E_life 24 = .ok (.invokespecial 54, 3) := by decide +kernel
theorem d_E_life_27 : decode b_E_life 27 = .ok (.athrow, 1) := by decide +kernel
theorem d_E_life_28 : decode b_E_life 28 = .ok (.aload_n 3, 1) := by decide +kernel
theorem d_E_life_29 : decode b_E_life 29 = .ok (.getfield 148, 3) := by decide +kernel
theorem d_E_life_32 : decode b_E_life 32 = .ok (.aload_n 3, 1) := by decide +kernel
theorem d_E_life_33 : decode b_E_life 33 = .ok (.getfield 151, 3) := by decide +kernel
theorem d_E_life_36 : decode b_E_life 36 = .ok (.arraylength, 1) := by decide +kernel
theorem d_E_life_37 : decode b_E_life 37 = .ok (.if_icmp .lt 13, 3) := by decide +kernel
theorem d_E_life_40 : decode b_E_life 40 = .ok (.new 60, 3) := by decide +kernel
theorem d_E_life_43 : decode b_E_life 43 = .ok (.dup, 1) := by decide +kernel
theorem d_E_life_44 : decode b_E_life 44 = .ok (.ldc 154, 2) := by decide +kernel
theorem d_E_life_46 : decode b_E_life 46 = .ok (.invokespecial 64, 3) := by decide +kernel
theorem d_E_life_49 : decode b_E_life 49 = .ok (.athrow, 1) := by decide +kernel
theorem d_E_life_50 : decode b_E_life 50 = .ok (.aload_n 3, 1) := by decide +kernel
theorem d_E_life_51 : decode b_E_life 51 = .ok (.getfield 151, 3) := by decide +kernel
theorem d_E_life_54 : decode b_E_life 54 = .ok (.aload_n 3, 1) := by decide +kernel
theorem d_E_life_55 : decode b_E_life 55 = .ok (.getfield 148, 3) := by decide +kernel
theorem d_E_life_58 : decode b_E_life 58 = .ok (.iload_n 2, 1) := by decide +kernel
theorem d_E_life_59 : decode b_E_life 59 = .ok (.iastore, 1) := by decide +kernel
theorem d_E_life_60 : decode b_E_life 60 = .ok (.aload_n 3, 1) := by decide +kernel
theorem d_E_life_61 : decode b_E_life 61 = .ok (.dup, 1) := by decide +kernel
theorem d_E_life_62 : decode b_E_life 62 = .ok (.getfield 148, 3) := by decide +kernel
theorem d_E_life_65 : decode b_E_life 65 = .ok (.iconst 1, 1) := by decide +kernel
theorem d_E_life_66 : decode b_E_life 66 = .ok (.iadd, 1) := by decide +kernel
theorem d_E_life_67 : decode b_E_life 67 = .ok (.putfield 148, 3) := by decide +kernel
theorem d_E_life_70 : decode b_E_life 70 = .ok (.aload_n 3, 1) := by decide +kernel
theorem d_E_life_71 : decode b_E_life 71 = .ok (.getfield 148, 3) := by decide +kernel
theorem d_E_life_74 : decode b_E_life 74 = .ok (.ireturn, 1) := by decide +kernel
theorem d_E_cost_0 : decode b_E_cost 0 = .ok (.aload_n 0, 1) := by decide +kernel
theorem d_E_cost_1 : decode b_E_cost 1 = .ok (.iload_n 1, 1) := by decide +kernel
theorem d_E_cost_2 : decode b_E_cost 2 = .ok (.invokevirtual 45, 3) := by decide +kernel
theorem d_E_cost_5 : decode b_E_cost 5 = .ok (.astore 4, 2) := by decide +kernel
theorem d_E_cost_7 : decode b_E_cost 7 = .ok (.iload_n 2, 1) := by decide +kernel
theorem d_E_cost_8 : decode b_E_cost 8 = .ok (.ifCond .lt 19, 3) := by decide +kernel
theorem d_E_cost_11 : decode b_E_cost 11 = .ok (.iload_n 2, 1) := by decide +kernel
theorem d_E_cost_12 : decode b_E_cost 12 = .ok (.ldc 49, 2) := by decide +kernel
theorem d_E_cost_14 : decode b_E_cost 14 = .ok (.if_icmp .gt 13, 3) := by decide +kernel
theorem d_E_cost_17 : decode b_E_cost 17 = .ok (.iload_n 3, 1) := by decide +kernel
theorem d_E_cost_18 : decode b_E_cost 18 = .ok (.ifCond .lt 9, 3) := by decide +kernel
theorem d_E_cost_21 : decode b_E_cost 21 = .ok (.iload_n 3, 1) := by decide +kernel
theorem d_E_cost_22 : decode b_E_cost 22 = .ok (.ldc 49, 2) := by decide +kernel
theorem d_E_cost_24 : decode b_E_cost 24 = .ok (.if_icmp .le 13, 3) := by decide +kernel
theorem d_E_cost_27 : decode b_E_cost 27 = .ok (.new 50, 3) := by decide +kernel
theorem d_E_cost_30 : decode b_E_cost 30 = .ok (.dup, 1) := by decide +kernel
theorem d_E_cost_31 : decode b_E_cost 31 = .ok (.ldc 156, 2) := by decide +kernel
theorem d_E_cost_33 : decode b_E_cost 33 = .ok (.invokespecial 54, 3) := by decide +kernel
theorem d_E_cost_36 : decode b_E_cost 36 = .ok (.athrow, 1) := by decide +kernel
theorem d_E_cost_37 : decode b_E_cost 37 = .ok (.aload 4, 2) := by decide +kernel
theorem d_E_cost_39 : decode b_E_cost 39 = .ok (.iload_n 2, 1) := by decide +kernel
theorem d_E_cost_40 : decode b_E_cost 40 = .ok (.putfield 158, 3) := by decide +kernel
theorem d_E_cost_43 : decode b_E_cost 43 = .ok (.aload 4, 2) := by decide +kernel
theorem d_E_cost_45 : decode b_E_cost 45 = .ok (.iload_n 3, 1) := by decide +kernel
theorem d_E_cost_46 : decode b_E_cost 46 = .ok (.putfield 161, 3) := by decide +kernel
theorem d_E_cost_49 : decode b_E_cost 49 = .ok (.return_, 1) := by decide +kernel
theorem d_E_change_0 : decode b_E_change 0 = .ok (.aload_n 0, 1) := by decide +kernel
theorem d_E_change_1 : decode b_E_change 1 = .ok (.iload_n 1, 1) := by decide +kernel
theorem d_E_change_2 : decode b_E_change 2 = .ok (.invokevirtual 45, 3) := by decide +kernel
theorem d_E_change_5 : decode b_E_change 5 = .ok (.astore_n 2, 1) := by decide +kernel
theorem d_E_change_6 : decode b_E_change 6 = .ok (.aload_n 2, 1) := by decide +kernel
theorem d_E_change_7 : decode b_E_change 7 = .ok (.getfield 148, 3) := by decide +kernel
theorem d_E_change_10 : decode b_E_change 10 = .ok (.ifCond .ne 13, 3) := by decide +kernel
theorem d_E_change_13 : decode b_E_change 13 = .ok (.new 60, 3) := by decide +kernel
theorem d_E_change_16 : decode b_E_change 16 = .ok (.dup, 1) := by decide +kernel
theorem d_E_change_17 : decode b_E_change 17 = .ok (.ldc 164, 2) := by decide +kernel
theorem d_E_change_19 : decode b_E_change 19 = .ok (.invokespecial 64, 3) := by decide +kernel
theorem d_E_change_22 : decode b_E_change 22 = .ok (.athrow, 1) := by decide +kernel
theorem d_E_change_23 : decode b_E_change 23 = .ok (.aload_n 2, 1) := by decide +kernel
theorem d_E_change_24 : decode b_E_change 24 = .ok (.invokevirtual 166, 3) := by decide +kernel
theorem d_E_change_27 : decode b_E_change 27 = .ok (.ireturn, 1) := by decide +kernel
theorem d_E_changed_0 : decode b_E_changed 0 = .ok (.aload_n 0, 1) := by decide +kernel
theorem d_E_changed_1 : decode b_E_changed 1 = .ok (.iload_n 1, 1) := by decide +kernel
theorem d_E_changed_2 : decode b_E_changed 2 = .ok (.invokevirtual 45, 3) := by decide +kernel
theorem d_E_changed_5 : decode b_E_changed 5 = .ok (.astore 4, 2) := by decide +kernel
theorem d_E_changed_7 : decode b_E_changed 7 = .ok (.iload_n 3, 1) := by decide +kernel
theorem d_E_changed_8 : decode b_E_changed 8 = .ok (.ifCond .eq 18, 3) := by decide +kernel
theorem d_E_changed_11 : decode b_E_changed 11 = .ok (.iload_n 3, 1) := by decide +kernel
theorem d_E_changed_12 : decode b_E_changed 12 = .ok (.iconst 1, 1) := by decide +kernel
theorem d_E_changed_13 : decode b_E_changed 13 = .ok (.if_icmp .eq 13, 3) := by decide +kernel
theorem d_E_changed_16 : decode b_E_changed 16 = .ok (.new 131, 3) := by decide +kernel
theorem d_E_changed_19 : decode b_E_changed 19 = .ok (.dup, 1) := by decide +kernel
theorem d_E_changed_20 : decode b_E_changed 20 = .ok (.ldc 169, 2) := by decide +kernel
theorem d_E_changed_22 : decode b_E_changed 22 = .ok (.invokespecial 135, 3) := by decide +kernel
theorem d_E_changed_25 : decode b_E_changed 25 = .ok (.athrow, 1) := by decide +kernel
theorem d_E_changed_26 : decode b_E_changed 26 = .ok (.iload_n 2, 1) := by decide +kernel
theorem d_E_changed_27 : decode b_E_changed 27 = .ok (.iconst 1, 1) := by decide +kernel
theorem d_E_changed_28 : decode b_E_changed 28 = .ok (.if_icmp .ge 13, 3) := by decide +kernel
theorem d_E_changed_31 : decode b_E_changed 31 = .ok (.new 50, 3) := by decide +kernel
theorem d_E_changed_34 : decode b_E_changed 34 = .ok (.dup, 1) := by decide +kernel
theorem d_E_changed_35 : decode b_E_changed 35 = .ok (.ldc 171, 2) := by decide +kernel
theorem d_E_changed_37 : decode b_E_changed 37 = .ok (.invokespecial 54, 3) := by decide +kernel
theorem d_E_changed_40 : decode b_E_changed 40 = .ok (.athrow, 1) := by decide +kernel
theorem d_E_changed_41 : decode b_E_changed 41 = .ok (.iload_n 2, 1) := by decide +kernel
theorem d_E_changed_42 : decode b_E_changed 42 = .ok (.aload 4, 2) := by decide +kernel
theorem d_E_changed_44 : decode b_E_changed 44 = .ok (.invokevirtual 173, 3) := by decide +kernel
theorem d_E_changed_47 : decode b_E_changed 47 = .ok (.if_icmp .le 13, 3) := by decide +kernel
theorem d_E_changed_50 : decode b_E_changed 50 = .ok (.new 60, 3) := by decide +kernel
theorem d_E_changed_53 : decode b_E_changed 53 = .ok (.dup, 1) := by decide +kernel
theorem d_E_changed_54 : decode b_E_changed 54 = .ok (.ldc 176, 2) := by decide +kernel
theorem d_E_changed_56 : decode b_E_changed 56 = .ok (.invokespecial 64, 3) := by decide +kernel
theorem d_E_changed_59 : decode b_E_changed 59 = .ok (.athrow, 1) := by decide +kernel
theorem d_E_changed_60 : decode b_E_changed 60 = .ok (.iload_n 3, 1) := by decide +kernel
theorem d_E_changed_61 : decode b_E_changed 61 = .ok (.ifCond .ne 12, 3) := by decide +kernel
theorem d_E_changed_64 : decode b_E_changed 64 = .ok (.aload 4, 2) := by decide +kernel
theorem d_E_changed_66 : decode b_E_changed 66 = .ok (.iload_n 2, 1) := by decide +kernel
theorem d_E_changed_67 : decode b_E_changed 67 = .ok (.invokevirtual 178, 3) := by decide +kernel
theorem d_E_changed_70 : decode b_E_changed 70 = .ok (.goto 9, 3) := by decide +kernel
theorem d_E_changed_73 : decode b_E_changed 73 = .ok (.aload 4, 2) := by decide +kernel
theorem d_E_changed_75 : decode b_E_changed 75 = .ok (.iload_n 2, 1) := by decide +kernel
theorem d_E_changed_76 : decode b_E_changed 76 = .ok (.invokevirtual 182, 3) := by decide +kernel
theorem d_E_changed_79 : decode b_E_changed 79 = .ok (.lreturn, 1) := by decide +kernel
theorem d_E_breaks_0 : decode b_E_breaks 0 = .ok (.aload_n 0, 1) := by decide +kernel
theorem d_E_breaks_1 : decode b_E_breaks 1 = .ok (.iload_n 1, 1) := by decide +kernel
theorem d_E_breaks_2 : decode b_E_breaks 2 = .ok (.invokevirtual 45, 3) := by decide +kernel
theorem d_E_breaks_5 : decode b_E_breaks 5 = .ok (.astore_n 3, 1) := by decide +kernel
theorem d_E_breaks_6 : decode b_E_breaks 6 = .ok (.iload_n 2, 1) := by decide +kernel
theorem d_E_breaks_7 : decode b_E_breaks 7 = .ok (.ifCond .ge 13, 3) := by decide +kernel
theorem d_E_breaks_10 : decode b_E_breaks 10 = .ok (.new 50, 3) := by decide +kernel
theorem d_E_breaks_13 : decode b_E_breaks 13 = .ok (.dup, 1) := by decide +kernel
theorem d_E_breaks_14 : decode b_E_breaks 14 = .ok (.ldc 185, 2) := by decide +kernel
theorem d_E_breaks_16 : decode b_E_breaks 16 = .ok (.invokespecial 54, 3) := by decide +kernel
theorem d_E_breaks_19 : decode b_E_breaks 19 = .ok (.athrow, 1) := by decide +kernel
theorem d_E_breaks_20 : decode b_E_breaks 20 = .ok (.aload_n 3, 1) := by decide +kernel
theorem d_E_breaks_21 : decode b_E_breaks 21 = .ok (.getfield 148, 3) := by decide +kernel
theorem d_E_breaks_24 : decode b_E_breaks 24 = .ok (.ifCond .ne 13, 3) := by decide +kernel
theorem d_E_breaks_27 : decode b_E_breaks 27 = .ok (.new 60, 3) := by decide +kernel
theorem d_E_breaks_30 : decode b_E_breaks 30 = .ok (.dup, 1) := by decide +kernel
theorem d_E_breaks_31 : decode b_E_breaks 31 = .ok (.ldc 164, 2) := by decide +kernel
theorem d_E_breaks_33 : decode b_E_breaks 33 = .ok (.invokespecial 64, 3) := by decide +kernel
theorem d_E_breaks_36 : decode b_E_breaks 36 = .ok (.athrow, 1) := by decide +kernel
theorem d_E_breaks_37 : decode b_E_breaks 37 = .ok (.aload_n 0, 1) := by decide +kernel
theorem d_E_breaks_38 : decode b_E_breaks 38 = .ok (.iload_n 1, 1) := by decide +kernel
theorem d_E_breaks_39 : decode b_E_breaks 39 = .ok (.iload_n 2, 1) := by decide +kernel
theorem d_E_breaks_40 : decode b_E_breaks 40 = .ok (.invokevirtual 187, 3) := by decide +kernel
theorem d_E_breaks_43 : decode b_E_breaks 43 = .ok (.iconst 1, 1) := by decide +kernel
theorem d_E_breaks_44 : decode b_E_breaks 44 = .ok (.lushr, 1) := by decide +kernel
theorem d_E_breaks_45 : decode b_E_breaks 45 = .ok (.aload_n 3, 1) := by decide +kernel
theorem d_E_breaks_46 : decode b_E_breaks 46 = .ok (.getfield 148, 3) := by decide +kernel
theorem d_E_breaks_49 : decode b_E_breaks 49 = .ok (.i2l, 1) := by decide +kernel
theorem d_E_breaks_50 : decode b_E_breaks 50 = .ok (.lrem, 1) := by decide +kernel
theorem d_E_breaks_51 : decode b_E_breaks 51 = .ok (.l2i, 1) := by decide +kernel
theorem d_E_breaks_52 : decode b_E_breaks 52 = .ok (.istore 4, 2) := by decide +kernel
theorem d_E_breaks_54 : decode b_E_breaks 54 = .ok (.aload_n 3, 1) := by decide +kernel
theorem d_E_breaks_55 : decode b_E_breaks 55 = .ok (.getfield 151, 3) := by decide +kernel
theorem d_E_breaks_58 : decode b_E_breaks 58 = .ok (.iload 4, 2) := by decide +kernel
theorem d_E_breaks_60 : decode b_E_breaks 60 = .ok (.iaload, 1) := by decide +kernel
theorem d_E_breaks_61 : decode b_E_breaks 61 = .ok (.ireturn, 1) := by decide +kernel
theorem d_E_rules_0 : decode b_E_rules 0 = .ok (.iload_n 1, 1) := by decide +kernel
theorem d_E_rules_1 : decode b_E_rules 1 = .ok (.ifCond .lt 31, 3) := by decide +kernel
theorem d_E_rules_4 : decode b_E_rules 4 = .ok (.iload_n 1, 1) := by decide +kernel
theorem d_E_rules_5 : decode b_E_rules 5 = .ok (.ldc 49, 2) := by decide +kernel
theorem d_E_rules_7 : decode b_E_rules 7 = .ok (.if_icmp .gt 25, 3) := by decide +kernel
theorem d_E_rules_10 : decode b_E_rules 10 = .ok (.iload_n 3, 1) := by decide +kernel
theorem d_E_rules_11 : decode b_E_rules 11 = .ok (.ifCond .lt 21, 3) := by decide +kernel
theorem d_E_rules_14 : decode b_E_rules 14 = .ok (.iload_n 3, 1) := by decide +kernel
theorem d_E_rules_15 : decode b_E_rules 15 = .ok (.ldc 49, 2) := by decide +kernel
theorem d_E_rules_17 : decode b_E_rules 17 = .ok (.if_icmp .gt 15, 3) := by decide +kernel
theorem d_E_rules_20 : decode b_E_rules 20 = .ok (.iload 4, 2) := by decide +kernel
theorem d_E_rules_22 : decode b_E_rules 22 = .ok (.ifCond .lt 10, 3) := by decide +kernel
theorem d_E_rules_25 : decode b_E_rules 25 = .ok (.iload 4, 2) := by decide +kernel
theorem d_E_rules_27 : decode b_E_rules 27 = .ok (.ldc 49, 2) := by decide +kernel
theorem d_E_rules_29 : decode b_E_rules 29 = .ok (.if_icmp .le 13, 3) := by decide +kernel
theorem d_E_rules_32 : decode b_E_rules 32 = .ok (.new 50, 3) := by decide +kernel
theorem d_E_rules_35 : decode b_E_rules 35 = .ok (.dup, 1) := by decide +kernel
theorem d_E_rules_36 : decode b_E_rules 36 = .ok (.ldc 191, 2) := by decide +kernel
theorem d_E_rules_38 : decode b_E_rules 38 = .ok (.invokespecial 54, 3) := by decide +kernel
theorem d_E_rules_41 : decode b_E_rules 41 = .ok (.athrow, 1) := by decide +kernel
theorem d_E_rules_42 : decode b_E_rules 42 = .ok (.iload_n 2, 1) := by decide +kernel
theorem d_E_rules_43 : decode b_E_rules 43 = .ok (.iconst 2, 1) := by decide +kernel
theorem d_E_rules_44 : decode b_E_rules 44 = .ok (.if_icmp .lt 9, 3) := by decide +kernel
theorem d_E_rules_47 : decode b_E_rules 47 = .ok (.iload_n 2, 1) := by decide +kernel
theorem d_E_rules_48 : decode b_E_rules 48 = .ok (.bipush 12, 2) := by decide +kernel
theorem d_E_rules_50 : decode b_E_rules 50 = .ok (.if_icmp .le 13, 3) := by decide +kernel
theorem d_E_rules_53 : decode b_E_rules 53 = .ok (.new 50, 3) := by decide +kernel
theorem d_E_rules_56 : decode b_E_rules 56 = .ok (.dup, 1) := by decide +kernel
theorem d_E_rules_57 : decode b_E_rules 57 = .ok (.ldc 193, 2) := by decide +kernel
theorem d_E_rules_59 : decode b_E_rules 59 = .ok (.invokespecial 54, 3) := by decide +kernel
theorem d_E_rules_62 : decode b_E_rules 62 = .ok (.athrow, 1) := by decide +kernel
theorem d_E_rules_63 : decode b_E_rules 63 = .ok (.aload_n 0, 1) := by decide +kernel
theorem d_E_rules_64 : decode b_E_rules 64 = .ok (.getfield 41, 3) := by decide +kernel
theorem d_E_rules_67 : decode b_E_rules 67 = .ok (.iload_n 1, 1) := by decide +kernel
theorem d_E_rules_68 : decode b_E_rules 68 = .ok (.putfield 195, 3) := by decide +kernel
theorem d_E_rules_71 : decode b_E_rules 71 = .ok (.aload_n 0, 1) := by decide +kernel
theorem d_E_rules_72 : decode b_E_rules 72 = .ok (.getfield 41, 3) := by decide +kernel
theorem d_E_rules_75 : decode b_E_rules 75 = .ok (.iload_n 2, 1) := by decide +kernel
theorem d_E_rules_76 : decode b_E_rules 76 = .ok (.putfield 198, 3) := by decide +kernel
theorem d_E_rules_79 : decode b_E_rules 79 = .ok (.aload_n 0, 1) := by decide +kernel
theorem d_E_rules_80 : decode b_E_rules 80 = .ok (.getfield 41, 3) := by decide +kernel
theorem d_E_rules_83 : decode b_E_rules 83 = .ok (.iload_n 3, 1) := by decide +kernel
theorem d_E_rules_84 : decode b_E_rules 84 = .ok (.putfield 201, 3) := by decide +kernel
theorem d_E_rules_87 : decode b_E_rules 87 = .ok (.aload_n 0, 1) := by decide +kernel
theorem d_E_rules_88 : decode b_E_rules 88 = .ok (.getfield 41, 3) := by decide +kernel
theorem d_E_rules_91 : decode b_E_rules 91 = .ok (.iload 4, 2) := by decide +kernel
theorem d_E_rules_93 : decode b_E_rules 93 = .ok (.putfield 204, 3) := by decide +kernel
theorem d_E_rules_96 : decode b_E_rules 96 = .ok (.return_, 1) := by decide +kernel
theorem d_E_power_0 : decode b_E_power 0 = .ok (.aload_n 0, 1) := by decide +kernel
theorem d_E_power_1 : decode b_E_power 1 = .ok (.iload_n 1, 1) := by decide +kernel
theorem d_E_power_2 : decode b_E_power 2 = .ok (.invokevirtual 82, 3) := by decide +kernel
theorem d_E_power_5 : decode b_E_power 5 = .ok (.getfield 207, 3) := by decide +kernel
theorem d_E_power_8 : decode b_E_power 8 = .ok (.astore 4, 2) := by decide +kernel
theorem d_E_power_10 : decode b_E_power 10 = .ok (.iload_n 3, 1) := by decide +kernel
theorem d_E_power_11 : decode b_E_power 11 = .ok (.ifCond .lt 9, 3) := by decide +kernel
theorem d_E_power_14 : decode b_E_power 14 = .ok (.iload_n 3, 1) := by decide +kernel
theorem d_E_power_15 : decode b_E_power 15 = .ok (.ldc 49, 2) := by decide +kernel
theorem d_E_power_17 : decode b_E_power 17 = .ok (.if_icmp .le 13, 3) := by decide +kernel
theorem d_E_power_20 : decode b_E_power 20 = .ok (.new 50, 3) := by decide +kernel
theorem d_E_power_23 : decode b_E_power 23 = .ok (.dup, 1) := by decide +kernel
theorem d_E_power_24 : decode b_E_power 24 = .ok (.ldc 211, 2) := by decide +kernel
theorem d_E_power_26 : decode b_E_power 26 = .ok (.invokespecial 54, 3) := by decide +kernel
theorem d_E_power_29 : decode b_E_power 29 = .ok (.athrow, 1) := by decide +kernel
theorem d_E_power_30 : decode b_E_power 30 = .ok (.iload_n 2, 1) := by decide +kernel
theorem d_E_power_31 : decode b_E_power 31 = .ok (.aload 4, 2) := by decide +kernel
theorem d_E_power_33 : decode b_E_power 33 = .ok (.getfield 213, 3) := by decide +kernel
theorem d_E_power_36 : decode b_E_power 36 = .ok (.if_icmp .gt 13, 3) := by decide +kernel
theorem d_E_power_39 : decode b_E_power 39 = .ok (.new 50, 3) := by decide +kernel
theorem d_E_power_42 : decode b_E_power 42 = .ok (.dup, 1) := by decide +kernel
theorem d_E_power_43 : decode b_E_power 43 = .ok (.ldc 218, 2) := by decide +kernel
theorem d_E_power_45 : decode b_E_power 45 = .ok (.invokespecial 54, 3) := by decide +kernel
theorem d_E_power_48 : decode b_E_power 48 = .ok (.athrow, 1) := by decide +kernel
theorem d_E_power_49 : decode b_E_power 49 = .ok (.aload 4, 2) := by decide +kernel
theorem d_E_power_51 : decode b_E_power 51 = .ok (.iload_n 2, 1) := by decide +kernel
theorem d_E_power_52 : decode b_E_power 52 = .ok (.iload_n 3, 1) := by decide +kernel
theorem d_E_power_53 : decode b_E_power 53 = .ok (.invokevirtual 220, 3) := by decide +kernel
theorem d_E_power_56 : decode b_E_power 56 = .ok (.aload_n 0, 1) := by decide +kernel
theorem d_E_power_57 : decode b_E_power 57 = .ok (.getfield 41, 3) := by decide +kernel
theorem d_E_power_60 : decode b_E_power 60 = .ok (.aload 4, 2) := by decide +kernel
theorem d_E_power_62 : decode b_E_power 62 = .ok (.invokevirtual 224, 3) := by decide +kernel
theorem d_E_power_65 : decode b_E_power 65 = .ok (.ireturn, 1) := by decide +kernel
theorem d_E_order_0 : decode b_E_order 0 = .ok (.aload_n 0, 1) := by decide +kernel
theorem d_E_order_1 : decode b_E_order 1 = .ok (.iload_n 1, 1) := by decide +kernel
theorem d_E_order_2 : decode b_E_order 2 = .ok (.invokevirtual 82, 3) := by decide +kernel
theorem d_E_order_5 : decode b_E_order 5 = .ok (.astore_n 3, 1) := by decide +kernel
theorem d_E_order_6 : decode b_E_order 6 = .ok (.iload_n 2, 1) := by decide +kernel
theorem d_E_order_7 : decode b_E_order 7 = .ok (.ifCond .lt 10, 3) := by decide +kernel
theorem d_E_order_10 : decode b_E_order 10 = .ok (.iload_n 2, 1) := by decide +kernel
theorem d_E_order_11 : decode b_E_order 11 = .ok (.sipush 10000, 3) := by decide +kernel
theorem d_E_order_14 : decode b_E_order 14 = .ok (.if_icmp .le 13, 3) := by decide +kernel
theorem d_E_order_17 : decode b_E_order 17 = .ok (.new 50, 3) := by decide +kernel
theorem d_E_order_20 : decode b_E_order 20 = .ok (.dup, 1) := by decide +kernel
theorem d_E_order_21 : decode b_E_order 21 = .ok (.ldc 228, 2) := by decide +kernel
theorem d_E_order_23 : decode b_E_order 23 = .ok (.invokespecial 54, 3) := by decide +kernel
theorem d_E_order_26 : decode b_E_order 26 = .ok (.athrow, 1) := by decide +kernel
theorem d_E_order_27 : decode b_E_order 27 = .ok (.aload_n 0, 1) := by decide +kernel
theorem d_E_order_28 : decode b_E_order 28 = .ok (.getfield 230, 3) := by decide +kernel
theorem d_E_order_31 : decode b_E_order 31 = .ok (.aload_n 0, 1) := by decide +kernel
theorem d_E_order_32 : decode b_E_order 32 = .ok (.getfield 34, 3) := by decide +kernel
theorem d_E_order_35 : decode b_E_order 35 = .ok (.arraylength, 1) := by decide +kernel
theorem d_E_order_36 : decode b_E_order 36 = .ok (.if_icmp .lt 5, 3) := by decide +kernel
theorem d_E_order_39 : decode b_E_order 39 = .ok (.iconst 0, 1) := by decide +kernel
theorem d_E_order_40 : decode b_E_order 40 = .ok (.ireturn, 1) := by decide +kernel
theorem d_E_order_41 : decode b_E_order 41 = .ok (.aload_n 0, 1) := by decide +kernel
theorem d_E_order_42 : decode b_E_order 42 = .ok (.getfield 34, 3) := by decide +kernel
theorem d_E_order_45 : decode b_E_order 45 = .ok (.aload_n 0, 1) := by decide +kernel
theorem d_E_order_46 : decode b_E_order 46 = .ok (.getfield 230, 3) := by decide +kernel
theorem d_E_order_49 : decode b_E_order 49 = .ok (.new 32, 3) := by decide +kernel
theorem d_E_order_52 : decode b_E_order 52 = .ok (.dup, 1) := by decide +kernel
theorem d_E_order_53 : decode b_E_order 53 = .ok (.aload_n 3, 1) := by decide +kernel
theorem d_E_order_54 : decode b_E_order 54 = .ok (.getfield 114, 3) := by decide +kernel
theorem d_E_order_57 : decode b_E_order 57 = .ok (.getfield 118, 3) := by decide +kernel
theorem d_E_order_60 : decode b_E_order 60 = .ok (.iload_n 2, 1) := by decide +kernel
theorem d_E_order_61 : decode b_E_order 61 = .ok (.invokespecial 233, 3) := by decide +kernel
theorem d_E_order_64 : decode b_E_order 64 = .ok (.aastore, 1) := by decide +kernel
theorem d_E_order_65 : decode b_E_order 65 = .ok (.aload_n 0, 1) := by decide +kernel
theorem d_E_order_66 : decode b_E_order 66 = .ok (.dup, 1) := by decide +kernel
theorem d_E_order_67 : decode b_E_order 67 = .ok (.getfield 230, 3) := by decide +kernel
theorem d_E_order_70 : decode b_E_order 70 = .ok (.iconst 1, 1) := by decide +kernel
theorem d_E_order_71 : decode b_E_order 71 = .ok (.iadd, 1) := by decide +kernel
theorem d_E_order_72 : decode b_E_order 72 = .ok (.putfield 230, 3) := by decide +kernel
theorem d_E_order_75 : decode b_E_order 75 = .ok (.iconst 1, 1) := by decide +kernel
theorem d_E_order_76 : decode b_E_order 76 = .ok (.ireturn, 1) := by decide +kernel
theorem d_E_joined_0 : decode b_E_joined 0 = .ok (.aload_n 0, 1) := by decide +kernel
theorem d_E_joined_1 : decode b_E_joined 1 = .ok (.iload_n 1, 1) := by decide +kernel
theorem d_E_joined_2 : decode b_E_joined 2 = .ok (.invokevirtual 45, 3) := by decide +kernel
theorem d_E_joined_5 : decode b_E_joined 5 = .ok (.getfield 118, 3) := by decide +kernel
theorem d_E_joined_8 : decode b_E_joined 8 = .ok (.istore_n 3, 1) := by decide +kernel
theorem d_E_joined_9 : decode b_E_joined 9 = .ok (.iload_n 2, 1) := by decide +kernel
theorem d_E_joined_10 : decode b_E_joined 10 = .ok (.ifCond .lt 10, 3) := by decide +kernel
theorem d_E_joined_13 : decode b_E_joined 13 = .ok (.iload_n 2, 1) := by decide +kernel
theorem d_E_joined_14 : decode b_E_joined 14 = .ok (.sipush 10000, 3) := by decide +kernel
theorem d_E_joined_17 : decode b_E_joined 17 = .ok (.if_icmp .le 13, 3) := by decide +kernel
theorem d_E_joined_20 : decode b_E_joined 20 = .ok (.new 50, 3) := by decide +kernel
theorem d_E_joined_23 : decode b_E_joined 23 = .ok (.dup, 1) := by decide +kernel
theorem d_E_joined_24 : decode b_E_joined 24 = .ok (.ldc 228, 2) := by decide +kernel
theorem d_E_joined_26 : decode b_E_joined 26 = .ok (.invokespecial 54, 3) := by decide +kernel
theorem d_E_joined_29 : decode b_E_joined 29 = .ok (.athrow, 1) := by decide +kernel
theorem d_E_joined_30 : decode b_E_joined 30 = .ok (.aload_n 0, 1) := by decide +kernel
theorem d_E_joined_31 : decode b_E_joined 31 = .ok (.iload_n 3, 1) := by decide +kernel
theorem d_E_joined_32 : decode b_E_joined 32 = .ok (.iload_n 2, 1) := by decide +kernel
theorem d_E_joined_33 : decode b_E_joined 33 = .ok (.iconst 2, 1) := by decide +kernel
theorem d_E_joined_34 : decode b_E_joined 34 = .ok (.iadd, 1) := by decide +kernel
theorem d_E_joined_35 : decode b_E_joined 35 = .ok (.invokevirtual 235, 3) := by decide +kernel
theorem d_E_joined_38 : decode b_E_joined 38 = .ok (.ifCond .ne 5, 3) := by decide +kernel
theorem d_E_joined_41 : decode b_E_joined 41 = .ok (.iconst 0, 1) := by decide +kernel
theorem d_E_joined_42 : decode b_E_joined 42 = .ok (.ireturn, 1) := by decide +kernel
theorem d_E_joined_43 : decode b_E_joined 43 = .ok (.aload_n 0, 1) := by decide +kernel
theorem d_E_joined_44 : decode b_E_joined 44 = .ok (.iload_n 3, 1) := by decide +kernel
theorem d_E_joined_45 : decode b_E_joined 45 = .ok (.iload_n 2, 1) := by decide +kernel
theorem d_E_joined_46 : decode b_E_joined 46 = .ok (.bipush 7, 2) := by decide +kernel
theorem d_E_joined_48 : decode b_E_joined 48 = .ok (.iadd, 1) := by decide +kernel
theorem d_E_joined_49 : decode b_E_joined 49 = .ok (.invokevirtual 239, 3) := by decide +kernel
theorem d_E_joined_52 : decode b_E_joined 52 = .ok (.ireturn, 1) := by decide +kernel
theorem d_E_open_0 : decode b_E_open 0 = .ok (.iconst 0, 1) := by decide +kernel
theorem d_E_open_1 : decode b_E_open 1 = .ok (.istore_n 1, 1) := by decide +kernel
theorem d_E_open_2 : decode b_E_open 2 = .ok (.iconst 0, 1) := by decide +kernel
theorem d_E_open_3 : decode b_E_open 3 = .ok (.istore_n 2, 1) := by decide +kernel
theorem d_E_open_4 : decode b_E_open 4 = .ok (.iload_n 2, 1) := by decide +kernel
theorem d_E_open_5 : decode b_E_open 5 = .ok (.aload_n 0, 1) := by decide +kernel
theorem d_E_open_6 : decode b_E_open 6 = .ok (.getfield 34, 3) := by decide +kernel
theorem d_E_open_9 : decode b_E_open 9 = .ok (.arraylength, 1) := by decide +kernel
theorem d_E_open_10 : decode b_E_open 10 = .ok (.if_icmp .ge 30, 3) := by decide +kernel
theorem d_E_open_13 : decode b_E_open 13 = .ok (.aload_n 0, 1) := by decide +kernel
theorem d_E_open_14 : decode b_E_open 14 = .ok (.getfield 34, 3) := by decide +kernel
theorem d_E_open_17 : decode b_E_open 17 = .ok (.iload_n 2, 1) := by decide +kernel
theorem d_E_open_18 : decode b_E_open 18 = .ok (.aaload, 1) := by decide +kernel
theorem d_E_open_19 : decode b_E_open 19 = .ok (.astore_n 3, 1) := by decide +kernel
theorem d_E_open_20 : decode b_E_open 20 = .ok (.aload_n 3, 1) := by decide +kernel
theorem d_E_open_21 : decode b_E_open 21 = .ok (.ifnull 13, 3) := by decide +kernel
theorem d_E_open_24 : decode b_E_open 24 = .ok (.aload_n 3, 1) := by decide +kernel
theorem d_E_open_25 : decode b_E_open 25 = .ok (.getfield 242, 3) := by decide +kernel
theorem d_E_open_28 : decode b_E_open 28 = .ok (.ifCond .ne 6, 3) := by decide +kernel
theorem d_E_open_31 : decode b_E_open 31 = .ok (.iinc 1 1, 3) := by decide +kernel
theorem d_E_open_34 : decode b_E_open 34 = .ok (.iinc 2 1, 3) := by decide +kernel
theorem d_E_open_37 : decode b_E_open 37 = .ok (.goto (-33), 3) := by decide +kernel
theorem d_E_open_40 : decode b_E_open 40 = .ok (.iload_n 1, 1) := by decide +kernel
theorem d_E_open_41 : decode b_E_open 41 = .ok (.ireturn, 1) := by decide +kernel
theorem d_E_chip_0 : decode b_E_chip 0 = .ok (.iload 4, 2) := by decide +kernel
theorem d_E_chip_2 : decode b_E_chip 2 = .ok (.ifCond .eq 19, 3) := by decide +kernel
theorem d_E_chip_5 : decode b_E_chip 5 = .ok (.iload 4, 2) := by decide +kernel
theorem d_E_chip_7 : decode b_E_chip 7 = .ok (.iconst 1, 1) := by decide +kernel
theorem d_E_chip_8 : decode b_E_chip 8 = .ok (.if_icmp .eq 13, 3) := by decide +kernel
theorem d_E_chip_11 : decode b_E_chip 11 = .ok (.new 131, 3) := by decide +kernel
theorem d_E_chip_14 : decode b_E_chip 14 = .ok (.dup, 1) := by decide +kernel
theorem d_E_chip_15 : decode b_E_chip 15 = .ok (.ldc 245, 2) := by decide +kernel
theorem d_E_chip_17 : decode b_E_chip 17 = .ok (.invokespecial 135, 3) := by decide +kernel
theorem d_E_chip_20 : decode b_E_chip 20 = .ok (.athrow, 1) := by decide +kernel
theorem d_E_chip_21 : decode b_E_chip 21 = .ok (.iload_n 1, 1) := by decide +kernel
theorem d_E_chip_22 : decode b_E_chip 22 = .ok (.ifCond .lt 9, 3) := by decide +kernel
theorem d_E_chip_25 : decode b_E_chip 25 = .ok (.iload_n 1, 1) := by decide +kernel
theorem d_E_chip_26 : decode b_E_chip 26 = .ok (.ldc 49, 2) := by decide +kernel
theorem d_E_chip_28 : decode b_E_chip 28 = .ok (.if_icmp .le 13, 3) := by decide +kernel
theorem d_E_chip_31 : decode b_E_chip 31 = .ok (.new 50, 3) := by decide +kernel
theorem d_E_chip_34 : decode b_E_chip 34 = .ok (.dup, 1) := by decide +kernel
theorem d_E_chip_35 : decode b_E_chip 35 = .ok (.ldc 247, 2) := by decide +kernel
theorem d_E_chip_37 : decode b_E_chip 37 = .ok (.invokespecial 54, 3) := by decide +kernel
theorem d_E_chip_40 : decode b_E_chip 40 = .ok (.athrow, 1) := by decide +kernel
theorem d_E_chip_41 : decode b_E_chip 41 = .ok (.iload_n 3, 1) := by decide +kernel
theorem d_E_chip_42 : decode b_E_chip 42 = .ok (.iconst 1, 1) := by decide +kernel
theorem d_E_chip_43 : decode b_E_chip 43 = .ok (.if_icmp .lt 19, 3) := by decide +kernel
theorem d_E_chip_46 : decode b_E_chip 46 = .ok (.iload_n 3, 1) := by decide +kernel
theorem d_E_chip_47 : decode b_E_chip 47 = .ok (.sipush 1000, 3) := by decide +kernel
theorem d_E_chip_50 : decode b_E_chip 50 = .ok (.if_icmp .gt 12, 3) := by decide +kernel
theorem d_E_chip_53 : decode b_E_chip 53 = .ok (.iload_n 2, 1) := by decide +kernel
theorem d_E_chip_54 : decode b_E_chip 54 = .ok (.ifCond .lt 8, 3) := by decide +kernel
theorem d_E_chip_57 : decode b_E_chip 57 = .ok (.iload_n 2, 1) := by decide +kernel
theorem d_E_chip_58 : decode b_E_chip 58 = .ok (.iload_n 3, 1) := by decide +kernel
theorem d_E_chip_59 : decode b_E_chip 59 = .ok (.if_icmp .le 13, 3) := by decide +kernel
theorem d_E_chip_62 : decode b_E_chip 62 = .ok (.new 50, 3) := by decide +kernel
theorem d_E_chip_65 : decode b_E_chip 65 = .ok (.dup, 1) := by decide +kernel
theorem d_E_chip_66 : decode b_E_chip 66 = .ok (.ldc 249, 2) := by decide +kernel
theorem d_E_chip_68 : decode b_E_chip 68 = .ok (.invokespecial 54, 3) := by decide +kernel
theorem d_E_chip_71 : decode b_E_chip 71 = .ok (.athrow, 1) := by decide +kernel
theorem d_E_chip_72 : decode b_E_chip 72 = .ok (.ldc2_w 251, 3) := by decide +kernel
theorem d_E_chip_75 : decode b_E_chip 75 = .ok (.iload_n 1, 1) := by decide +kernel
theorem d_E_chip_76 : decode b_E_chip 76 = .ok (.i2l, 1) := by decide +kernel
theorem d_E_chip_77 : decode b_E_chip 77 = .ok (.lmul, 1) := by decide +kernel
theorem d_E_chip_78 : decode b_E_chip 78 = .ok (.iload_n 1, 1) := by decide +kernel
theorem d_E_chip_79 : decode b_E_chip 79 = .ok (.i2l, 1) := by decide +kernel
theorem d_E_chip_80 : decode b_E_chip 80 = .ok (.lmul, 1) := by decide +kernel
theorem d_E_chip_81 : decode b_E_chip 81 = .ok (.iload_n 2, 1) := by decide +kernel
theorem d_E_chip_82 : decode b_E_chip 82 = .ok (.i2l, 1) := by decide +kernel
theorem d_E_chip_83 : decode b_E_chip 83 = .ok (.lmul, 1) := by decide +kernel
theorem d_E_chip_84 : decode b_E_chip 84 = .ok (.iload_n 3, 1) := by decide +kernel
theorem d_E_chip_85 : decode b_E_chip 85 = .ok (.iload_n 2, 1) := by decide +kernel
theorem d_E_chip_86 : decode b_E_chip 86 = .ok (.isub, 1) := by decide +kernel
theorem d_E_chip_87 : decode b_E_chip 87 = .ok (.i2l, 1) := by decide +kernel
theorem d_E_chip_88 : decode b_E_chip 88 = .ok (.lmul, 1) := by decide +kernel
theorem d_E_chip_89 : decode b_E_chip 89 = .ok (.lstore 5, 2) := by decide +kernel
theorem d_E_chip_91 : decode b_E_chip 91 = .ok (.lload 5, 2) := by decide +kernel
theorem d_E_chip_93 : decode b_E_chip 93 = .ok (.iload_n 3, 1) := by decide +kernel
theorem d_E_chip_94 : decode b_E_chip 94 = .ok (.invokestatic 253, 3) := by decide +kernel
theorem d_E_chip_97 : decode b_E_chip 97 = .ok (.istore 7, 2) := by decide +kernel
theorem d_E_chip_99 : decode b_E_chip 99 = .ok (.iload 7, 2) := by decide +kernel
theorem d_E_chip_101 : decode b_E_chip 101 = .ok (.i2l, 1) := by decide +kernel
theorem d_E_chip_102 : decode b_E_chip 102 = .ok (.iload_n 3, 1) := by decide +kernel
theorem d_E_chip_103 : decode b_E_chip 103 = .ok (.i2l, 1) := by decide +kernel
theorem d_E_chip_104 : decode b_E_chip 104 = .ok (.lmul, 1) := by decide +kernel
theorem d_E_chip_105 : decode b_E_chip 105 = .ok (.lstore 8, 2) := by decide +kernel
theorem d_E_chip_107 : decode b_E_chip 107 = .ok (.iload 4, 2) := by decide +kernel
theorem d_E_chip_109 : decode b_E_chip 109 = .ok (.iconst 1, 1) := by decide +kernel
theorem d_E_chip_110 : decode b_E_chip 110 = .ok (.if_icmp .ne 21, 3) := by decide +kernel
theorem d_E_chip_113 : decode b_E_chip 113 = .ok (.lload 8, 2) := by decide +kernel
theorem d_E_chip_115 : decode b_E_chip 115 = .ok (.lload 8, 2) := by decide +kernel
theorem d_E_chip_117 : decode b_E_chip 117 = .ok (.lmul, 1) := by decide +kernel
theorem d_E_chip_118 : decode b_E_chip 118 = .ok (.lload 5, 2) := by decide +kernel
theorem d_E_chip_120 : decode b_E_chip 120 = .ok (.lcmp, 1) := by decide +kernel
theorem d_E_chip_121 : decode b_E_chip 121 = .ok (.ifCond .ge 10, 3) := by decide +kernel
theorem d_E_chip_124 : decode b_E_chip 124 = .ok (.iload 7, 2) := by decide +kernel
theorem d_E_chip_126 : decode b_E_chip 126 = .ok (.iconst 1, 1) := by decide +kernel
theorem d_E_chip_127 : decode b_E_chip 127 = .ok (.iadd, 1) := by decide +kernel
theorem d_E_chip_128 : decode b_E_chip 128 = .ok (.goto 5, 3) := by decide +kernel
theorem d_E_chip_131 : decode b_E_chip 131 = .ok (.iload 7, 2) := by decide +kernel
theorem d_E_chip_133 : decode b_E_chip 133 = .ok (.ireturn, 1) := by decide +kernel
theorem d_E_toolAt_0 : decode b_E_toolAt 0 = .ok (.iload_n 1, 1) := by decide +kernel
theorem d_E_toolAt_1 : decode b_E_toolAt 1 = .ok (.ifCond .lt 21, 3) := by decide +kernel
theorem d_E_toolAt_4 : decode b_E_toolAt 4 = .ok (.iload_n 1, 1) := by decide +kernel
theorem d_E_toolAt_5 : decode b_E_toolAt 5 = .ok (.aload_n 0, 1) := by decide +kernel
theorem d_E_toolAt_6 : decode b_E_toolAt 6 = .ok (.getfield 28, 3) := by decide +kernel
theorem d_E_toolAt_9 : decode b_E_toolAt 9 = .ok (.arraylength, 1) := by decide +kernel
theorem d_E_toolAt_10 : decode b_E_toolAt 10 = .ok (.if_icmp .ge 12, 3) := by decide +kernel
theorem d_E_toolAt_13 : decode b_E_toolAt 13 = .ok (.aload_n 0, 1) := by decide +kernel
theorem d_E_toolAt_14 : decode b_E_toolAt 14 = .ok (.getfield 28, 3) := by decide +kernel
theorem d_E_toolAt_17 : decode b_E_toolAt 17 = .ok (.iload_n 1, 1) := by decide +kernel
theorem d_E_toolAt_18 : decode b_E_toolAt 18 = .ok (.aaload, 1) := by decide +kernel
theorem d_E_toolAt_19 : decode b_E_toolAt 19 = .ok (.goto 4, 3) := by decide +kernel
theorem d_E_toolAt_22 : decode b_E_toolAt 22 = .ok (.aconst_null, 1) := by decide +kernel
theorem d_E_toolAt_23 : decode b_E_toolAt 23 = .ok (.astore_n 2, 1) := by decide +kernel
theorem d_E_toolAt_24 : decode b_E_toolAt 24 = .ok (.aload_n 2, 1) := by decide +kernel
theorem d_E_toolAt_25 : decode b_E_toolAt 25 = .ok (.ifnonnull 14, 3) := by decide +kernel
theorem d_E_toolAt_28 : decode b_E_toolAt 28 = .ok (.new 131, 3) := by decide +kernel
theorem d_E_toolAt_31 : decode b_E_toolAt 31 = .ok (.dup, 1) := by decide +kernel
theorem d_E_toolAt_32 : decode b_E_toolAt 32 = .ok (.ldc_w 257, 3) := by decide +kernel
theorem d_E_toolAt_35 : decode b_E_toolAt 35 = .ok (.invokespecial 135, 3) := by decide +kernel
theorem d_E_toolAt_38 : decode b_E_toolAt 38 = .ok (.athrow, 1) := by decide +kernel
theorem d_E_toolAt_39 : decode b_E_toolAt 39 = .ok (.aload_n 2, 1) := by decide +kernel
theorem d_E_toolAt_40 : decode b_E_toolAt 40 = .ok (.areturn, 1) := by decide +kernel
theorem d_E_sortAt_0 : decode b_E_sortAt 0 = .ok (.iload_n 1, 1) := by decide +kernel
theorem d_E_sortAt_1 : decode b_E_sortAt 1 = .ok (.ifCond .lt 21, 3) := by decide +kernel
theorem d_E_sortAt_4 : decode b_E_sortAt 4 = .ok (.iload_n 1, 1) := by decide +kernel
theorem d_E_sortAt_5 : decode b_E_sortAt 5 = .ok (.aload_n 0, 1) := by decide +kernel
theorem d_E_sortAt_6 : decode b_E_sortAt 6 = .ok (.getfield 19, 3) := by decide +kernel
theorem d_E_sortAt_9 : decode b_E_sortAt 9 = .ok (.arraylength, 1) := by decide +kernel
theorem d_E_sortAt_10 : decode b_E_sortAt 10 = .ok (.if_icmp .ge 12, 3) := by decide +kernel
theorem d_E_sortAt_13 : decode b_E_sortAt 13 = .ok (.aload_n 0, 1) := by decide +kernel
theorem d_E_sortAt_14 : decode b_E_sortAt 14 = .ok (.getfield 19, 3) := by decide +kernel
theorem d_E_sortAt_17 : decode b_E_sortAt 17 = .ok (.iload_n 1, 1) := by decide +kernel
theorem d_E_sortAt_18 : decode b_E_sortAt 18 = .ok (.aaload, 1) := by decide +kernel
theorem d_E_sortAt_19 : decode b_E_sortAt 19 = .ok (.goto 4, 3) := by decide +kernel
theorem d_E_sortAt_22 : decode b_E_sortAt 22 = .ok (.aconst_null, 1) := by decide +kernel
theorem d_E_sortAt_23 : decode b_E_sortAt 23 = .ok (.astore_n 2, 1) := by decide +kernel
theorem d_E_sortAt_24 : decode b_E_sortAt 24 = .ok (.aload_n 2, 1) := by decide +kernel
theorem d_E_sortAt_25 : decode b_E_sortAt 25 = .ok (.ifnonnull 14, 3) := by decide +kernel
theorem d_E_sortAt_28 : decode b_E_sortAt 28 = .ok (.new 131, 3) := by decide +kernel
theorem d_E_sortAt_31 : decode b_E_sortAt 31 = .ok (.dup, 1) := by decide +kernel
theorem d_E_sortAt_32 : decode b_E_sortAt 32 = .ok (.ldc_w 259, 3) := by decide +kernel
theorem d_E_sortAt_35 : decode b_E_sortAt 35 = .ok (.invokespecial 135, 3) := by decide +kernel
theorem d_E_sortAt_38 : decode b_E_sortAt 38 = .ok (.athrow, 1) := by decide +kernel
theorem d_E_sortAt_39 : decode b_E_sortAt 39 = .ok (.aload_n 2, 1) := by decide +kernel
theorem d_E_sortAt_40 : decode b_E_sortAt 40 = .ok (.areturn, 1) := by decide +kernel
theorem d_E_rateIndex_0 : decode b_E_rateIndex 0 = .ok (.iload_n 0, 1) := by decide +kernel
theorem d_E_rateIndex_1 : decode b_E_rateIndex 1 = .ok (.ifCond .lt 17, 3) := by decide +kernel
theorem d_E_rateIndex_4 : decode b_E_rateIndex 4 = .ok (.iload_n 0, 1) := by decide +kernel
theorem d_E_rateIndex_5 : decode b_E_rateIndex 5 = .ok (.iconst 4, 1) := by decide +kernel
theorem d_E_rateIndex_6 : decode b_E_rateIndex 6 = .ok (.if_icmp .ge 12, 3) := by decide +kernel
theorem d_E_rateIndex_9 : decode b_E_rateIndex 9 = .ok (.iload_n 1, 1) := by decide +kernel
theorem d_E_rateIndex_10 : decode b_E_rateIndex 10 = .ok (.ifCond .lt 8, 3) := by decide +kernel
theorem d_E_rateIndex_13 : decode b_E_rateIndex 13 = .ok (.iload_n 1, 1) := by decide +kernel
theorem d_E_rateIndex_14 : decode b_E_rateIndex 14 = .ok (.iconst 4, 1) := by decide +kernel
theorem d_E_rateIndex_15 : decode b_E_rateIndex 15 = .ok (.if_icmp .lt 14, 3) := by decide +kernel
theorem d_E_rateIndex_18 : decode b_E_rateIndex 18 = .ok (.new 131, 3) := by decide +kernel
theorem d_E_rateIndex_21 : decode b_E_rateIndex 21 = .ok (.dup, 1) := by decide +kernel
theorem d_E_rateIndex_22 : decode b_E_rateIndex 22 = .ok (.ldc_w 261, 3) := by decide +kernel
theorem d_E_rateIndex_25 : decode b_E_rateIndex 25 = .ok (.invokespecial 135, 3) := by decide +kernel
theorem d_E_rateIndex_28 : decode b_E_rateIndex 28 = .ok (.athrow, 1) := by decide +kernel
theorem d_E_rateIndex_29 : decode b_E_rateIndex 29 = .ok (.iload_n 0, 1) := by decide +kernel
theorem d_E_rateIndex_30 : decode b_E_rateIndex 30 = .ok (.iconst 4, 1) := by decide +kernel
theorem d_E_rateIndex_31 : decode b_E_rateIndex 31 = .ok (.imul, 1) := by decide +kernel
theorem d_E_rateIndex_32 : decode b_E_rateIndex 32 = .ok (.iload_n 1, 1) := by decide +kernel
theorem d_E_rateIndex_33 : decode b_E_rateIndex 33 = .ok (.iadd, 1) := by decide +kernel
theorem d_E_rateIndex_34 : decode b_E_rateIndex 34 = .ok (.ireturn, 1) := by decide +kernel
theorem d_E_nextSpare_0 : decode b_E_nextSpare 0 = .ok (.iconst (-1), 1) := by decide +kernel
theorem d_E_nextSpare_1 : decode b_E_nextSpare 1 = .ok (.istore_n 2, 1) := by decide +kernel
theorem d_E_nextSpare_2 : decode b_E_nextSpare 2 = .ok (.ldc_w 263, 3) := by decide +kernel
theorem d_E_nextSpare_5 : decode b_E_nextSpare 5 = .ok (.istore_n 3, 1) := by decide +kernel
theorem d_E_nextSpare_6 : decode b_E_nextSpare 6 = .ok (.iconst 0, 1) := by decide +kernel
theorem d_E_nextSpare_7 : decode b_E_nextSpare 7 = .ok (.istore 4, 2) := by decide +kernel
theorem d_E_nextSpare_9 : decode b_E_nextSpare 9 = .ok (.iload 4, 2) := by decide +kernel
theorem d_E_nextSpare_11 : decode b_E_nextSpare 11 = .ok (.aload_n 0, 1) := by decide +kernel
theorem d_E_nextSpare_12 : decode b_E_nextSpare 12 = .ok (.getfield 28, 3) := by decide +kernel
theorem d_E_nextSpare_15 : decode b_E_nextSpare 15 = .ok (.arraylength, 1) := by decide +kernel
theorem d_E_nextSpare_16 : decode b_E_nextSpare 16 = .ok (.if_icmp .ge 50, 3) := by decide +kernel
theorem d_E_nextSpare_19 : decode b_E_nextSpare 19 = .ok (.aload_n 0, 1) := by decide +kernel
theorem d_E_nextSpare_20 : decode b_E_nextSpare 20 = .ok (.getfield 28, 3) := by decide +kernel
theorem d_E_nextSpare_23 : decode b_E_nextSpare 23 = .ok (.iload 4, 2) := by decide +kernel
theorem d_E_nextSpare_25 : decode b_E_nextSpare 25 = .ok (.aaload, 1) := by decide +kernel
theorem d_E_nextSpare_26 : decode b_E_nextSpare 26 = .ok (.astore 5, 2) := by decide +kernel
theorem d_E_nextSpare_28 : decode b_E_nextSpare 28 = .ok (.aload 5, 2) := by decide +kernel
theorem d_E_nextSpare_30 : decode b_E_nextSpare 30 = .ok (.ifnull 30, 3) := by decide +kernel
theorem d_E_nextSpare_33 : decode b_E_nextSpare 33 = .ok (.aload 5, 2) := by decide +kernel
theorem d_E_nextSpare_35 : decode b_E_nextSpare 35 = .ok (.iload_n 1, 1) := by decide +kernel
theorem d_E_nextSpare_36 : decode b_E_nextSpare 36 = .ok (.invokevirtual 136, 3) := by decide +kernel
theorem d_E_nextSpare_39 : decode b_E_nextSpare 39 = .ok (.ifCond .eq 21, 3) := by decide +kernel
theorem d_E_nextSpare_42 : decode b_E_nextSpare 42 = .ok (.aload 5, 2) := by decide +kernel
theorem d_E_nextSpare_44 : decode b_E_nextSpare 44 = .ok (.getfield 111, 3) := by decide +kernel
theorem d_E_nextSpare_47 : decode b_E_nextSpare 47 = .ok (.iload_n 3, 1) := by decide +kernel
theorem d_E_nextSpare_48 : decode b_E_nextSpare 48 = .ok (.if_icmp .ge 12, 3) := by decide +kernel
theorem d_E_nextSpare_51 : decode b_E_nextSpare 51 = .ok (.iload 4, 2) := by decide +kernel
theorem d_E_nextSpare_53 : decode b_E_nextSpare 53 = .ok (.istore_n 2, 1) := by decide +kernel
theorem d_E_nextSpare_54 : decode b_E_nextSpare 54 = .ok (.aload 5, 2) := by decide +kernel
theorem d_E_nextSpare_56 : decode b_E_nextSpare 56 = .ok (.getfield 111, 3) := by decide +kernel
theorem d_E_nextSpare_59 : decode b_E_nextSpare 59 = .ok (.istore_n 3, 1) := by decide +kernel
theorem d_E_nextSpare_60 : decode b_E_nextSpare 60 = .ok (.iinc 4 1, 3) := by decide +kernel
theorem d_E_nextSpare_63 : decode b_E_nextSpare 63 = .ok (.goto (-54), 3) := by decide +kernel
theorem d_E_nextSpare_66 : decode b_E_nextSpare 66 = .ok (.iload_n 2, 1) := by decide +kernel
theorem d_E_nextSpare_67 : decode b_E_nextSpare 67 = .ok (.ireturn, 1) := by decide +kernel
theorem d_E_mixed_0 : decode b_E_mixed 0 = .ok (.aload_n 0, 1) := by decide +kernel
theorem d_E_mixed_1 : decode b_E_mixed 1 = .ok (.getfield 7, 3) := by decide +kernel
theorem d_E_mixed_4 : decode b_E_mixed 4 = .ok (.i2l, 1) := by decide +kernel
theorem d_E_mixed_5 : decode b_E_mixed 5 = .ok (.ldc2_w 251, 3) := by decide +kernel
theorem d_E_mixed_8 : decode b_E_mixed 8 = .ok (.iload_n 2, 1) := by decide +kernel
theorem d_E_mixed_9 : decode b_E_mixed 9 = .ok (.i2l, 1) := by decide +kernel
theorem d_E_mixed_10 : decode b_E_mixed 10 = .ok (.lmul, 1) := by decide +kernel
theorem d_E_mixed_11 : decode b_E_mixed 11 = .ok (.iload_n 1, 1) := by decide +kernel
theorem d_E_mixed_12 : decode b_E_mixed 12 = .ok (.i2l, 1) := by decide +kernel
theorem d_E_mixed_13 : decode b_E_mixed 13 = .ok (.ladd, 1) := by decide +kernel
theorem d_E_mixed_14 : decode b_E_mixed 14 = .ok (.lconst 1, 1) := by decide +kernel
theorem d_E_mixed_15 : decode b_E_mixed 15 = .ok (.ladd, 1) := by decide +kernel
theorem d_E_mixed_16 : decode b_E_mixed 16 = .ok (.ldc2_w 264, 3) := by decide +kernel
theorem d_E_mixed_19 : decode b_E_mixed 19 = .ok (.lmul, 1) := by decide +kernel
theorem d_E_mixed_20 : decode b_E_mixed 20 = .ok (.ladd, 1) := by decide +kernel
theorem d_E_mixed_21 : decode b_E_mixed 21 = .ok (.lstore_n 3, 1) := by decide +kernel
theorem d_E_mixed_22 : decode b_E_mixed 22 = .ok (.lload_n 3, 1) := by decide +kernel
theorem d_E_mixed_23 : decode b_E_mixed 23 = .ok (.lload_n 3, 1) := by decide +kernel
theorem d_E_mixed_24 : decode b_E_mixed 24 = .ok (.bipush 30, 2) := by decide +kernel
theorem d_E_mixed_26 : decode b_E_mixed 26 = .ok (.lushr, 1) := by decide +kernel
theorem d_E_mixed_27 : decode b_E_mixed 27 = .ok (.lxor, 1) := by decide +kernel
theorem d_E_mixed_28 : decode b_E_mixed 28 = .ok (.ldc2_w 266, 3) := by decide +kernel
theorem d_E_mixed_31 : decode b_E_mixed 31 = .ok (.lmul, 1) := by decide +kernel
theorem d_E_mixed_32 : decode b_E_mixed 32 = .ok (.lstore_n 3, 1) := by decide +kernel
theorem d_E_mixed_33 : decode b_E_mixed 33 = .ok (.lload_n 3, 1) := by decide +kernel
theorem d_E_mixed_34 : decode b_E_mixed 34 = .ok (.lload_n 3, 1) := by decide +kernel
theorem d_E_mixed_35 : decode b_E_mixed 35 = .ok (.bipush 27, 2) := by decide +kernel
theorem d_E_mixed_37 : decode b_E_mixed 37 = .ok (.lushr, 1) := by decide +kernel
theorem d_E_mixed_38 : decode b_E_mixed 38 = .ok (.lxor, 1) := by decide +kernel
theorem d_E_mixed_39 : decode b_E_mixed 39 = .ok (.ldc2_w 268, 3) := by decide +kernel
theorem d_E_mixed_42 : decode b_E_mixed 42 = .ok (.lmul, 1) := by decide +kernel
theorem d_E_mixed_43 : decode b_E_mixed 43 = .ok (.lstore_n 3, 1) := by decide +kernel
theorem d_E_mixed_44 : decode b_E_mixed 44 = .ok (.lload_n 3, 1) := by decide +kernel
theorem d_E_mixed_45 : decode b_E_mixed 45 = .ok (.lload_n 3, 1) := by decide +kernel
theorem d_E_mixed_46 : decode b_E_mixed 46 = .ok (.bipush 31, 2) := by decide +kernel
theorem d_E_mixed_48 : decode b_E_mixed 48 = .ok (.lushr, 1) := by decide +kernel
theorem d_E_mixed_49 : decode b_E_mixed 49 = .ok (.lxor, 1) := by decide +kernel
theorem d_E_mixed_50 : decode b_E_mixed 50 = .ok (.lreturn, 1) := by decide +kernel
theorem d_E_isAnyDue_0 : decode b_E_isAnyDue 0 = .ok (.iconst 0, 1) := by decide +kernel
theorem d_E_isAnyDue_1 : decode b_E_isAnyDue 1 = .ok (.istore_n 3, 1) := by decide +kernel
theorem d_E_isAnyDue_2 : decode b_E_isAnyDue 2 = .ok (.iload_n 3, 1) := by decide +kernel
theorem d_E_isAnyDue_3 : decode b_E_isAnyDue 3 = .ok (.aload_n 0, 1) := by decide +kernel
theorem d_E_isAnyDue_4 : decode b_E_isAnyDue 4 = .ok (.getfield 34, 3) := by decide +kernel
theorem d_E_isAnyDue_7 : decode b_E_isAnyDue 7 = .ok (.arraylength, 1) := by decide +kernel
theorem d_E_isAnyDue_8 : decode b_E_isAnyDue 8 = .ok (.if_icmp .ge 34, 3) := by decide +kernel
theorem d_E_isAnyDue_11 : decode b_E_isAnyDue 11 = .ok (.aload_n 0, 1) := by decide +kernel
theorem d_E_isAnyDue_12 : decode b_E_isAnyDue 12 = .ok (.getfield 34, 3) := by decide +kernel
theorem d_E_isAnyDue_15 : decode b_E_isAnyDue 15 = .ok (.iload_n 3, 1) := by decide +kernel
theorem d_E_isAnyDue_16 : decode b_E_isAnyDue 16 = .ok (.aaload, 1) := by decide +kernel
theorem d_E_isAnyDue_17 : decode b_E_isAnyDue 17 = .ok (.astore 4, 2) := by decide +kernel
theorem d_E_isAnyDue_19 : decode b_E_isAnyDue 19 = .ok (.aload 4, 2) := by decide +kernel
theorem d_E_isAnyDue_21 : decode b_E_isAnyDue 21 = .ok (.ifnull 15, 3) := by decide +kernel
theorem d_E_isAnyDue_24 : decode b_E_isAnyDue 24 = .ok (.aload 4, 2) := by decide +kernel
theorem d_E_isAnyDue_26 : decode b_E_isAnyDue 26 = .ok (.iload_n 1, 1) := by decide +kernel
theorem d_E_isAnyDue_27 : decode b_E_isAnyDue 27 = .ok (.iload_n 2, 1) := by decide +kernel
theorem d_E_isAnyDue_28 : decode b_E_isAnyDue 28 = .ok (.invokevirtual 270, 3) := by decide +kernel
theorem d_E_isAnyDue_31 : decode b_E_isAnyDue 31 = .ok (.ifCond .eq 5, 3) := by decide +kernel
theorem d_E_isAnyDue_34 : decode b_E_isAnyDue 34 = .ok (.iconst 1, 1) := by decide +kernel
theorem d_E_isAnyDue_35 : decode b_E_isAnyDue 35 = .ok (.ireturn, 1) := by decide +kernel
theorem d_E_isAnyDue_36 : decode b_E_isAnyDue 36 = .ok (.iinc 3 1, 3) := by decide +kernel
theorem d_E_isAnyDue_39 : decode b_E_isAnyDue 39 = .ok (.goto (-37), 3) := by decide +kernel
theorem d_E_isAnyDue_42 : decode b_E_isAnyDue 42 = .ok (.iconst 0, 1) := by decide +kernel
theorem d_E_isAnyDue_43 : decode b_E_isAnyDue 43 = .ok (.ireturn, 1) := by decide +kernel
theorem d_E_closeDue_0 : decode b_E_closeDue 0 = .ok (.iconst 0, 1) := by decide +kernel
theorem d_E_closeDue_1 : decode b_E_closeDue 1 = .ok (.istore_n 3, 1) := by decide +kernel
theorem d_E_closeDue_2 : decode b_E_closeDue 2 = .ok (.iconst 0, 1) := by decide +kernel
theorem d_E_closeDue_3 : decode b_E_closeDue 3 = .ok (.istore 4, 2) := by decide +kernel
theorem d_E_closeDue_5 : decode b_E_closeDue 5 = .ok (.iload 4, 2) := by decide +kernel
theorem d_E_closeDue_7 : decode b_E_closeDue 7 = .ok (.aload_n 0, 1) := by decide +kernel
theorem d_E_closeDue_8 : decode b_E_closeDue 8 = .ok (.getfield 34, 3) := by decide +kernel
theorem d_E_closeDue_11 : decode b_E_closeDue 11 = .ok (.arraylength, 1) := by decide +kernel
theorem d_E_closeDue_12 : decode b_E_closeDue 12 = .ok (.if_icmp .ge 42, 3) := by decide +kernel
theorem d_E_closeDue_15 : decode b_E_closeDue 15 = .ok (.aload_n 0, 1) := by decide +kernel
theorem d_E_closeDue_16 : decode b_E_closeDue 16 = .ok (.getfield 34, 3) := by decide +kernel
theorem d_E_closeDue_19 : decode b_E_closeDue 19 = .ok (.iload 4, 2) := by decide +kernel
theorem d_E_closeDue_21 : decode b_E_closeDue 21 = .ok (.aaload, 1) := by decide +kernel
theorem d_E_closeDue_22 : decode b_E_closeDue 22 = .ok (.astore 5, 2) := by decide +kernel
theorem d_E_closeDue_24 : decode b_E_closeDue 24 = .ok (.aload 5, 2) := by decide +kernel
theorem d_E_closeDue_26 : decode b_E_closeDue 26 = .ok (.ifnull 22, 3) := by decide +kernel
theorem d_E_closeDue_29 : decode b_E_closeDue 29 = .ok (.aload 5, 2) := by decide +kernel
theorem d_E_closeDue_31 : decode b_E_closeDue 31 = .ok (.iload_n 1, 1) := by decide +kernel
theorem d_E_closeDue_32 : decode b_E_closeDue 32 = .ok (.iload_n 2, 1) := by decide +kernel
theorem d_E_closeDue_33 : decode b_E_closeDue 33 = .ok (.invokevirtual 270, 3) := by decide +kernel
theorem d_E_closeDue_36 : decode b_E_closeDue 36 = .ok (.ifCond .eq 12, 3) := by decide +kernel
theorem d_E_closeDue_39 : decode b_E_closeDue 39 = .ok (.aload 5, 2) := by decide +kernel
theorem d_E_closeDue_41 : decode b_E_closeDue 41 = .ok (.iconst 1, 1) := by decide +kernel
theorem d_E_closeDue_42 : decode b_E_closeDue 42 = .ok (.putfield 242, 3) := by decide +kernel
theorem d_E_closeDue_45 : decode b_E_closeDue 45 = .ok (.iinc 3 1, 3) := by decide +kernel
theorem d_E_closeDue_48 : decode b_E_closeDue 48 = .ok (.iinc 4 1, 3) := by decide +kernel
theorem d_E_closeDue_51 : decode b_E_closeDue 51 = .ok (.goto (-46), 3) := by decide +kernel
theorem d_E_closeDue_54 : decode b_E_closeDue 54 = .ok (.iload_n 3, 1) := by decide +kernel
theorem d_E_closeDue_55 : decode b_E_closeDue 55 = .ok (.ireturn, 1) := by decide +kernel
theorem d_E_wholeThickness_0 : decode b_E_wholeThickness 0 = .ok (.iconst 0, 1) := by decide +kernel
theorem d_E_wholeThickness_1 : decode b_E_wholeThickness 1 = .ok (.istore_n 3, 1) := by decide +kernel
theorem d_E_wholeThickness_2 : decode b_E_wholeThickness 2 = .ok (.ldc_w 273, 3) := by decide +kernel
theorem d_E_wholeThickness_5 : decode b_E_wholeThickness 5 = .ok (.istore 4, 2) := by decide +kernel
theorem d_E_wholeThickness_7 : decode b_E_wholeThickness 7 = .ok (.iload 4, 2) := by decide +kernel
theorem d_E_wholeThickness_9 : decode b_E_wholeThickness 9 = .ok (.ifCond .le 37, 3) := by decide +kernel
theorem d_E_wholeThickness_12 : decode b_E_wholeThickness 12 = .ok (.iload_n 3, 1) := by decide +kernel
theorem d_E_wholeThickness_13 : decode b_E_wholeThickness 13 = .ok (.iload 4, 2) := by decide +kernel
theorem d_E_wholeThickness_15 : decode b_E_wholeThickness 15 = .ok (.iadd, 1) := by decide +kernel
theorem d_E_wholeThickness_16 : decode b_E_wholeThickness 16 = .ok (.i2l, 1) := by decide +kernel
theorem d_E_wholeThickness_17 : decode b_E_wholeThickness 17 = .ok (.iload_n 2, 1) := by decide +kernel
theorem d_E_wholeThickness_18 : decode b_E_wholeThickness 18 = .ok (.i2l, 1) := by decide +kernel
theorem d_E_wholeThickness_19 : decode b_E_wholeThickness 19 = .ok (.lmul, 1) := by decide +kernel
theorem d_E_wholeThickness_20 : decode b_E_wholeThickness 20 = .ok (.lstore 5, 2) := by decide +kernel
theorem d_E_wholeThickness_22 : decode b_E_wholeThickness 22 = .ok (.lload 5, 2) := by decide +kernel
theorem d_E_wholeThickness_24 : decode b_E_wholeThickness 24 = .ok (.lload 5, 2) := by decide +kernel
theorem d_E_wholeThickness_26 : decode b_E_wholeThickness 26 = .ok (.lmul, 1) := by decide +kernel
theorem d_E_wholeThickness_27 : decode b_E_wholeThickness 27 = .ok (.lload_n 0, 1) := by decide +kernel
theorem d_E_wholeThickness_28 : decode b_E_wholeThickness 28 = .ok (.lcmp, 1) := by decide +kernel
theorem d_E_wholeThickness_29 : decode b_E_wholeThickness 29 = .ok (.ifCond .gt 8, 3) := by decide +kernel
theorem d_E_wholeThickness_32 : decode b_E_wholeThickness 32 = .ok (.iload_n 3, 1) := by decide +kernel
theorem d_E_wholeThickness_33 : decode b_E_wholeThickness 33 = .ok (.iload 4, 2) := by decide +kernel
theorem d_E_wholeThickness_35 : decode b_E_wholeThickness 35 = .ok (.iadd, 1) := by decide +kernel
theorem d_E_wholeThickness_36 : decode b_E_wholeThickness 36 = .ok (.istore_n 3, 1) := by decide +kernel
theorem d_E_wholeThickness_37 : decode b_E_wholeThickness 37 = .ok (.iload 4, 2) := by decide +kernel
theorem d_E_wholeThickness_39 : decode b_E_wholeThickness 39 = .ok (.iconst 2, 1) := by decide +kernel
theorem d_E_wholeThickness_40 : decode b_E_wholeThickness 40 = .ok (.idiv, 1) := by decide +kernel
theorem d_E_wholeThickness_41 : decode b_E_wholeThickness 41 = .ok (.istore 4, 2) := by decide +kernel
theorem d_E_wholeThickness_43 : decode b_E_wholeThickness 43 = .ok (.goto (-36), 3) := by decide +kernel
theorem d_E_wholeThickness_46 : decode b_E_wholeThickness 46 = .ok (.iload_n 3, 1) := by decide +kernel
theorem d_E_wholeThickness_47 : decode b_E_wholeThickness 47 = .ok (.ireturn, 1) := by decide +kernel
theorem d_Or_init_0 : decode b_Or_init 0 = .ok (.aload_n 0, 1) := by decide +kernel
theorem d_Or_init_1 : decode b_Or_init 1 = .ok (.invokespecial 1, 3) := by decide +kernel
theorem d_Or_init_4 : decode b_Or_init 4 = .ok (.aload_n 0, 1) := by decide +kernel
theorem d_Or_init_5 : decode b_Or_init 5 = .ok (.iload_n 1, 1) := by decide +kernel
theorem d_Or_init_6 : decode b_Or_init 6 = .ok (.putfield 7, 3) := by decide +kernel
theorem d_Or_init_9 : decode b_Or_init 9 = .ok (.aload_n 0, 1) := by decide +kernel
theorem d_Or_init_10 : decode b_Or_init 10 = .ok (.iload_n 2, 1) := by decide +kernel
theorem d_Or_init_11 : decode b_Or_init 11 = .ok (.putfield 13, 3) := by decide +kernel
theorem d_Or_init_14 : decode b_Or_init 14 = .ok (.return_, 1) := by decide +kernel
theorem d_Or_isDue_0 : decode b_Or_isDue 0 = .ok (.aload_n 0, 1) := by decide +kernel
theorem d_Or_isDue_1 : decode b_Or_isDue 1 = .ok (.getfield 16, 3) := by decide +kernel
theorem d_Or_isDue_4 : decode b_Or_isDue 4 = .ok (.ifCond .ne 23, 3) := by decide +kernel
theorem d_Or_isDue_7 : decode b_Or_isDue 7 = .ok (.aload_n 0, 1) := by decide +kernel
theorem d_Or_isDue_8 : decode b_Or_isDue 8 = .ok (.getfield 7, 3) := by decide +kernel
theorem d_Or_isDue_11 : decode b_Or_isDue 11 = .ok (.iload_n 1, 1) := by decide +kernel
theorem d_Or_isDue_12 : decode b_Or_isDue 12 = .ok (.if_icmp .ne 15, 3) := by decide +kernel
theorem d_Or_isDue_15 : decode b_Or_isDue 15 = .ok (.aload_n 0, 1) := by decide +kernel
theorem d_Or_isDue_16 : decode b_Or_isDue 16 = .ok (.getfield 13, 3) := by decide +kernel
theorem d_Or_isDue_19 : decode b_Or_isDue 19 = .ok (.iload_n 2, 1) := by decide +kernel
theorem d_Or_isDue_20 : decode b_Or_isDue 20 = .ok (.if_icmp .ge 7, 3) := by decide +kernel
theorem d_Or_isDue_23 : decode b_Or_isDue 23 = .ok (.iconst 1, 1) := by decide +kernel
theorem d_Or_isDue_24 : decode b_Or_isDue 24 = .ok (.goto 4, 3) := by decide +kernel
theorem d_Or_isDue_27 : decode b_Or_isDue 27 = .ok (.iconst 0, 1) := by decide +kernel
theorem d_Or_isDue_28 : decode b_Or_isDue 28 = .ok (.ireturn, 1) := by decide +kernel
theorem d_Rd_init_0 : decode b_Rd_init 0 = .ok (.aload_n 0, 1) := by decide +kernel
theorem d_Rd_init_1 : decode b_Rd_init 1 = .ok (.invokespecial 3, 3) := by decide +kernel
theorem d_Rd_init_4 : decode b_Rd_init 4 = .ok (.aload_n 0, 1) := by decide +kernel
theorem d_Rd_init_5 : decode b_Rd_init 5 = .ok (.bipush 24, 2) := by decide +kernel
theorem d_Rd_init_7 : decode b_Rd_init 7 = .ok (.newarray .int, 2) := by decide +kernel
theorem d_Rd_init_9 : decode b_Rd_init 9 = .ok (.putfield 9, 3) := by decide +kernel
theorem d_Rd_init_12 : decode b_Rd_init 12 = .ok (.aload_n 0, 1) := by decide +kernel
theorem d_Rd_init_13 : decode b_Rd_init 13 = .ok (.iconst (-1), 1) := by decide +kernel
theorem d_Rd_init_14 : decode b_Rd_init 14 = .ok (.putfield 15, 3) := by decide +kernel
theorem d_Rd_init_17 : decode b_Rd_init 17 = .ok (.return_, 1) := by decide +kernel
theorem d_Rd_add_0 : decode b_Rd_add 0 = .ok (.aload_n 0, 1) := by decide +kernel
theorem d_Rd_add_1 : decode b_Rd_add 1 = .ok (.getfield 9, 3) := by decide +kernel
theorem d_Rd_add_4 : decode b_Rd_add 4 = .ok (.iconst 0, 1) := by decide +kernel
theorem d_Rd_add_5 : decode b_Rd_add 5 = .ok (.aload_n 0, 1) := by decide +kernel
theorem d_Rd_add_6 : decode b_Rd_add 6 = .ok (.getfield 9, 3) := by decide +kernel
theorem d_Rd_add_9 : decode b_Rd_add 9 = .ok (.iconst 1, 1) := by decide +kernel
theorem d_Rd_add_10 : decode b_Rd_add 10 = .ok (.bipush 23, 2) := by decide +kernel
theorem d_Rd_add_12 : decode b_Rd_add 12 = .ok (.invokestatic 19, 3) := by decide +kernel
theorem d_Rd_add_15 : decode b_Rd_add 15 = .ok (.aload_n 0, 1) := by decide +kernel
theorem d_Rd_add_16 : decode b_Rd_add 16 = .ok (.getfield 9, 3) := by decide +kernel
theorem d_Rd_add_19 : decode b_Rd_add 19 = .ok (.iconst 0, 1) := by decide +kernel
theorem d_Rd_add_20 : decode b_Rd_add 20 = .ok (.iload_n 2, 1) := by decide +kernel
theorem d_Rd_add_21 : decode b_Rd_add 21 = .ok (.iastore, 1) := by decide +kernel
theorem d_Rd_add_22 : decode b_Rd_add 22 = .ok (.aload_n 0, 1) := by decide +kernel
theorem d_Rd_add_23 : decode b_Rd_add 23 = .ok (.aload_n 0, 1) := by decide +kernel
theorem d_Rd_add_24 : decode b_Rd_add 24 = .ok (.getfield 25, 3) := by decide +kernel
theorem d_Rd_add_27 : decode b_Rd_add 27 = .ok (.iconst 1, 1) := by decide +kernel
theorem d_Rd_add_28 : decode b_Rd_add 28 = .ok (.iadd, 1) := by decide +kernel
theorem d_Rd_add_29 : decode b_Rd_add 29 = .ok (.bipush 24, 2) := by decide +kernel
theorem d_Rd_add_31 : decode b_Rd_add 31 = .ok (.invokestatic 28, 3) := by decide +kernel
theorem d_Rd_add_34 : decode b_Rd_add 34 = .ok (.putfield 25, 3) := by decide +kernel
theorem d_Rd_add_37 : decode b_Rd_add 37 = .ok (.aload_n 0, 1) := by decide +kernel
theorem d_Rd_add_38 : decode b_Rd_add 38 = .ok (.iload_n 1, 1) := by decide +kernel
theorem d_Rd_add_39 : decode b_Rd_add 39 = .ok (.putfield 15, 3) := by decide +kernel
theorem d_Rd_add_42 : decode b_Rd_add 42 = .ok (.return_, 1) := by decide +kernel
theorem d_Rd_isAbove_0 : decode b_Rd_isAbove 0 = .ok (.aload_n 0, 1) := by decide +kernel
theorem d_Rd_isAbove_1 : decode b_Rd_isAbove 1 = .ok (.getfield 9, 3) := by decide +kernel
theorem d_Rd_isAbove_4 : decode b_Rd_isAbove 4 = .ok (.iconst 0, 1) := by decide +kernel
theorem d_Rd_isAbove_5 : decode b_Rd_isAbove 5 = .ok (.iaload, 1) := by decide +kernel
theorem d_Rd_isAbove_6 : decode b_Rd_isAbove 6 = .ok (.iload_n 1, 1) := by decide +kernel
theorem d_Rd_isAbove_7 : decode b_Rd_isAbove 7 = .ok (.if_icmp .le 7, 3) := by decide +kernel
theorem d_Rd_isAbove_10 : decode b_Rd_isAbove 10 = .ok (.iconst 1, 1) := by decide +kernel
theorem d_Rd_isAbove_11 : decode b_Rd_isAbove 11 = .ok (.goto 4, 3) := by decide +kernel
theorem d_Rd_isAbove_14 : decode b_Rd_isAbove 14 = .ok (.iconst 0, 1) := by decide +kernel
theorem d_Rd_isAbove_15 : decode b_Rd_isAbove 15 = .ok (.ireturn, 1) := by decide +kernel
theorem d_Rd_isRising_0 : decode b_Rd_isRising 0 = .ok (.aload_n 0, 1) := by decide +kernel
theorem d_Rd_isRising_1 : decode b_Rd_isRising 1 = .ok (.getfield 25, 3) := by decide +kernel
theorem d_Rd_isRising_4 : decode b_Rd_isRising 4 = .ok (.iload_n 1, 1) := by decide +kernel
theorem d_Rd_isRising_5 : decode b_Rd_isRising 5 = .ok (.if_icmp .ge 5, 3) := by decide +kernel
theorem d_Rd_isRising_8 : decode b_Rd_isRising 8 = .ok (.iconst 0, 1) := by decide +kernel
theorem d_Rd_isRising_9 : decode b_Rd_isRising 9 = .ok (.ireturn, 1) := by decide +kernel
theorem d_Rd_isRising_10 : decode b_Rd_isRising 10 = .ok (.iconst 0, 1) := by decide +kernel
theorem d_Rd_isRising_11 : decode b_Rd_isRising 11 = .ok (.istore_n 2, 1) := by decide +kernel
theorem d_Rd_isRising_12 : decode b_Rd_isRising 12 = .ok (.iload_n 2, 1) := by decide +kernel
theorem d_Rd_isRising_13 : decode b_Rd_isRising 13 = .ok (.iconst 1, 1) := by decide +kernel
theorem d_Rd_isRising_14 : decode b_Rd_isRising 14 = .ok (.iadd, 1) := by decide +kernel
theorem d_Rd_isRising_15 : decode b_Rd_isRising 15 = .ok (.iload_n 1, 1) := by decide +kernel
theorem d_Rd_isRising_16 : decode b_Rd_isRising 16 = .ok (.if_icmp .ge 28, 3) := by decide +kernel
theorem d_Rd_isRising_19 : decode b_Rd_isRising 19 = .ok (.aload_n 0, 1) := by decide +kernel
theorem d_Rd_isRising_20 : decode b_Rd_isRising 20 = .ok (.getfield 9, 3) := by decide +kernel
theorem d_Rd_isRising_23 : decode b_Rd_isRising 23 = .ok (.iload_n 2, 1) := by decide +kernel
theorem d_Rd_isRising_24 : decode b_Rd_isRising 24 = .ok (.iaload, 1) := by decide +kernel
theorem d_Rd_isRising_25 : decode b_Rd_isRising 25 = .ok (.aload_n 0, 1) := by decide +kernel
theorem d_Rd_isRising_26 : decode b_Rd_isRising 26 = .ok (.getfield 9, 3) := by decide +kernel
theorem d_Rd_isRising_29 : decode b_Rd_isRising 29 = .ok (.iload_n 2, 1) := by decide +kernel
theorem d_Rd_isRising_30 : decode b_Rd_isRising 30 = .ok (.iconst 1, 1) := by decide +kernel
theorem d_Rd_isRising_31 : decode b_Rd_isRising 31 = .ok (.iadd, 1) := by decide +kernel
theorem d_Rd_isRising_32 : decode b_Rd_isRising 32 = .ok (.iaload, 1) := by decide +kernel
theorem d_Rd_isRising_33 : decode b_Rd_isRising 33 = .ok (.if_icmp .gt 5, 3) := by decide +kernel
theorem d_Rd_isRising_36 : decode b_Rd_isRising 36 = .ok (.iconst 0, 1) := by decide +kernel
theorem d_Rd_isRising_37 : decode b_Rd_isRising 37 = .ok (.ireturn, 1) := by decide +kernel
theorem d_Rd_isRising_38 : decode b_Rd_isRising 38 = .ok (.iinc 2 1, 3) := by decide +kernel
theorem d_Rd_isRising_41 : decode b_Rd_isRising 41 = .ok (.goto (-29), 3) := by decide +kernel
theorem d_Rd_isRising_44 : decode b_Rd_isRising 44 = .ok (.iconst 1, 1) := by decide +kernel
theorem d_Rd_isRising_45 : decode b_Rd_isRising 45 = .ok (.ireturn, 1) := by decide +kernel
theorem d_Rd_staysAbove_0 : decode b_Rd_staysAbove 0 = .ok (.aload_n 0, 1) := by decide +kernel
theorem d_Rd_staysAbove_1 : decode b_Rd_staysAbove 1 = .ok (.getfield 25, 3) := by decide +kernel
theorem d_Rd_staysAbove_4 : decode b_Rd_staysAbove 4 = .ok (.iload_n 2, 1) := by decide +kernel
theorem d_Rd_staysAbove_5 : decode b_Rd_staysAbove 5 = .ok (.if_icmp .ge 5, 3) := by decide +kernel
theorem d_Rd_staysAbove_8 : decode b_Rd_staysAbove 8 = .ok (.iconst 0, 1) := by decide +kernel
theorem d_Rd_staysAbove_9 : decode b_Rd_staysAbove 9 = .ok (.ireturn, 1) := by decide +kernel
theorem d_Rd_staysAbove_10 : decode b_Rd_staysAbove 10 = .ok (.iconst 0, 1) := by decide +kernel
theorem d_Rd_staysAbove_11 : decode b_Rd_staysAbove 11 = .ok (.istore_n 3, 1) := by decide +kernel
theorem d_Rd_staysAbove_12 : decode b_Rd_staysAbove 12 = .ok (.iload_n 3, 1) := by decide +kernel
theorem d_Rd_staysAbove_13 : decode b_Rd_staysAbove 13 = .ok (.iload_n 2, 1) := by decide +kernel
theorem d_Rd_staysAbove_14 : decode b_Rd_staysAbove 14 = .ok (.if_icmp .ge 21, 3) := by decide +kernel
theorem d_Rd_staysAbove_17 : decode b_Rd_staysAbove 17 = .ok (.aload_n 0, 1) := by decide +kernel
theorem d_Rd_staysAbove_18 : decode b_Rd_staysAbove 18 = .ok (.getfield 9, 3) := by decide +kernel
theorem d_Rd_staysAbove_21 : decode b_Rd_staysAbove 21 = .ok (.iload_n 3, 1) := by decide +kernel
theorem d_Rd_staysAbove_22 : decode b_Rd_staysAbove 22 = .ok (.iaload, 1) := by decide +kernel
theorem d_Rd_staysAbove_23 : decode b_Rd_staysAbove 23 = .ok (.iload_n 1, 1) := by decide +kernel
theorem d_Rd_staysAbove_24 : decode b_Rd_staysAbove 24 = .ok (.if_icmp .gt 5, 3) := by decide +kernel
theorem d_Rd_staysAbove_27 : decode b_Rd_staysAbove 27 = .ok (.iconst 0, 1) := by decide +kernel
theorem d_Rd_staysAbove_28 : decode b_Rd_staysAbove 28 = .ok (.ireturn, 1) := by decide +kernel
theorem d_Rd_staysAbove_29 : decode b_Rd_staysAbove 29 = .ok (.iinc 3 1, 3) := by decide +kernel
theorem d_Rd_staysAbove_32 : decode b_Rd_staysAbove 32 = .ok (.goto (-20), 3) := by decide +kernel
theorem d_Rd_staysAbove_35 : decode b_Rd_staysAbove 35 = .ok (.iconst 1, 1) := by decide +kernel
theorem d_Rd_staysAbove_36 : decode b_Rd_staysAbove 36 = .ok (.ireturn, 1) := by decide +kernel
theorem d_Rd_isJumping_0 : decode b_Rd_isJumping 0 = .ok (.aload_n 0, 1) := by decide +kernel
theorem d_Rd_isJumping_1 : decode b_Rd_isJumping 1 = .ok (.getfield 25, 3) := by decide +kernel
theorem d_Rd_isJumping_4 : decode b_Rd_isJumping 4 = .ok (.iconst 3, 1) := by decide +kernel
theorem d_Rd_isJumping_5 : decode b_Rd_isJumping 5 = .ok (.if_icmp .lt 22, 3) := by decide +kernel
theorem d_Rd_isJumping_8 : decode b_Rd_isJumping 8 = .ok (.aload_n 0, 1) := by decide +kernel
theorem d_Rd_isJumping_9 : decode b_Rd_isJumping 9 = .ok (.iconst 0, 1) := by decide +kernel
theorem d_Rd_isJumping_10 : decode b_Rd_isJumping 10 = .ok (.invokevirtual 34, 3) := by decide +kernel
theorem d_Rd_isJumping_13 : decode b_Rd_isJumping 13 = .ok (.aload_n 0, 1) := by decide +kernel
theorem d_Rd_isJumping_14 : decode b_Rd_isJumping 14 = .ok (.iconst 1, 1) := by decide +kernel
theorem d_Rd_isJumping_15 : decode b_Rd_isJumping 15 = .ok (.invokevirtual 34, 3) := by decide +kernel
theorem d_Rd_isJumping_18 : decode b_Rd_isJumping 18 = .ok (.iadd, 1) := by decide +kernel
theorem d_Rd_isJumping_19 : decode b_Rd_isJumping 19 = .ok (.iload_n 1, 1) := by decide +kernel
theorem d_Rd_isJumping_20 : decode b_Rd_isJumping 20 = .ok (.if_icmp .le 7, 3) := by decide +kernel
theorem d_Rd_isJumping_23 : decode b_Rd_isJumping 23 = .ok (.iconst 1, 1) := by decide +kernel
theorem d_Rd_isJumping_24 : decode b_Rd_isJumping 24 = .ok (.goto 4, 3) := by decide +kernel
theorem d_Rd_isJumping_27 : decode b_Rd_isJumping 27 = .ok (.iconst 0, 1) := by decide +kernel
theorem d_Rd_isJumping_28 : decode b_Rd_isJumping 28 = .ok (.ireturn, 1) := by decide +kernel
theorem d_Rd_step_0 : decode b_Rd_step 0 = .ok (.aload_n 0, 1) := by decide +kernel
theorem d_Rd_step_1 : decode b_Rd_step 1 = .ok (.getfield 9, 3) := by decide +kernel
theorem d_Rd_step_4 : decode b_Rd_step 4 = .ok (.iload_n 1, 1) := by decide +kernel
theorem d_Rd_step_5 : decode b_Rd_step 5 = .ok (.iaload, 1) := by decide +kernel
theorem d_Rd_step_6 : decode b_Rd_step 6 = .ok (.aload_n 0, 1) := by decide +kernel
theorem d_Rd_step_7 : decode b_Rd_step 7 = .ok (.getfield 9, 3) := by decide +kernel
theorem d_Rd_step_10 : decode b_Rd_step 10 = .ok (.iload_n 1, 1) := by decide +kernel
theorem d_Rd_step_11 : decode b_Rd_step 11 = .ok (.iconst 1, 1) := by decide +kernel
theorem d_Rd_step_12 : decode b_Rd_step 12 = .ok (.iadd, 1) := by decide +kernel
theorem d_Rd_step_13 : decode b_Rd_step 13 = .ok (.iaload, 1) := by decide +kernel
theorem d_Rd_step_14 : decode b_Rd_step 14 = .ok (.isub, 1) := by decide +kernel
theorem d_Rd_step_15 : decode b_Rd_step 15 = .ok (.invokestatic 38, 3) := by decide +kernel
theorem d_Rd_step_18 : decode b_Rd_step 18 = .ok (.ireturn, 1) := by decide +kernel
theorem d_Ru_init_0 : decode b_Ru_init 0 = .ok (.aload_n 0, 1) := by decide +kernel
theorem d_Ru_init_1 : decode b_Ru_init 1 = .ok (.invokespecial 3, 3) := by decide +kernel
theorem d_Ru_init_4 : decode b_Ru_init 4 = .ok (.aload_n 0, 1) := by decide +kernel
theorem d_Ru_init_5 : decode b_Ru_init 5 = .ok (.sipush 1000, 3) := by decide +kernel
theorem d_Ru_init_8 : decode b_Ru_init 8 = .ok (.putfield 9, 3) := by decide +kernel
theorem d_Ru_init_11 : decode b_Ru_init 11 = .ok (.aload_n 0, 1) := by decide +kernel
theorem d_Ru_init_12 : decode b_Ru_init 12 = .ok (.iconst 4, 1) := by decide +kernel
theorem d_Ru_init_13 : decode b_Ru_init 13 = .ok (.putfield 15, 3) := by decide +kernel
theorem d_Ru_init_16 : decode b_Ru_init 16 = .ok (.aload_n 0, 1) := by decide +kernel
theorem d_Ru_init_17 : decode b_Ru_init 17 = .ok (.sipush 500, 3) := by decide +kernel
theorem d_Ru_init_20 : decode b_Ru_init 20 = .ok (.putfield 18, 3) := by decide +kernel
theorem d_Ru_init_23 : decode b_Ru_init 23 = .ok (.aload_n 0, 1) := by decide +kernel
theorem d_Ru_init_24 : decode b_Ru_init 24 = .ok (.sipush 600, 3) := by decide +kernel
theorem d_Ru_init_27 : decode b_Ru_init 27 = .ok (.putfield 21, 3) := by decide +kernel
theorem d_Ru_init_30 : decode b_Ru_init 30 = .ok (.return_, 1) := by decide +kernel
theorem d_Ru_firstThatTells_0 : decode b_Ru_firstThatTells 0 = .ok (.aload_n 1, 1) := by decide +kernel
theorem d_Ru_firstThatTells_1 : decode b_Ru_firstThatTells 1 = .ok (.aload_n 0, 1) := by decide +kernel
theorem d_Ru_firstThatTells_2 : decode b_Ru_firstThatTells 2 = .ok (.getfield 9, 3) := by decide +kernel
theorem d_Ru_firstThatTells_5 : decode b_Ru_firstThatTells 5 = .ok (.invokevirtual 24, 3) := by decide +kernel
theorem d_Ru_firstThatTells_8 : decode b_Ru_firstThatTells 8 = .ok (.ifCond .eq 5, 3) := by decide +kernel
theorem d_Ru_firstThatTells_11 : decode b_Ru_firstThatTells 11 = .ok (.iconst 0, 1) := by decide +kernel
theorem d_Ru_firstThatTells_12 : decode b_Ru_firstThatTells 12 = .ok (.ireturn, 1) := by decide +kernel
theorem d_Ru_firstThatTells_13 : decode b_Ru_firstThatTells 13 = .ok (.aload_n 1, 1) := by decide +kernel
theorem d_Ru_firstThatTells_14 : decode b_Ru_firstThatTells 14 = .ok (.aload_n 0, 1) := by decide +kernel
theorem d_Ru_firstThatTells_15 : decode b_Ru_firstThatTells 15 = .ok (.getfield 15, 3) := by decide +kernel
theorem d_Ru_firstThatTells_18 : decode b_Ru_firstThatTells 18 = .ok (.invokevirtual 30, 3) := by decide +kernel
theorem d_Ru_firstThatTells_21 : decode b_Ru_firstThatTells 21 = .ok (.ifCond .eq 5, 3) := by decide +kernel
theorem d_Ru_firstThatTells_24 : decode b_Ru_firstThatTells 24 = .ok (.iconst 1, 1) := by decide +kernel
theorem d_Ru_firstThatTells_25 : decode b_Ru_firstThatTells 25 = .ok (.ireturn, 1) := by decide +kernel
theorem d_Ru_firstThatTells_26 : decode b_Ru_firstThatTells 26 = .ok (.aload_n 1, 1) := by decide +kernel
theorem d_Ru_firstThatTells_27 : decode b_Ru_firstThatTells 27 = .ok (.aload_n 0, 1) := by decide +kernel
theorem d_Ru_firstThatTells_28 : decode b_Ru_firstThatTells 28 = .ok (.getfield 18, 3) := by decide +kernel
theorem d_Ru_firstThatTells_31 : decode b_Ru_firstThatTells 31 = .ok (.aload_n 0, 1) := by decide +kernel
theorem d_Ru_firstThatTells_32 : decode b_Ru_firstThatTells 32 = .ok (.getfield 15, 3) := by decide +kernel
theorem d_Ru_firstThatTells_35 : decode b_Ru_firstThatTells 35 = .ok (.invokevirtual 33, 3) := by decide +kernel
theorem d_Ru_firstThatTells_38 : decode b_Ru_firstThatTells 38 = .ok (.ifCond .eq 5, 3) := by decide +kernel
theorem d_Ru_firstThatTells_41 : decode b_Ru_firstThatTells 41 = .ok (.iconst 2, 1) := by decide +kernel
theorem d_Ru_firstThatTells_42 : decode b_Ru_firstThatTells 42 = .ok (.ireturn, 1) := by decide +kernel
theorem d_Ru_firstThatTells_43 : decode b_Ru_firstThatTells 43 = .ok (.aload_n 1, 1) := by decide +kernel
theorem d_Ru_firstThatTells_44 : decode b_Ru_firstThatTells 44 = .ok (.aload_n 0, 1) := by decide +kernel
theorem d_Ru_firstThatTells_45 : decode b_Ru_firstThatTells 45 = .ok (.getfield 21, 3) := by decide +kernel
theorem d_Ru_firstThatTells_48 : decode b_Ru_firstThatTells 48 = .ok (.invokevirtual 37, 3) := by decide +kernel
theorem d_Ru_firstThatTells_51 : decode b_Ru_firstThatTells 51 = .ok (.ifCond .eq 7, 3) := by decide +kernel
theorem d_Ru_firstThatTells_54 : decode b_Ru_firstThatTells 54 = .ok (.iconst 3, 1) := by decide +kernel
theorem d_Ru_firstThatTells_55 : decode b_Ru_firstThatTells 55 = .ok (.goto 4, 3) := by decide +kernel
theorem d_Ru_firstThatTells_58 : decode b_Ru_firstThatTells 58 = .ok (.iconst (-1), 1) := by decide +kernel
theorem d_Ru_firstThatTells_59 : decode b_Ru_firstThatTells 59 = .ok (.ireturn, 1) := by decide +kernel
theorem d_So_init_0 : decode b_So_init 0 = .ok (.aload_n 0, 1) := by decide +kernel
theorem d_So_init_1 : decode b_So_init 1 = .ok (.invokespecial 3, 3) := by decide +kernel
theorem d_So_init_4 : decode b_So_init 4 = .ok (.aload_n 0, 1) := by decide +kernel
theorem d_So_init_5 : decode b_So_init 5 = .ok (.iload_n 1, 1) := by decide +kernel
theorem d_So_init_6 : decode b_So_init 6 = .ok (.putfield 9, 3) := by decide +kernel
theorem d_So_init_9 : decode b_So_init 9 = .ok (.aload_n 0, 1) := by decide +kernel
theorem d_So_init_10 : decode b_So_init 10 = .ok (.bipush 40, 2) := by decide +kernel
theorem d_So_init_12 : decode b_So_init 12 = .ok (.newarray .int, 2) := by decide +kernel
theorem d_So_init_14 : decode b_So_init 14 = .ok (.putfield 15, 3) := by decide +kernel
theorem d_So_init_17 : decode b_So_init 17 = .ok (.aload_n 0, 1) := by decide +kernel
theorem d_So_init_18 : decode b_So_init 18 = .ok (.ldc2_w 19, 3) := by decide +kernel
theorem d_So_init_21 : decode b_So_init 21 = .ok (.putfield 21, 3) := by decide +kernel
theorem d_So_init_24 : decode b_So_init 24 = .ok (.aload_n 0, 1) := by decide +kernel
theorem d_So_init_25 : decode b_So_init 25 = .ok (.iconst 1, 1) := by decide +kernel
theorem d_So_init_26 : decode b_So_init 26 = .ok (.putfield 25, 3) := by decide +kernel
theorem d_So_init_29 : decode b_So_init 29 = .ok (.aload_n 0, 1) := by decide +kernel
theorem d_So_init_30 : decode b_So_init 30 = .ok (.iconst 1, 1) := by decide +kernel
theorem d_So_init_31 : decode b_So_init 31 = .ok (.putfield 28, 3) := by decide +kernel
theorem d_So_init_34 : decode b_So_init 34 = .ok (.return_, 1) := by decide +kernel
theorem d_So_greatestLife_0 : decode b_So_greatestLife 0 = .ok (.iconst 0, 1) := by decide +kernel
theorem d_So_greatestLife_1 : decode b_So_greatestLife 1 = .ok (.istore_n 1, 1) := by decide +kernel
theorem d_So_greatestLife_2 : decode b_So_greatestLife 2 = .ok (.iconst 0, 1) := by decide +kernel
theorem d_So_greatestLife_3 : decode b_So_greatestLife 3 = .ok (.istore_n 2, 1) := by decide +kernel
theorem d_So_greatestLife_4 : decode b_So_greatestLife 4 = .ok (.iload_n 2, 1) := by decide +kernel
theorem d_So_greatestLife_5 : decode b_So_greatestLife 5 = .ok (.aload_n 0, 1) := by decide +kernel
theorem d_So_greatestLife_6 : decode b_So_greatestLife 6 = .ok (.getfield 31, 3) := by decide +kernel
theorem d_So_greatestLife_9 : decode b_So_greatestLife 9 = .ok (.if_icmp .ge 20, 3) := by decide +kernel
theorem d_So_greatestLife_12 : decode b_So_greatestLife 12 = .ok (.iload_n 1, 1) := by decide +kernel
theorem d_So_greatestLife_13 : decode b_So_greatestLife 13 = .ok (.aload_n 0, 1) := by decide +kernel
theorem d_So_greatestLife_14 : decode b_So_greatestLife 14 = .ok (.getfield 15, 3) := by decide +kernel
theorem d_So_greatestLife_17 : decode b_So_greatestLife 17 = .ok (.iload_n 2, 1) := by decide +kernel
theorem d_So_greatestLife_18 : decode b_So_greatestLife 18 = .ok (.iaload, 1) := by decide +kernel
theorem d_So_greatestLife_19 : decode b_So_greatestLife 19 = .ok (.invokestatic 34, 3) := by decide +kernel
theorem d_So_greatestLife_22 : decode b_So_greatestLife 22 = .ok (.istore_n 1, 1) := by decide +kernel
theorem d_So_greatestLife_23 : decode b_So_greatestLife 23 = .ok (.iinc 2 1, 3) := by decide +kernel
theorem d_So_greatestLife_26 : decode b_So_greatestLife 26 = .ok (.goto (-22), 3) := by decide +kernel
theorem d_So_greatestLife_29 : decode b_So_greatestLife 29 = .ok (.iload_n 1, 1) := by decide +kernel
theorem d_So_greatestLife_30 : decode b_So_greatestLife 30 = .ok (.ireturn, 1) := by decide +kernel
theorem d_So_costAt_0 : decode b_So_costAt 0 = .ok (.lconst 0, 1) := by decide +kernel
theorem d_So_costAt_1 : decode b_So_costAt 1 = .ok (.lstore_n 2, 1) := by decide +kernel
theorem d_So_costAt_2 : decode b_So_costAt 2 = .ok (.iconst 0, 1) := by decide +kernel
theorem d_So_costAt_3 : decode b_So_costAt 3 = .ok (.istore 4, 2) := by decide +kernel
theorem d_So_costAt_5 : decode b_So_costAt 5 = .ok (.iload 4, 2) := by decide +kernel
theorem d_So_costAt_7 : decode b_So_costAt 7 = .ok (.aload_n 0, 1) := by decide +kernel
theorem d_So_costAt_8 : decode b_So_costAt 8 = .ok (.getfield 31, 3) := by decide +kernel
theorem d_So_costAt_11 : decode b_So_costAt 11 = .ok (.if_icmp .ge 36, 3) := by decide +kernel
theorem d_So_costAt_14 : decode b_So_costAt 14 = .ok (.lload_n 2, 1) := by decide +kernel
theorem d_So_costAt_15 : decode b_So_costAt 15 = .ok (.aload_n 0, 1) := by decide +kernel
theorem d_So_costAt_16 : decode b_So_costAt 16 = .ok (.getfield 15, 3) := by decide +kernel
theorem d_So_costAt_19 : decode b_So_costAt 19 = .ok (.iload 4, 2) := by decide +kernel
theorem d_So_costAt_21 : decode b_So_costAt 21 = .ok (.iaload, 1) := by decide +kernel
theorem d_So_costAt_22 : decode b_So_costAt 22 = .ok (.iload_n 1, 1) := by decide +kernel
theorem d_So_costAt_23 : decode b_So_costAt 23 = .ok (.if_icmp .ge 11, 3) := by decide +kernel
theorem d_So_costAt_26 : decode b_So_costAt 26 = .ok (.aload_n 0, 1) := by decide +kernel
theorem d_So_costAt_27 : decode b_So_costAt 27 = .ok (.getfield 28, 3) := by decide +kernel
theorem d_So_costAt_30 : decode b_So_costAt 30 = .ok (.i2l, 1) := by decide +kernel
theorem d_So_costAt_31 : decode b_So_costAt 31 = .ok (.goto 8, 3) := by decide +kernel
theorem d_So_costAt_34 : decode b_So_costAt 34 = .ok (.aload_n 0, 1) := by decide +kernel
theorem d_So_costAt_35 : decode b_So_costAt 35 = .ok (.getfield 25, 3) := by decide +kernel
theorem d_So_costAt_38 : decode b_So_costAt 38 = .ok (.i2l, 1) := by decide +kernel
theorem d_So_costAt_39 : decode b_So_costAt 39 = .ok (.ladd, 1) := by decide +kernel
theorem d_So_costAt_40 : decode b_So_costAt 40 = .ok (.lstore_n 2, 1) := by decide +kernel
theorem d_So_costAt_41 : decode b_So_costAt 41 = .ok (.iinc 4 1, 3) := by decide +kernel
theorem d_So_costAt_44 : decode b_So_costAt 44 = .ok (.goto (-39), 3) := by decide +kernel
theorem d_So_costAt_47 : decode b_So_costAt 47 = .ok (.lload_n 2, 1) := by decide +kernel
theorem d_So_costAt_48 : decode b_So_costAt 48 = .ok (.lreturn, 1) := by decide +kernel
theorem d_So_usesAt_0 : decode b_So_usesAt 0 = .ok (.lconst 0, 1) := by decide +kernel
theorem d_So_usesAt_1 : decode b_So_usesAt 1 = .ok (.lstore_n 2, 1) := by decide +kernel
theorem d_So_usesAt_2 : decode b_So_usesAt 2 = .ok (.iconst 0, 1) := by decide +kernel
theorem d_So_usesAt_3 : decode b_So_usesAt 3 = .ok (.istore 4, 2) := by decide +kernel
theorem d_So_usesAt_5 : decode b_So_usesAt 5 = .ok (.iload 4, 2) := by decide +kernel
theorem d_So_usesAt_7 : decode b_So_usesAt 7 = .ok (.aload_n 0, 1) := by decide +kernel
theorem d_So_usesAt_8 : decode b_So_usesAt 8 = .ok (.getfield 31, 3) := by decide +kernel
theorem d_So_usesAt_11 : decode b_So_usesAt 11 = .ok (.if_icmp .ge 24, 3) := by decide +kernel
theorem d_So_usesAt_14 : decode b_So_usesAt 14 = .ok (.lload_n 2, 1) := by decide +kernel
theorem d_So_usesAt_15 : decode b_So_usesAt 15 = .ok (.aload_n 0, 1) := by decide +kernel
theorem d_So_usesAt_16 : decode b_So_usesAt 16 = .ok (.getfield 15, 3) := by decide +kernel
theorem d_So_usesAt_19 : decode b_So_usesAt 19 = .ok (.iload 4, 2) := by decide +kernel
theorem d_So_usesAt_21 : decode b_So_usesAt 21 = .ok (.iaload, 1) := by decide +kernel
theorem d_So_usesAt_22 : decode b_So_usesAt 22 = .ok (.iload_n 1, 1) := by decide +kernel
theorem d_So_usesAt_23 : decode b_So_usesAt 23 = .ok (.invokestatic 40, 3) := by decide +kernel
theorem d_So_usesAt_26 : decode b_So_usesAt 26 = .ok (.i2l, 1) := by decide +kernel
theorem d_So_usesAt_27 : decode b_So_usesAt 27 = .ok (.ladd, 1) := by decide +kernel
theorem d_So_usesAt_28 : decode b_So_usesAt 28 = .ok (.lstore_n 2, 1) := by decide +kernel
theorem d_So_usesAt_29 : decode b_So_usesAt 29 = .ok (.iinc 4 1, 3) := by decide +kernel
theorem d_So_usesAt_32 : decode b_So_usesAt 32 = .ok (.goto (-27), 3) := by decide +kernel
theorem d_So_usesAt_35 : decode b_So_usesAt 35 = .ok (.lload_n 2, 1) := by decide +kernel
theorem d_So_usesAt_36 : decode b_So_usesAt 36 = .ok (.lreturn, 1) := by decide +kernel
theorem d_So_bestUses_0 : decode b_So_bestUses 0 = .ok (.aload_n 0, 1) := by decide +kernel
theorem d_So_bestUses_1 : decode b_So_bestUses 1 = .ok (.getfield 15, 3) := by decide +kernel
theorem d_So_bestUses_4 : decode b_So_bestUses 4 = .ok (.iconst 0, 1) := by decide +kernel
theorem d_So_bestUses_5 : decode b_So_bestUses 5 = .ok (.iaload, 1) := by decide +kernel
theorem d_So_bestUses_6 : decode b_So_bestUses 6 = .ok (.istore_n 1, 1) := by decide +kernel
theorem d_So_bestUses_7 : decode b_So_bestUses 7 = .ok (.iconst 1, 1) := by decide +kernel
theorem d_So_bestUses_8 : decode b_So_bestUses 8 = .ok (.istore_n 2, 1) := by decide +kernel
theorem d_So_bestUses_9 : decode b_So_bestUses 9 = .ok (.iload_n 2, 1) := by decide +kernel
theorem d_So_bestUses_10 : decode b_So_bestUses 10 = .ok (.aload_n 0, 1) := by decide +kernel
theorem d_So_bestUses_11 : decode b_So_bestUses 11 = .ok (.getfield 31, 3) := by decide +kernel
theorem d_So_bestUses_14 : decode b_So_bestUses 14 = .ok (.if_icmp .ge 30, 3) := by decide +kernel
theorem d_So_bestUses_17 : decode b_So_bestUses 17 = .ok (.aload_n 0, 1) := by decide +kernel
theorem d_So_bestUses_18 : decode b_So_bestUses 18 = .ok (.aload_n 0, 1) := by decide +kernel
theorem d_So_bestUses_19 : decode b_So_bestUses 19 = .ok (.getfield 15, 3) := by decide +kernel
theorem d_So_bestUses_22 : decode b_So_bestUses 22 = .ok (.iload_n 2, 1) := by decide +kernel
theorem d_So_bestUses_23 : decode b_So_bestUses 23 = .ok (.iaload, 1) := by decide +kernel
theorem d_So_bestUses_24 : decode b_So_bestUses 24 = .ok (.iload_n 1, 1) := by decide +kernel
theorem d_So_bestUses_25 : decode b_So_bestUses 25 = .ok (.invokevirtual 43, 3) := by decide +kernel
theorem d_So_bestUses_28 : decode b_So_bestUses 28 = .ok (.ifCond .eq 10, 3) := by decide +kernel
theorem d_So_bestUses_31 : decode b_So_bestUses 31 = .ok (.aload_n 0, 1) := by decide +kernel
theorem d_So_bestUses_32 : decode b_So_bestUses 32 = .ok (.getfield 15, 3) := by decide +kernel
theorem d_So_bestUses_35 : decode b_So_bestUses 35 = .ok (.iload_n 2, 1) := by decide +kernel
theorem d_So_bestUses_36 : decode b_So_bestUses 36 = .ok (.iaload, 1) := by decide +kernel
theorem d_So_bestUses_37 : decode b_So_bestUses 37 = .ok (.istore_n 1, 1) := by decide +kernel
theorem d_So_bestUses_38 : decode b_So_bestUses 38 = .ok (.iinc 2 1, 3) := by decide +kernel
theorem d_So_bestUses_41 : decode b_So_bestUses 41 = .ok (.goto (-32), 3) := by decide +kernel
theorem d_So_bestUses_44 : decode b_So_bestUses 44 = .ok (.iload_n 1, 1) := by decide +kernel
theorem d_So_bestUses_45 : decode b_So_bestUses 45 = .ok (.ireturn, 1) := by decide +kernel
theorem d_So_isBetter_0 : decode b_So_isBetter 0 = .ok (.aload_n 0, 1) := by decide +kernel
theorem d_So_isBetter_1 : decode b_So_isBetter 1 = .ok (.iload_n 1, 1) := by decide +kernel
theorem d_So_isBetter_2 : decode b_So_isBetter 2 = .ok (.invokevirtual 47, 3) := by decide +kernel
theorem d_So_isBetter_5 : decode b_So_isBetter 5 = .ok (.aload_n 0, 1) := by decide +kernel
theorem d_So_isBetter_6 : decode b_So_isBetter 6 = .ok (.iload_n 2, 1) := by decide +kernel
theorem d_So_isBetter_7 : decode b_So_isBetter 7 = .ok (.invokevirtual 51, 3) := by decide +kernel
theorem d_So_isBetter_10 : decode b_So_isBetter 10 = .ok (.lmul, 1) := by decide +kernel
theorem d_So_isBetter_11 : decode b_So_isBetter 11 = .ok (.lstore_n 3, 1) := by decide +kernel
theorem d_So_isBetter_12 : decode b_So_isBetter 12 = .ok (.aload_n 0, 1) := by decide +kernel
theorem d_So_isBetter_13 : decode b_So_isBetter 13 = .ok (.iload_n 2, 1) := by decide +kernel
theorem d_So_isBetter_14 : decode b_So_isBetter 14 = .ok (.invokevirtual 47, 3) := by decide +kernel
theorem d_So_isBetter_17 : decode b_So_isBetter 17 = .ok (.aload_n 0, 1) := by decide +kernel
theorem d_So_isBetter_18 : decode b_So_isBetter 18 = .ok (.iload_n 1, 1) := by decide +kernel
theorem d_So_isBetter_19 : decode b_So_isBetter 19 = .ok (.invokevirtual 51, 3) := by decide +kernel
theorem d_So_isBetter_22 : decode b_So_isBetter 22 = .ok (.lmul, 1) := by decide +kernel
theorem d_So_isBetter_23 : decode b_So_isBetter 23 = .ok (.lstore 5, 2) := by decide +kernel
theorem d_So_isBetter_25 : decode b_So_isBetter 25 = .ok (.lload_n 3, 1) := by decide +kernel
theorem d_So_isBetter_26 : decode b_So_isBetter 26 = .ok (.lload 5, 2) := by decide +kernel
theorem d_So_isBetter_28 : decode b_So_isBetter 28 = .ok (.lcmp, 1) := by decide +kernel
theorem d_So_isBetter_29 : decode b_So_isBetter 29 = .ok (.ifCond .lt 15, 3) := by decide +kernel
theorem d_So_isBetter_32 : decode b_So_isBetter 32 = .ok (.lload_n 3, 1) := by decide +kernel
theorem d_So_isBetter_33 : decode b_So_isBetter 33 = .ok (.lload 5, 2) := by decide +kernel
theorem d_So_isBetter_35 : decode b_So_isBetter 35 = .ok (.lcmp, 1) := by decide +kernel
theorem d_So_isBetter_36 : decode b_So_isBetter 36 = .ok (.ifCond .ne 12, 3) := by decide +kernel
theorem d_So_isBetter_39 : decode b_So_isBetter 39 = .ok (.iload_n 1, 1) := by decide +kernel
theorem d_So_isBetter_40 : decode b_So_isBetter 40 = .ok (.iload_n 2, 1) := by decide +kernel
theorem d_So_isBetter_41 : decode b_So_isBetter 41 = .ok (.if_icmp .le 7, 3) := by decide +kernel
theorem d_So_isBetter_44 : decode b_So_isBetter 44 = .ok (.iconst 1, 1) := by decide +kernel
theorem d_So_isBetter_45 : decode b_So_isBetter 45 = .ok (.goto 4, 3) := by decide +kernel
theorem d_So_isBetter_48 : decode b_So_isBetter 48 = .ok (.iconst 0, 1) := by decide +kernel
theorem d_So_isBetter_49 : decode b_So_isBetter 49 = .ok (.ireturn, 1) := by decide +kernel
theorem d_To_init_0 : decode b_To_init 0 = .ok (.aload_n 0, 1) := by decide +kernel
theorem d_To_init_1 : decode b_To_init 1 = .ok (.invokespecial 3, 3) := by decide +kernel
theorem d_To_init_4 : decode b_To_init 4 = .ok (.aload_n 0, 1) := by decide +kernel
theorem d_To_init_5 : decode b_To_init 5 = .ok (.aload_n 1, 1) := by decide +kernel
theorem d_To_init_6 : decode b_To_init 6 = .ok (.putfield 9, 3) := by decide +kernel
theorem d_To_init_9 : decode b_To_init 9 = .ok (.aload_n 0, 1) := by decide +kernel
theorem d_To_init_10 : decode b_To_init 10 = .ok (.iload_n 2, 1) := by decide +kernel
theorem d_To_init_11 : decode b_To_init 11 = .ok (.putfield 15, 3) := by decide +kernel
theorem d_To_init_14 : decode b_To_init 14 = .ok (.aload_n 0, 1) := by decide +kernel
theorem d_To_init_15 : decode b_To_init 15 = .ok (.iload_n 3, 1) := by decide +kernel
theorem d_To_init_16 : decode b_To_init 16 = .ok (.putfield 19, 3) := by decide +kernel
theorem d_To_init_19 : decode b_To_init 19 = .ok (.aload_n 0, 1) := by decide +kernel
theorem d_To_init_20 : decode b_To_init 20 = .ok (.new 22, 3) := by decide +kernel
theorem d_To_init_23 : decode b_To_init 23 = .ok (.dup, 1) := by decide +kernel
theorem d_To_init_24 : decode b_To_init 24 = .ok (.invokespecial 24, 3) := by decide +kernel
theorem d_To_init_27 : decode b_To_init 27 = .ok (.putfield 25, 3) := by decide +kernel
theorem d_To_init_30 : decode b_To_init 30 = .ok (.return_, 1) := by decide +kernel
theorem d_To_wearBy_0 : decode b_To_wearBy 0 = .ok (.aload_n 0, 1) := by decide +kernel
theorem d_To_wearBy_1 : decode b_To_wearBy 1 = .ok (.aload_n 0, 1) := by decide +kernel
theorem d_To_wearBy_2 : decode b_To_wearBy 2 = .ok (.getfield 29, 3) := by decide +kernel
theorem d_To_wearBy_5 : decode b_To_wearBy 5 = .ok (.lload_n 1, 1) := by decide +kernel
theorem d_To_wearBy_6 : decode b_To_wearBy 6 = .ok (.ladd, 1) := by decide +kernel
theorem d_To_wearBy_7 : decode b_To_wearBy 7 = .ok (.ldc2_w 33, 3) := by decide +kernel
theorem d_To_wearBy_10 : decode b_To_wearBy 10 = .ok (.invokestatic 35, 3) := by decide +kernel
theorem d_To_wearBy_13 : decode b_To_wearBy 13 = .ok (.putfield 29, 3) := by decide +kernel
theorem d_To_wearBy_16 : decode b_To_wearBy 16 = .ok (.aload_n 0, 1) := by decide +kernel
theorem d_To_wearBy_17 : decode b_To_wearBy 17 = .ok (.dup, 1) := by decide +kernel
theorem d_To_wearBy_18 : decode b_To_wearBy 18 = .ok (.getfield 41, 3) := by decide +kernel
theorem d_To_wearBy_21 : decode b_To_wearBy 21 = .ok (.lconst 1, 1) := by decide +kernel
theorem d_To_wearBy_22 : decode b_To_wearBy 22 = .ok (.ladd, 1) := by decide +kernel
theorem d_To_wearBy_23 : decode b_To_wearBy 23 = .ok (.putfield 41, 3) := by decide +kernel
theorem d_To_wearBy_26 : decode b_To_wearBy 26 = .ok (.return_, 1) := by decide +kernel
theorem d_To_grindOrBar_0 : decode b_To_grindOrBar 0 = .ok (.aload_n 0, 1) := by decide +kernel
theorem d_To_grindOrBar_1 : decode b_To_grindOrBar 1 = .ok (.getfield 15, 3) := by decide +kernel
theorem d_To_grindOrBar_4 : decode b_To_grindOrBar 4 = .ok (.iload_n 1, 1) := by decide +kernel
theorem d_To_grindOrBar_5 : decode b_To_grindOrBar 5 = .ok (.isub, 1) := by decide +kernel
theorem d_To_grindOrBar_6 : decode b_To_grindOrBar 6 = .ok (.aload_n 0, 1) := by decide +kernel
theorem d_To_grindOrBar_7 : decode b_To_grindOrBar 7 = .ok (.getfield 19, 3) := by decide +kernel
theorem d_To_grindOrBar_10 : decode b_To_grindOrBar 10 = .ok (.if_icmp .ge 10, 3) := by decide +kernel
theorem d_To_grindOrBar_13 : decode b_To_grindOrBar 13 = .ok (.aload_n 0, 1) := by decide +kernel
theorem d_To_grindOrBar_14 : decode b_To_grindOrBar 14 = .ok (.iconst 1, 1) := by decide +kernel
theorem d_To_grindOrBar_15 : decode b_To_grindOrBar 15 = .ok (.putfield 44, 3) := by decide +kernel
theorem d_To_grindOrBar_18 : decode b_To_grindOrBar 18 = .ok (.iconst 0, 1) := by decide +kernel
theorem d_To_grindOrBar_19 : decode b_To_grindOrBar 19 = .ok (.ireturn, 1) := by decide +kernel
theorem d_To_grindOrBar_20 : decode b_To_grindOrBar 20 = .ok (.aload_n 0, 1) := by decide +kernel
theorem d_To_grindOrBar_21 : decode b_To_grindOrBar 21 = .ok (.dup, 1) := by decide +kernel
theorem d_To_grindOrBar_22 : decode b_To_grindOrBar 22 = .ok (.getfield 15, 3) := by decide +kernel
theorem d_To_grindOrBar_25 : decode b_To_grindOrBar 25 = .ok (.iload_n 1, 1) := by decide +kernel
theorem d_To_grindOrBar_26 : decode b_To_grindOrBar 26 = .ok (.isub, 1) := by decide +kernel
theorem d_To_grindOrBar_27 : decode b_To_grindOrBar 27 = .ok (.putfield 15, 3) := by decide +kernel
theorem d_To_grindOrBar_30 : decode b_To_grindOrBar 30 = .ok (.aload_n 0, 1) := by decide +kernel
theorem d_To_grindOrBar_31 : decode b_To_grindOrBar 31 = .ok (.lconst 0, 1) := by decide +kernel
theorem d_To_grindOrBar_32 : decode b_To_grindOrBar 32 = .ok (.putfield 29, 3) := by decide +kernel
theorem d_To_grindOrBar_35 : decode b_To_grindOrBar 35 = .ok (.aload_n 0, 1) := by decide +kernel
theorem d_To_grindOrBar_36 : decode b_To_grindOrBar 36 = .ok (.dup, 1) := by decide +kernel
theorem d_To_grindOrBar_37 : decode b_To_grindOrBar 37 = .ok (.getfield 48, 3) := by decide +kernel
theorem d_To_grindOrBar_40 : decode b_To_grindOrBar 40 = .ok (.lconst 1, 1) := by decide +kernel
theorem d_To_grindOrBar_41 : decode b_To_grindOrBar 41 = .ok (.ladd, 1) := by decide +kernel
theorem d_To_grindOrBar_42 : decode b_To_grindOrBar 42 = .ok (.putfield 48, 3) := by decide +kernel
theorem d_To_grindOrBar_45 : decode b_To_grindOrBar 45 = .ok (.iconst 1, 1) := by decide +kernel
theorem d_To_grindOrBar_46 : decode b_To_grindOrBar 46 = .ok (.ireturn, 1) := by decide +kernel
theorem d_To_isBlunt_0 : decode b_To_isBlunt 0 = .ok (.aload_n 0, 1) := by decide +kernel
theorem d_To_isBlunt_1 : decode b_To_isBlunt 1 = .ok (.getfield 29, 3) := by decide +kernel
theorem d_To_isBlunt_4 : decode b_To_isBlunt 4 = .ok (.aload_n 0, 1) := by decide +kernel
theorem d_To_isBlunt_5 : decode b_To_isBlunt 5 = .ok (.getfield 9, 3) := by decide +kernel
theorem d_To_isBlunt_8 : decode b_To_isBlunt 8 = .ok (.getfield 51, 3) := by decide +kernel
theorem d_To_isBlunt_11 : decode b_To_isBlunt 11 = .ok (.lcmp, 1) := by decide +kernel
theorem d_To_isBlunt_12 : decode b_To_isBlunt 12 = .ok (.ifCond .le 7, 3) := by decide +kernel
theorem d_To_isBlunt_15 : decode b_To_isBlunt 15 = .ok (.iconst 1, 1) := by decide +kernel
theorem d_To_isBlunt_16 : decode b_To_isBlunt 16 = .ok (.goto 4, 3) := by decide +kernel
theorem d_To_isBlunt_19 : decode b_To_isBlunt 19 = .ok (.iconst 0, 1) := by decide +kernel
theorem d_To_isBlunt_20 : decode b_To_isBlunt 20 = .ok (.ireturn, 1) := by decide +kernel
theorem d_To_isSpareOf_0 : decode b_To_isSpareOf 0 = .ok (.aload_n 0, 1) := by decide +kernel
theorem d_To_isSpareOf_1 : decode b_To_isSpareOf 1 = .ok (.getfield 9, 3) := by decide +kernel
theorem d_To_isSpareOf_4 : decode b_To_isSpareOf 4 = .ok (.getfield 56, 3) := by decide +kernel
theorem d_To_isSpareOf_7 : decode b_To_isSpareOf 7 = .ok (.iload_n 1, 1) := by decide +kernel
theorem d_To_isSpareOf_8 : decode b_To_isSpareOf 8 = .ok (.if_icmp .ne 30, 3) := by decide +kernel
theorem d_To_isSpareOf_11 : decode b_To_isSpareOf 11 = .ok (.aload_n 0, 1) := by decide +kernel
theorem d_To_isSpareOf_12 : decode b_To_isSpareOf 12 = .ok (.getfield 44, 3) := by decide +kernel
theorem d_To_isSpareOf_15 : decode b_To_isSpareOf 15 = .ok (.ifCond .ne 23, 3) := by decide +kernel
theorem d_To_isSpareOf_18 : decode b_To_isSpareOf 18 = .ok (.aload_n 0, 1) := by decide +kernel
theorem d_To_isSpareOf_19 : decode b_To_isSpareOf 19 = .ok (.getfield 59, 3) := by decide +kernel
theorem d_To_isSpareOf_22 : decode b_To_isSpareOf 22 = .ok (.ifCond .ne 16, 3) := by decide +kernel
theorem d_To_isSpareOf_25 : decode b_To_isSpareOf 25 = .ok (.aload_n 0, 1) := by decide +kernel
theorem d_To_isSpareOf_26 : decode b_To_isSpareOf 26 = .ok (.getfield 29, 3) := by decide +kernel
theorem d_To_isSpareOf_29 : decode b_To_isSpareOf 29 = .ok (.lconst 0, 1) := by decide +kernel
theorem d_To_isSpareOf_30 : decode b_To_isSpareOf 30 = .ok (.lcmp, 1) := by decide +kernel
theorem d_To_isSpareOf_31 : decode b_To_isSpareOf 31 = .ok (.ifCond .ne 7, 3) := by decide +kernel
theorem d_To_isSpareOf_34 : decode b_To_isSpareOf 34 = .ok (.iconst 1, 1) := by decide +kernel
theorem d_To_isSpareOf_35 : decode b_To_isSpareOf 35 = .ok (.goto 4, 3) := by decide +kernel
theorem d_To_isSpareOf_38 : decode b_To_isSpareOf 38 = .ok (.iconst 0, 1) := by decide +kernel
theorem d_To_isSpareOf_39 : decode b_To_isSpareOf 39 = .ok (.ireturn, 1) := by decide +kernel
theorem d_To_marks_0 : decode b_To_marks 0 = .ok (.aload_n 0, 1) := by decide +kernel
theorem d_To_marks_1 : decode b_To_marks 1 = .ok (.getfield 44, 3) := by decide +kernel
theorem d_To_marks_4 : decode b_To_marks 4 = .ok (.ifCond .eq 7, 3) := by decide +kernel
theorem d_To_marks_7 : decode b_To_marks 7 = .ok (.iconst 1, 1) := by decide +kernel
theorem d_To_marks_8 : decode b_To_marks 8 = .ok (.goto 4, 3) := by decide +kernel
theorem d_To_marks_11 : decode b_To_marks 11 = .ok (.iconst 0, 1) := by decide +kernel
theorem d_To_marks_12 : decode b_To_marks 12 = .ok (.aload_n 0, 1) := by decide +kernel
theorem d_To_marks_13 : decode b_To_marks 13 = .ok (.invokevirtual 62, 3) := by decide +kernel
theorem d_To_marks_16 : decode b_To_marks 16 = .ok (.ifCond .eq 7, 3) := by decide +kernel
theorem d_To_marks_19 : decode b_To_marks 19 = .ok (.iconst 2, 1) := by decide +kernel
theorem d_To_marks_20 : decode b_To_marks 20 = .ok (.goto 4, 3) := by decide +kernel
theorem d_To_marks_23 : decode b_To_marks 23 = .ok (.iconst 0, 1) := by decide +kernel
theorem d_To_marks_24 : decode b_To_marks 24 = .ok (.iadd, 1) := by decide +kernel
theorem d_To_marks_25 : decode b_To_marks 25 = .ok (.aload_n 0, 1) := by decide +kernel
theorem d_To_marks_26 : decode b_To_marks 26 = .ok (.getfield 59, 3) := by decide +kernel
theorem d_To_marks_29 : decode b_To_marks 29 = .ok (.ifCond .eq 7, 3) := by decide +kernel
theorem d_To_marks_32 : decode b_To_marks 32 = .ok (.iconst 4, 1) := by decide +kernel
theorem d_To_marks_33 : decode b_To_marks 33 = .ok (.goto 4, 3) := by decide +kernel
theorem d_To_marks_36 : decode b_To_marks 36 = .ok (.iconst 0, 1) := by decide +kernel
theorem d_To_marks_37 : decode b_To_marks 37 = .ok (.iadd, 1) := by decide +kernel
theorem d_To_marks_38 : decode b_To_marks 38 = .ok (.ireturn, 1) := by decide +kernel
