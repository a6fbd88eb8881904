theorem dd_C_init_0 : decode bb_C_init 0 = .ok (.aload_n 0, 1) := by decide +kernel
theorem dd_C_init_1 : decode bb_C_init 1 = .ok (.invokespecial 3, 3) := by decide +kernel
theorem dd_C_init_4 : decode bb_C_init 4 = .ok (.aload_n 0, 1) := by decide +kernel
theorem dd_C_init_5 : decode bb_C_init 5 = .ok (.bipush 40, 2) := by decide +kernel
theorem dd_C_init_7 : decode bb_C_init 7 = .ok (.anewarray 9, 3) := by decide +kernel
theorem dd_C_init_10 : decode bb_C_init 10 = .ok (.putfield 11, 3) := by decide +kernel
theorem dd_C_init_13 : decode bb_C_init 13 = .ok (.aload_n 0, 1) := by decide +kernel
theorem dd_C_init_14 : decode bb_C_init 14 = .ok (.bipush 100, 2) := by decide +kernel
theorem dd_C_init_16 : decode bb_C_init 16 = .ok (.anewarray 15, 3) := by decide +kernel
theorem dd_C_init_19 : decode bb_C_init 19 = .ok (.putfield 17, 3) := by decide +kernel
theorem dd_C_init_22 : decode bb_C_init 22 = .ok (.aload_n 0, 1) := by decide +kernel
theorem dd_C_init_23 : decode bb_C_init 23 = .ok (.bipush 20, 2) := by decide +kernel
theorem dd_C_init_25 : decode bb_C_init 25 = .ok (.newarray .int, 2) := by decide +kernel
theorem dd_C_init_27 : decode bb_C_init 27 = .ok (.putfield 21, 3) := by decide +kernel
theorem dd_C_init_30 : decode bb_C_init 30 = .ok (.aload_n 0, 1) := by decide +kernel
theorem dd_C_init_31 : decode bb_C_init 31 = .ok (.new 25, 3) := by decide +kernel
theorem dd_C_init_34 : decode bb_C_init 34 = .ok (.dup, 1) := by decide +kernel
theorem dd_C_init_35 : decode bb_C_init 35 = .ok (.invokespecial 27, 3) := by decide +kernel
theorem dd_C_init_38 : decode bb_C_init 38 = .ok (.putfield 28, 3) := by decide +kernel
theorem dd_C_init_41 : decode bb_C_init 41 = .ok (.aload_n 0, 1) := by decide +kernel
theorem dd_C_init_42 : decode bb_C_init 42 = .ok (.new 32, 3) := by decide +kernel
theorem dd_C_init_45 : decode bb_C_init 45 = .ok (.dup, 1) := by decide +kernel
theorem dd_C_init_46 : decode bb_C_init 46 = .ok (.invokespecial 34, 3) := by decide +kernel
theorem dd_C_init_49 : decode bb_C_init 49 = .ok (.putfield 35, 3) := by decide +kernel
theorem dd_C_init_52 : decode bb_C_init 52 = .ok (.aload_n 0, 1) := by decide +kernel
theorem dd_C_init_53 : decode bb_C_init 53 = .ok (.iconst 0, 1) := by decide +kernel
theorem dd_C_init_54 : decode bb_C_init 54 = .ok (.putfield 39, 3) := by decide +kernel
theorem dd_C_init_57 : decode bb_C_init 57 = .ok (.aload_n 0, 1) := by decide +kernel
theorem dd_C_init_58 : decode bb_C_init 58 = .ok (.iconst 0, 1) := by decide +kernel
theorem dd_C_init_59 : decode bb_C_init 59 = .ok (.putfield 43, 3) := by decide +kernel
theorem dd_C_init_62 : decode bb_C_init 62 = .ok (.aload_n 0, 1) := by decide +kernel
theorem dd_C_init_63 : decode bb_C_init 63 = .ok (.iconst 0, 1) := by decide +kernel
theorem dd_C_init_64 : decode bb_C_init 64 = .ok (.putfield 46, 3) := by decide +kernel
theorem dd_C_init_67 : decode bb_C_init 67 = .ok (.iconst 0, 1) := by decide +kernel
theorem dd_C_init_68 : decode bb_C_init 68 = .ok (.istore_n 1, 1) := by decide +kernel
theorem dd_C_init_69 : decode bb_C_init 69 = .ok (.iload_n 1, 1) := by decide +kernel
theorem dd_C_init_70 : decode bb_C_init 70 = .ok (.aload_n 0, 1) := by decide +kernel
theorem dd_C_init_71 : decode bb_C_init 71 = .ok (.getfield 21, 3) := by decide +kernel
theorem dd_C_init_74 : decode bb_C_init 74 = .ok (.arraylength, 1) := by decide +kernel
theorem dd_C_init_75 : decode bb_C_init 75 = .ok (.if_icmp .ge 18, 3) := by decide +kernel
theorem dd_C_init_78 : decode bb_C_init 78 = .ok (.aload_n 0, 1) := by decide +kernel
theorem dd_C_init_79 : decode bb_C_init 79 = .ok (.getfield 21, 3) := by decide +kernel
theorem dd_C_init_82 : decode bb_C_init 82 = .ok (.iload_n 1, 1) := by decide +kernel
theorem dd_C_init_83 : decode bb_C_init 83 = .ok (.sipush 20000, 3) := by decide +kernel
theorem dd_C_init_86 : decode bb_C_init 86 = .ok (.iastore, 1) := by decide +kernel
theorem dd_C_init_87 : decode bb_C_init 87 = .ok (.iinc 1 1, 3) := by decide +kernel
theorem dd_C_init_90 : decode bb_C_init 90 = .ok (.goto (-21), 3) := by decide +kernel
theorem dd_C_init_93 : decode bb_C_init 93 = .ok (.return_, 1) := by decide +kernel
theorem dd_C_hydrant_0 : decode bb_C_hydrant 0 = .ok (.aload_n 0, 1) := by decide +kernel
theorem dd_C_hydrant_1 : decode bb_C_hydrant 1 = .ok (.iload_n 3, 1) := by decide +kernel
theorem dd_C_hydrant_2 : decode bb_C_hydrant 2 = .ok (.invokevirtual 50, 3) := by decide +kernel
theorem dd_C_hydrant_5 : decode bb_C_hydrant 5 = .ok (.iload 4, 2) := by decide +kernel
theorem dd_C_hydrant_7 : decode bb_C_hydrant 7 = .ok (.ifCond .lt 9, 3) := by decide +kernel
theorem dd_C_hydrant_10 : decode bb_C_hydrant 10 = .ok (.iload 4, 2) := by decide +kernel
theorem dd_C_hydrant_12 : decode bb_C_hydrant 12 = .ok (.iconst 3, 1) := by decide +kernel
theorem dd_C_hydrant_13 : decode bb_C_hydrant 13 = .ok (.if_icmp .lt 13, 3) := by decide +kernel
theorem dd_C_hydrant_16 : decode bb_C_hydrant 16 = .ok (.new 54, 3) := by decide +kernel
theorem dd_C_hydrant_19 : decode bb_C_hydrant 19 = .ok (.dup, 1) := by decide +kernel
theorem dd_C_hydrant_20 : decode bb_C_hydrant 20 = .ok (.ldc 56, 2) := by decide +kernel
theorem dd_C_hydrant_22 : decode bb_C_hydrant 22 = .ok (.invokespecial 58, 3) := by decide +kernel
theorem dd_C_hydrant_25 : decode bb_C_hydrant 25 = .ok (.athrow, 1) := by decide +kernel
theorem dd_C_hydrant_26 : decode bb_C_hydrant 26 = .ok (.iload_n 1, 1) := by decide +kernel
theorem dd_C_hydrant_27 : decode bb_C_hydrant 27 = .ok (.iload_n 2, 1) := by decide +kernel
theorem dd_C_hydrant_28 : decode bb_C_hydrant 28 = .ok (.invokestatic 61, 3) := by decide +kernel
theorem dd_C_hydrant_31 : decode bb_C_hydrant 31 = .ok (.aload_n 0, 1) := by decide +kernel
theorem dd_C_hydrant_32 : decode bb_C_hydrant 32 = .ok (.getfield 39, 3) := by decide +kernel
theorem dd_C_hydrant_35 : decode bb_C_hydrant 35 = .ok (.istore 5, 2) := by decide +kernel
theorem dd_C_hydrant_37 : decode bb_C_hydrant 37 = .ok (.iload 5, 2) := by decide +kernel
theorem dd_C_hydrant_39 : decode bb_C_hydrant 39 = .ok (.ifCond .lt 13, 3) := by decide +kernel
theorem dd_C_hydrant_42 : decode bb_C_hydrant 42 = .ok (.iload 5, 2) := by decide +kernel
theorem dd_C_hydrant_44 : decode bb_C_hydrant 44 = .ok (.aload_n 0, 1) := by decide +kernel
theorem dd_C_hydrant_45 : decode bb_C_hydrant 45 = .ok (.getfield 11, 3) := by decide +kernel
theorem dd_C_hydrant_48 : decode bb_C_hydrant 48 = .ok (.arraylength, 1) := by decide +kernel
theorem dd_C_hydrant_49 : decode bb_C_hydrant 49 = .ok (.if_icmp .lt 13, 3) := by decide +kernel
theorem dd_C_hydrant_52 : decode bb_C_hydrant 52 = .ok (.new 65, 3) := by decide +kernel
theorem dd_C_hydrant_55 : decode bb_C_hydrant 55 = .ok (.dup, 1) := by decide +kernel
theorem dd_C_hydrant_56 : decode bb_C_hydrant 56 = .ok (.ldc 67, 2) := by decide +kernel
theorem dd_C_hydrant_58 : decode bb_C_hydrant 58 = .ok (.invokespecial 69, 3) := by decide +kernel
theorem dd_C_hydrant_61 : decode bb_C_hydrant 61 = .ok (.athrow, 1) := by decide +kernel
theorem dd_C_hydrant_62 : decode bb_C_hydrant 62 = .ok (.aload_n 0, 1) := by decide +kernel
theorem dd_C_hydrant_63 : decode bb_C_hydrant 63 = .ok (.getfield 11, 3) := by decide +kernel
theorem dd_C_hydrant_66 : decode bb_C_hydrant 66 = .ok (.iload 5, 2) := by decide +kernel
theorem dd_C_hydrant_68 : decode bb_C_hydrant 68 = .ok (.new 9, 3) := by decide +kernel
theorem dd_C_hydrant_71 : decode bb_C_hydrant 71 = .ok (.dup, 1) := by decide +kernel
theorem dd_C_hydrant_72 : decode bb_C_hydrant 72 = .ok (.iload 5, 2) := by decide +kernel
theorem dd_C_hydrant_74 : decode bb_C_hydrant 74 = .ok (.iload_n 1, 1) := by decide +kernel
theorem dd_C_hydrant_75 : decode bb_C_hydrant 75 = .ok (.iload_n 2, 1) := by decide +kernel
theorem dd_C_hydrant_76 : decode bb_C_hydrant 76 = .ok (.iload_n 3, 1) := by decide +kernel
theorem dd_C_hydrant_77 : decode bb_C_hydrant 77 = .ok (.iload 4, 2) := by decide +kernel
theorem dd_C_hydrant_79 : decode bb_C_hydrant 79 = .ok (.invokespecial 70, 3) := by decide +kernel
theorem dd_C_hydrant_82 : decode bb_C_hydrant 82 = .ok (.aastore, 1) := by decide +kernel
theorem dd_C_hydrant_83 : decode bb_C_hydrant 83 = .ok (.aload_n 0, 1) := by decide +kernel
theorem dd_C_hydrant_84 : decode bb_C_hydrant 84 = .ok (.iload 5, 2) := by decide +kernel
theorem dd_C_hydrant_86 : decode bb_C_hydrant 86 = .ok (.iconst 1, 1) := by decide +kernel
theorem dd_C_hydrant_87 : decode bb_C_hydrant 87 = .ok (.iadd, 1) := by decide +kernel
theorem dd_C_hydrant_88 : decode bb_C_hydrant 88 = .ok (.putfield 39, 3) := by decide +kernel
theorem dd_C_hydrant_91 : decode bb_C_hydrant 91 = .ok (.iload 5, 2) := by decide +kernel
theorem dd_C_hydrant_93 : decode bb_C_hydrant 93 = .ok (.ireturn, 1) := by decide +kernel
theorem dd_C_limit_0 : decode bb_C_limit 0 = .ok (.aload_n 0, 1) := by decide +kernel
theorem dd_C_limit_1 : decode bb_C_limit 1 = .ok (.iload_n 1, 1) := by decide +kernel
theorem dd_C_limit_2 : decode bb_C_limit 2 = .ok (.invokevirtual 50, 3) := by decide +kernel
theorem dd_C_limit_5 : decode bb_C_limit 5 = .ok (.iload_n 2, 1) := by decide +kernel
theorem dd_C_limit_6 : decode bb_C_limit 6 = .ok (.invokestatic 73, 3) := by decide +kernel
theorem dd_C_limit_9 : decode bb_C_limit 9 = .ok (.aload_n 0, 1) := by decide +kernel
theorem dd_C_limit_10 : decode bb_C_limit 10 = .ok (.getfield 21, 3) := by decide +kernel
theorem dd_C_limit_13 : decode bb_C_limit 13 = .ok (.iload_n 1, 1) := by decide +kernel
theorem dd_C_limit_14 : decode bb_C_limit 14 = .ok (.iload_n 2, 1) := by decide +kernel
theorem dd_C_limit_15 : decode bb_C_limit 15 = .ok (.iastore, 1) := by decide +kernel
theorem dd_C_limit_16 : decode bb_C_limit 16 = .ok (.return_, 1) := by decide +kernel
theorem dd_C_allow_0 : decode bb_C_allow 0 = .ok (.aload_n 0, 1) := by decide +kernel
theorem dd_C_allow_1 : decode bb_C_allow 1 = .ok (.iload_n 1, 1) := by decide +kernel
theorem dd_C_allow_2 : decode bb_C_allow 2 = .ok (.putfield 46, 3) := by decide +kernel
theorem dd_C_allow_5 : decode bb_C_allow 5 = .ok (.return_, 1) := by decide +kernel
theorem dd_C_test_0 : decode bb_C_test 0 = .ok (.aload_n 0, 1) := by decide +kernel
theorem dd_C_test_1 : decode bb_C_test 1 = .ok (.iload_n 1, 1) := by decide +kernel
theorem dd_C_test_2 : decode bb_C_test 2 = .ok (.invokevirtual 76, 3) := by decide +kernel
theorem dd_C_test_5 : decode bb_C_test 5 = .ok (.astore 6, 2) := by decide +kernel
theorem dd_C_test_7 : decode bb_C_test 7 = .ok (.iload_n 2, 1) := by decide +kernel
theorem dd_C_test_8 : decode bb_C_test 8 = .ok (.invokestatic 80, 3) := by decide +kernel
theorem dd_C_test_11 : decode bb_C_test 11 = .ok (.iload_n 3, 1) := by decide +kernel
theorem dd_C_test_12 : decode bb_C_test 12 = .ok (.invokestatic 83, 3) := by decide +kernel
theorem dd_C_test_15 : decode bb_C_test 15 = .ok (.iload 5, 2) := by decide +kernel
theorem dd_C_test_17 : decode bb_C_test 17 = .ok (.invokestatic 83, 3) := by decide +kernel
theorem dd_C_test_20 : decode bb_C_test 20 = .ok (.iload 4, 2) := by decide +kernel
theorem dd_C_test_22 : decode bb_C_test 22 = .ok (.invokestatic 73, 3) := by decide +kernel
theorem dd_C_test_25 : decode bb_C_test 25 = .ok (.iload 5, 2) := by decide +kernel
theorem dd_C_test_27 : decode bb_C_test 27 = .ok (.iload_n 3, 1) := by decide +kernel
theorem dd_C_test_28 : decode bb_C_test 28 = .ok (.if_icmp .le 13, 3) := by decide +kernel
theorem dd_C_test_31 : decode bb_C_test 31 = .ok (.new 86, 3) := by decide +kernel
theorem dd_C_test_34 : decode bb_C_test 34 = .ok (.dup, 1) := by decide +kernel
theorem dd_C_test_35 : decode bb_C_test 35 = .ok (.ldc 88, 2) := by decide +kernel
theorem dd_C_test_37 : decode bb_C_test 37 = .ok (.invokespecial 90, 3) := by decide +kernel
theorem dd_C_test_40 : decode bb_C_test 40 = .ok (.athrow, 1) := by decide +kernel
theorem dd_C_test_41 : decode bb_C_test 41 = .ok (.aload_n 0, 1) := by decide +kernel
theorem dd_C_test_42 : decode bb_C_test 42 = .ok (.getfield 43, 3) := by decide +kernel
theorem dd_C_test_45 : decode bb_C_test 45 = .ok (.istore 7, 2) := by decide +kernel
theorem dd_C_test_47 : decode bb_C_test 47 = .ok (.iload 7, 2) := by decide +kernel
theorem dd_C_test_49 : decode bb_C_test 49 = .ok (.ifCond .lt 13, 3) := by decide +kernel
theorem dd_C_test_52 : decode bb_C_test 52 = .ok (.iload 7, 2) := by decide +kernel
theorem dd_C_test_54 : decode bb_C_test 54 = .ok (.aload_n 0, 1) := by decide +kernel
theorem dd_C_test_55 : decode bb_C_test 55 = .ok (.getfield 17, 3) := by decide +kernel
theorem dd_C_test_58 : decode bb_C_test 58 = .ok (.arraylength, 1) := by decide +kernel
theorem dd_C_test_59 : decode bb_C_test 59 = .ok (.if_icmp .lt 13, 3) := by decide +kernel
theorem dd_C_test_62 : decode bb_C_test 62 = .ok (.new 65, 3) := by decide +kernel
theorem dd_C_test_65 : decode bb_C_test 65 = .ok (.dup, 1) := by decide +kernel
theorem dd_C_test_66 : decode bb_C_test 66 = .ok (.ldc 91, 2) := by decide +kernel
theorem dd_C_test_68 : decode bb_C_test 68 = .ok (.invokespecial 69, 3) := by decide +kernel
theorem dd_C_test_71 : decode bb_C_test 71 = .ok (.athrow, 1) := by decide +kernel
theorem dd_C_test_72 : decode bb_C_test 72 = .ok (.new 15, 3) := by decide +kernel
theorem dd_C_test_75 : decode bb_C_test 75 = .ok (.dup, 1) := by decide +kernel
theorem dd_C_test_76 : decode bb_C_test 76 = .ok (.iload 7, 2) := by decide +kernel
theorem dd_C_test_78 : decode bb_C_test 78 = .ok (.iload_n 1, 1) := by decide +kernel
theorem dd_C_test_79 : decode bb_C_test 79 = .ok (.iload_n 2, 1) := by decide +kernel
theorem dd_C_test_80 : decode bb_C_test 80 = .ok (.iload_n 3, 1) := by decide +kernel
theorem dd_C_test_81 : decode bb_C_test 81 = .ok (.iload 4, 2) := by decide +kernel
theorem dd_C_test_83 : decode bb_C_test 83 = .ok (.iload 5, 2) := by decide +kernel
theorem dd_C_test_85 : decode bb_C_test 85 = .ok (.invokespecial 93, 3) := by decide +kernel
theorem dd_C_test_88 : decode bb_C_test 88 = .ok (.astore 8, 2) := by decide +kernel
theorem dd_C_test_90 : decode bb_C_test 90 = .ok (.aload_n 0, 1) := by decide +kernel
theorem dd_C_test_91 : decode bb_C_test 91 = .ok (.getfield 17, 3) := by decide +kernel
theorem dd_C_test_94 : decode bb_C_test 94 = .ok (.iload 7, 2) := by decide +kernel
theorem dd_C_test_96 : decode bb_C_test 96 = .ok (.aload 8, 2) := by decide +kernel
theorem dd_C_test_98 : decode bb_C_test 98 = .ok (.aastore, 1) := by decide +kernel
theorem dd_C_test_99 : decode bb_C_test 99 = .ok (.aload_n 0, 1) := by decide +kernel
theorem dd_C_test_100 : decode bb_C_test 100 = .ok (.iload 7, 2) := by decide +kernel
theorem dd_C_test_102 : decode bb_C_test 102 = .ok (.iconst 1, 1) := by decide +kernel
theorem dd_C_test_103 : decode bb_C_test 103 = .ok (.iadd, 1) := by decide +kernel
theorem dd_C_test_104 : decode bb_C_test 104 = .ok (.putfield 43, 3) := by decide +kernel
theorem dd_C_test_107 : decode bb_C_test 107 = .ok (.aload 6, 2) := by decide +kernel
theorem dd_C_test_109 : decode bb_C_test 109 = .ok (.aload 8, 2) := by decide +kernel
theorem dd_C_test_111 : decode bb_C_test 111 = .ok (.invokevirtual 96, 3) := by decide +kernel
theorem dd_C_test_114 : decode bb_C_test 114 = .ok (.iload 7, 2) := by decide +kernel
theorem dd_C_test_116 : decode bb_C_test 116 = .ok (.ireturn, 1) := by decide +kernel
theorem dd_C_flow_0 : decode bb_C_flow 0 = .ok (.aload_n 0, 1) := by decide +kernel
theorem dd_C_flow_1 : decode bb_C_flow 1 = .ok (.iload_n 1, 1) := by decide +kernel
theorem dd_C_flow_2 : decode bb_C_flow 2 = .ok (.invokevirtual 76, 3) := by decide +kernel
theorem dd_C_flow_5 : decode bb_C_flow 5 = .ok (.astore 4, 2) := by decide +kernel
theorem dd_C_flow_7 : decode bb_C_flow 7 = .ok (.iload_n 3, 1) := by decide +kernel
theorem dd_C_flow_8 : decode bb_C_flow 8 = .ok (.ifCond .lt 8, 3) := by decide +kernel
theorem dd_C_flow_11 : decode bb_C_flow 11 = .ok (.iload_n 3, 1) := by decide +kernel
theorem dd_C_flow_12 : decode bb_C_flow 12 = .ok (.iconst 1, 1) := by decide +kernel
theorem dd_C_flow_13 : decode bb_C_flow 13 = .ok (.if_icmp .le 13, 3) := by decide +kernel
theorem dd_C_flow_16 : decode bb_C_flow 16 = .ok (.new 54, 3) := by decide +kernel
theorem dd_C_flow_19 : decode bb_C_flow 19 = .ok (.dup, 1) := by decide +kernel
theorem dd_C_flow_20 : decode bb_C_flow 20 = .ok (.ldc 100, 2) := by decide +kernel
theorem dd_C_flow_22 : decode bb_C_flow 22 = .ok (.invokespecial 58, 3) := by decide +kernel
theorem dd_C_flow_25 : decode bb_C_flow 25 = .ok (.athrow, 1) := by decide +kernel
theorem dd_C_flow_26 : decode bb_C_flow 26 = .ok (.iload_n 2, 1) := by decide +kernel
theorem dd_C_flow_27 : decode bb_C_flow 27 = .ok (.invokestatic 83, 3) := by decide +kernel
theorem dd_C_flow_30 : decode bb_C_flow 30 = .ok (.aload 4, 2) := by decide +kernel
theorem dd_C_flow_32 : decode bb_C_flow 32 = .ok (.invokestatic 102, 3) := by decide +kernel
theorem dd_C_flow_35 : decode bb_C_flow 35 = .ok (.astore 5, 2) := by decide +kernel
theorem dd_C_flow_37 : decode bb_C_flow 37 = .ok (.aload 5, 2) := by decide +kernel
theorem dd_C_flow_39 : decode bb_C_flow 39 = .ok (.iload_n 2, 1) := by decide +kernel
theorem dd_C_flow_40 : decode bb_C_flow 40 = .ok (.invokestatic 106, 3) := by decide +kernel
theorem dd_C_flow_43 : decode bb_C_flow 43 = .ok (.aload 5, 2) := by decide +kernel
theorem dd_C_flow_45 : decode bb_C_flow 45 = .ok (.iload_n 2, 1) := by decide +kernel
theorem dd_C_flow_46 : decode bb_C_flow 46 = .ok (.invokevirtual 110, 3) := by decide +kernel
theorem dd_C_flow_49 : decode bb_C_flow 49 = .ok (.istore 6, 2) := by decide +kernel
theorem dd_C_flow_51 : decode bb_C_flow 51 = .ok (.aload 5, 2) := by decide +kernel
theorem dd_C_flow_53 : decode bb_C_flow 53 = .ok (.iload_n 2, 1) := by decide +kernel
theorem dd_C_flow_54 : decode bb_C_flow 54 = .ok (.invokevirtual 114, 3) := by decide +kernel
theorem dd_C_flow_57 : decode bb_C_flow 57 = .ok (.istore 7, 2) := by decide +kernel
theorem dd_C_flow_59 : decode bb_C_flow 59 = .ok (.iload_n 3, 1) := by decide +kernel
theorem dd_C_flow_60 : decode bb_C_flow 60 = .ok (.ifCond .ne 8, 3) := by decide +kernel
theorem dd_C_flow_63 : decode bb_C_flow 63 = .ok (.iload 6, 2) := by decide +kernel
theorem dd_C_flow_65 : decode bb_C_flow 65 = .ok (.goto 5, 3) := by decide +kernel
theorem dd_C_flow_68 : decode bb_C_flow 68 = .ok (.iload 7, 2) := by decide +kernel
theorem dd_C_flow_70 : decode bb_C_flow 70 = .ok (.iconst 1, 1) := by decide +kernel
theorem dd_C_flow_71 : decode bb_C_flow 71 = .ok (.iload 6, 2) := by decide +kernel
theorem dd_C_flow_73 : decode bb_C_flow 73 = .ok (.iload 7, 2) := by decide +kernel
theorem dd_C_flow_75 : decode bb_C_flow 75 = .ok (.invokestatic 117, 3) := by decide +kernel
theorem dd_C_flow_78 : decode bb_C_flow 78 = .ok (.invokestatic 121, 3) := by decide +kernel
theorem dd_C_flow_81 : decode bb_C_flow 81 = .ok (.idiv, 1) := by decide +kernel
theorem dd_C_flow_82 : decode bb_C_flow 82 = .ok (.ireturn, 1) := by decide +kernel
theorem dd_C_sort_0 : decode bb_C_sort 0 = .ok (.aload_n 0, 1) := by decide +kernel
theorem dd_C_sort_1 : decode bb_C_sort 1 = .ok (.iload_n 1, 1) := by decide +kernel
theorem dd_C_sort_2 : decode bb_C_sort 2 = .ok (.invokevirtual 76, 3) := by decide +kernel
theorem dd_C_sort_5 : decode bb_C_sort 5 = .ok (.invokestatic 102, 3) := by decide +kernel
theorem dd_C_sort_8 : decode bb_C_sort 8 = .ok (.astore_n 2, 1) := by decide +kernel
theorem dd_C_sort_9 : decode bb_C_sort 9 = .ok (.aload_n 2, 1) := by decide +kernel
theorem dd_C_sort_10 : decode bb_C_sort 10 = .ok (.sipush 200, 3) := by decide +kernel
theorem dd_C_sort_13 : decode bb_C_sort 13 = .ok (.invokestatic 106, 3) := by decide +kernel
theorem dd_C_sort_16 : decode bb_C_sort 16 = .ok (.aload_n 2, 1) := by decide +kernel
theorem dd_C_sort_17 : decode bb_C_sort 17 = .ok (.sipush 200, 3) := by decide +kernel
theorem dd_C_sort_20 : decode bb_C_sort 20 = .ok (.invokevirtual 126, 3) := by decide +kernel
theorem dd_C_sort_23 : decode bb_C_sort 23 = .ok (.sipush 500, 3) := by decide +kernel
theorem dd_C_sort_26 : decode bb_C_sort 26 = .ok (.idiv, 1) := by decide +kernel
theorem dd_C_sort_27 : decode bb_C_sort 27 = .ok (.iconst 3, 1) := by decide +kernel
theorem dd_C_sort_28 : decode bb_C_sort 28 = .ok (.invokestatic 129, 3) := by decide +kernel
theorem dd_C_sort_31 : decode bb_C_sort 31 = .ok (.ireturn, 1) := by decide +kernel
theorem dd_C_defect_0 : decode bb_C_defect 0 = .ok (.aload_n 0, 1) := by decide +kernel
theorem dd_C_defect_1 : decode bb_C_defect 1 = .ok (.iload_n 1, 1) := by decide +kernel
theorem dd_C_defect_2 : decode bb_C_defect 2 = .ok (.invokevirtual 76, 3) := by decide +kernel
theorem dd_C_defect_5 : decode bb_C_defect 5 = .ok (.astore_n 3, 1) := by decide +kernel
theorem dd_C_defect_6 : decode bb_C_defect 6 = .ok (.iload_n 2, 1) := by decide +kernel
theorem dd_C_defect_7 : decode bb_C_defect 7 = .ok (.ifCond .lt 8, 3) := by decide +kernel
theorem dd_C_defect_10 : decode bb_C_defect 10 = .ok (.iload_n 2, 1) := by decide +kernel
theorem dd_C_defect_11 : decode bb_C_defect 11 = .ok (.iconst 2, 1) := by decide +kernel
theorem dd_C_defect_12 : decode bb_C_defect 12 = .ok (.if_icmp .le 13, 3) := by decide +kernel
theorem dd_C_defect_15 : decode bb_C_defect 15 = .ok (.new 132, 3) := by decide +kernel
theorem dd_C_defect_18 : decode bb_C_defect 18 = .ok (.dup, 1) := by decide +kernel
theorem dd_C_defect_19 : decode bb_C_defect 19 = .ok (.ldc 134, 2) := by decide +kernel
theorem dd_C_defect_21 : decode bb_C_defect 21 = .ok (.invokespecial 136, 3) := by decide +kernel
theorem dd_C_defect_24 : decode bb_C_defect 24 = .ok (.athrow, 1) := by decide +kernel
theorem dd_C_defect_25 : decode bb_C_defect 25 = .ok (.aload_n 3, 1) := by decide +kernel
theorem dd_C_defect_26 : decode bb_C_defect 26 = .ok (.iload_n 2, 1) := by decide +kernel
theorem dd_C_defect_27 : decode bb_C_defect 27 = .ok (.putfield 137, 3) := by decide +kernel
theorem dd_C_defect_30 : decode bb_C_defect 30 = .ok (.return_, 1) := by decide +kernel
theorem dd_C_works_0 : decode bb_C_works 0 = .ok (.aload_n 0, 1) := by decide +kernel
theorem dd_C_works_1 : decode bb_C_works 1 = .ok (.iload_n 1, 1) := by decide +kernel
theorem dd_C_works_2 : decode bb_C_works 2 = .ok (.invokevirtual 76, 3) := by decide +kernel
theorem dd_C_works_5 : decode bb_C_works 5 = .ok (.astore 4, 2) := by decide +kernel
theorem dd_C_works_7 : decode bb_C_works 7 = .ok (.iload_n 2, 1) := by decide +kernel
theorem dd_C_works_8 : decode bb_C_works 8 = .ok (.invokestatic 80, 3) := by decide +kernel
theorem dd_C_works_11 : decode bb_C_works 11 = .ok (.iload_n 3, 1) := by decide +kernel
theorem dd_C_works_12 : decode bb_C_works 12 = .ok (.invokestatic 80, 3) := by decide +kernel
theorem dd_C_works_15 : decode bb_C_works 15 = .ok (.iload_n 3, 1) := by decide +kernel
theorem dd_C_works_16 : decode bb_C_works 16 = .ok (.iload_n 2, 1) := by decide +kernel
theorem dd_C_works_17 : decode bb_C_works 17 = .ok (.if_icmp .ge 13, 3) := by decide +kernel
theorem dd_C_works_20 : decode bb_C_works 20 = .ok (.new 132, 3) := by decide +kernel
theorem dd_C_works_23 : decode bb_C_works 23 = .ok (.dup, 1) := by decide +kernel
theorem dd_C_works_24 : decode bb_C_works 24 = .ok (.ldc 140, 2) := by decide +kernel
theorem dd_C_works_26 : decode bb_C_works 26 = .ok (.invokespecial 136, 3) := by decide +kernel
theorem dd_C_works_29 : decode bb_C_works 29 = .ok (.athrow, 1) := by decide +kernel
theorem dd_C_works_30 : decode bb_C_works 30 = .ok (.aload 4, 2) := by decide +kernel
theorem dd_C_works_32 : decode bb_C_works 32 = .ok (.iload_n 2, 1) := by decide +kernel
theorem dd_C_works_33 : decode bb_C_works 33 = .ok (.iload_n 3, 1) := by decide +kernel
theorem dd_C_works_34 : decode bb_C_works 34 = .ok (.invokevirtual 142, 3) := by decide +kernel
theorem dd_C_works_37 : decode bb_C_works 37 = .ok (.ifCond .eq 13, 3) := by decide +kernel
theorem dd_C_works_40 : decode bb_C_works 40 = .ok (.new 86, 3) := by decide +kernel
theorem dd_C_works_43 : decode bb_C_works 43 = .ok (.dup, 1) := by decide +kernel
theorem dd_C_works_44 : decode bb_C_works 44 = .ok (.ldc 146, 2) := by decide +kernel
theorem dd_C_works_46 : decode bb_C_works 46 = .ok (.invokespecial 90, 3) := by decide +kernel
theorem dd_C_works_49 : decode bb_C_works 49 = .ok (.athrow, 1) := by decide +kernel
theorem dd_C_works_50 : decode bb_C_works 50 = .ok (.aload 4, 2) := by decide +kernel
theorem dd_C_works_52 : decode bb_C_works 52 = .ok (.iload_n 2, 1) := by decide +kernel
theorem dd_C_works_53 : decode bb_C_works 53 = .ok (.iload_n 3, 1) := by decide +kernel
theorem dd_C_works_54 : decode bb_C_works 54 = .ok (.invokevirtual 148, 3) := by decide +kernel
theorem dd_C_works_57 : decode bb_C_works 57 = .ok (.ifCond .ne 13, 3) := by decide +kernel
theorem dd_C_works_60 : decode bb_C_works 60 = .ok (.new 65, 3) := by decide +kernel
theorem dd_C_works_63 : decode bb_C_works 63 = .ok (.dup, 1) := by decide +kernel
theorem dd_C_works_64 : decode bb_C_works 64 = .ok (.ldc 151, 2) := by decide +kernel
theorem dd_C_works_66 : decode bb_C_works 66 = .ok (.invokespecial 69, 3) := by decide +kernel
theorem dd_C_works_69 : decode bb_C_works 69 = .ok (.athrow, 1) := by decide +kernel
theorem dd_C_works_70 : decode bb_C_works 70 = .ok (.return_, 1) := by decide +kernel
theorem dd_C_season_0 : decode bb_C_season 0 = .ok (.aload_n 0, 1) := by decide +kernel
theorem dd_C_season_1 : decode bb_C_season 1 = .ok (.iload_n 1, 1) := by decide +kernel
theorem dd_C_season_2 : decode bb_C_season 2 = .ok (.invokevirtual 76, 3) := by decide +kernel
theorem dd_C_season_5 : decode bb_C_season 5 = .ok (.astore 4, 2) := by decide +kernel
theorem dd_C_season_7 : decode bb_C_season 7 = .ok (.iload_n 2, 1) := by decide +kernel
theorem dd_C_season_8 : decode bb_C_season 8 = .ok (.ifCond .lt 9, 3) := by decide +kernel
theorem dd_C_season_11 : decode bb_C_season 11 = .ok (.iload_n 2, 1) := by decide +kernel
theorem dd_C_season_12 : decode bb_C_season 12 = .ok (.bipush 12, 2) := by decide +kernel
theorem dd_C_season_14 : decode bb_C_season 14 = .ok (.if_icmp .lt 13, 3) := by decide +kernel
theorem dd_C_season_17 : decode bb_C_season 17 = .ok (.new 132, 3) := by decide +kernel
theorem dd_C_season_20 : decode bb_C_season 20 = .ok (.dup, 1) := by decide +kernel
theorem dd_C_season_21 : decode bb_C_season 21 = .ok (.ldc 153, 2) := by decide +kernel
theorem dd_C_season_23 : decode bb_C_season 23 = .ok (.invokespecial 136, 3) := by decide +kernel
theorem dd_C_season_26 : decode bb_C_season 26 = .ok (.athrow, 1) := by decide +kernel
theorem dd_C_season_27 : decode bb_C_season 27 = .ok (.aload 4, 2) := by decide +kernel
theorem dd_C_season_29 : decode bb_C_season 29 = .ok (.getfield 155, 3) := by decide +kernel
theorem dd_C_season_32 : decode bb_C_season 32 = .ok (.iconst 2, 1) := by decide +kernel
theorem dd_C_season_33 : decode bb_C_season 33 = .ok (.if_icmp .eq 13, 3) := by decide +kernel
theorem dd_C_season_36 : decode bb_C_season 36 = .ok (.new 86, 3) := by decide +kernel
theorem dd_C_season_39 : decode bb_C_season 39 = .ok (.dup, 1) := by decide +kernel
theorem dd_C_season_40 : decode bb_C_season 40 = .ok (.ldc 158, 2) := by decide +kernel
theorem dd_C_season_42 : decode bb_C_season 42 = .ok (.invokespecial 90, 3) := by decide +kernel
theorem dd_C_season_45 : decode bb_C_season 45 = .ok (.athrow, 1) := by decide +kernel
theorem dd_C_season_46 : decode bb_C_season 46 = .ok (.aload 4, 2) := by decide +kernel
theorem dd_C_season_48 : decode bb_C_season 48 = .ok (.iload_n 2, 1) := by decide +kernel
theorem dd_C_season_49 : decode bb_C_season 49 = .ok (.iload_n 3, 1) := by decide +kernel
theorem dd_C_season_50 : decode bb_C_season 50 = .ok (.invokevirtual 160, 3) := by decide +kernel
theorem dd_C_season_53 : decode bb_C_season 53 = .ok (.return_, 1) := by decide +kernel
theorem dd_C_usable_0 : decode bb_C_usable 0 = .ok (.aload_n 0, 1) := by decide +kernel
theorem dd_C_usable_1 : decode bb_C_usable 1 = .ok (.iload_n 1, 1) := by decide +kernel
theorem dd_C_usable_2 : decode bb_C_usable 2 = .ok (.invokevirtual 76, 3) := by decide +kernel
theorem dd_C_usable_5 : decode bb_C_usable 5 = .ok (.astore_n 3, 1) := by decide +kernel
theorem dd_C_usable_6 : decode bb_C_usable 6 = .ok (.iload_n 2, 1) := by decide +kernel
theorem dd_C_usable_7 : decode bb_C_usable 7 = .ok (.invokestatic 80, 3) := by decide +kernel
theorem dd_C_usable_10 : decode bb_C_usable 10 = .ok (.aload_n 3, 1) := by decide +kernel
theorem dd_C_usable_11 : decode bb_C_usable 11 = .ok (.iload_n 2, 1) := by decide +kernel
theorem dd_C_usable_12 : decode bb_C_usable 12 = .ok (.aload_n 0, 1) := by decide +kernel
theorem dd_C_usable_13 : decode bb_C_usable 13 = .ok (.getfield 46, 3) := by decide +kernel
theorem dd_C_usable_16 : decode bb_C_usable 16 = .ok (.invokevirtual 164, 3) := by decide +kernel
theorem dd_C_usable_19 : decode bb_C_usable 19 = .ok (.ireturn, 1) := by decide +kernel
theorem dd_C_near_0 : decode bb_C_near 0 = .ok (.iload_n 1, 1) := by decide +kernel
theorem dd_C_near_1 : decode bb_C_near 1 = .ok (.iload_n 2, 1) := by decide +kernel
theorem dd_C_near_2 : decode bb_C_near 2 = .ok (.invokestatic 61, 3) := by decide +kernel
theorem dd_C_near_5 : decode bb_C_near 5 = .ok (.iload_n 3, 1) := by decide +kernel
theorem dd_C_near_6 : decode bb_C_near 6 = .ok (.invokestatic 80, 3) := by decide +kernel
theorem dd_C_near_9 : decode bb_C_near 9 = .ok (.iload 4, 2) := by decide +kernel
theorem dd_C_near_11 : decode bb_C_near 11 = .ok (.invokestatic 168, 3) := by decide +kernel
theorem dd_C_near_14 : decode bb_C_near 14 = .ok (.aload_n 0, 1) := by decide +kernel
theorem dd_C_near_15 : decode bb_C_near 15 = .ok (.getfield 28, 3) := by decide +kernel
theorem dd_C_near_18 : decode bb_C_near 18 = .ok (.invokevirtual 171, 3) := by decide +kernel
theorem dd_C_near_21 : decode bb_C_near 21 = .ok (.aload_n 0, 1) := by decide +kernel
theorem dd_C_near_22 : decode bb_C_near 22 = .ok (.getfield 11, 3) := by decide +kernel
theorem dd_C_near_25 : decode bb_C_near 25 = .ok (.astore 5, 2) := by decide +kernel
theorem dd_C_near_27 : decode bb_C_near 27 = .ok (.aload 5, 2) := by decide +kernel
theorem dd_C_near_29 : decode bb_C_near 29 = .ok (.arraylength, 1) := by decide +kernel
theorem dd_C_near_30 : decode bb_C_near 30 = .ok (.istore 6, 2) := by decide +kernel
theorem dd_C_near_32 : decode bb_C_near 32 = .ok (.iconst 0, 1) := by decide +kernel
theorem dd_C_near_33 : decode bb_C_near 33 = .ok (.istore 7, 2) := by decide +kernel
theorem dd_C_near_35 : decode bb_C_near 35 = .ok (.iload 7, 2) := by decide +kernel
theorem dd_C_near_37 : decode bb_C_near 37 = .ok (.iload 6, 2) := by decide +kernel
theorem dd_C_near_39 : decode bb_C_near 39 = .ok (.if_icmp .ge 53, 3) := by decide +kernel
theorem dd_C_near_42 : decode bb_C_near 42 = .ok (.aload 5, 2) := by decide +kernel
theorem dd_C_near_44 : decode bb_C_near 44 = .ok (.iload 7, 2) := by decide +kernel
theorem dd_C_near_46 : decode bb_C_near 46 = .ok (.aaload, 1) := by decide +kernel
theorem dd_C_near_47 : decode bb_C_near 47 = .ok (.astore 8, 2) := by decide +kernel
theorem dd_C_near_49 : decode bb_C_near 49 = .ok (.aload 8, 2) := by decide +kernel
theorem dd_C_near_51 : decode bb_C_near 51 = .ok (.ifnull 35, 3) := by decide +kernel
theorem dd_C_near_54 : decode bb_C_near 54 = .ok (.aload 8, 2) := by decide +kernel
theorem dd_C_near_56 : decode bb_C_near 56 = .ok (.iload_n 3, 1) := by decide +kernel
theorem dd_C_near_57 : decode bb_C_near 57 = .ok (.aload_n 0, 1) := by decide +kernel
theorem dd_C_near_58 : decode bb_C_near 58 = .ok (.getfield 46, 3) := by decide +kernel
theorem dd_C_near_61 : decode bb_C_near 61 = .ok (.invokevirtual 164, 3) := by decide +kernel
theorem dd_C_near_64 : decode bb_C_near 64 = .ok (.ifCond .eq 22, 3) := by decide +kernel
theorem dd_C_near_67 : decode bb_C_near 67 = .ok (.aload_n 0, 1) := by decide +kernel
theorem dd_C_near_68 : decode bb_C_near 68 = .ok (.getfield 28, 3) := by decide +kernel
theorem dd_C_near_71 : decode bb_C_near 71 = .ok (.aload 8, 2) := by decide +kernel
theorem dd_C_near_73 : decode bb_C_near 73 = .ok (.iload_n 1, 1) := by decide +kernel
theorem dd_C_near_74 : decode bb_C_near 74 = .ok (.iload_n 2, 1) := by decide +kernel
theorem dd_C_near_75 : decode bb_C_near 75 = .ok (.invokevirtual 174, 3) := by decide +kernel
theorem dd_C_near_78 : decode bb_C_near 78 = .ok (.aload 8, 2) := by decide +kernel
theorem dd_C_near_80 : decode bb_C_near 80 = .ok (.getfield 177, 3) := by decide +kernel
theorem dd_C_near_83 : decode bb_C_near 83 = .ok (.invokevirtual 180, 3) := by decide +kernel
theorem dd_C_near_86 : decode bb_C_near 86 = .ok (.iinc 7 1, 3) := by decide +kernel
theorem dd_C_near_89 : decode bb_C_near 89 = .ok (.goto (-54), 3) := by decide +kernel
theorem dd_C_near_92 : decode bb_C_near 92 = .ok (.aload_n 0, 1) := by decide +kernel
theorem dd_C_near_93 : decode bb_C_near 93 = .ok (.getfield 28, 3) := by decide +kernel
theorem dd_C_near_96 : decode bb_C_near 96 = .ok (.iload 4, 2) := by decide +kernel
theorem dd_C_near_98 : decode bb_C_near 98 = .ok (.invokevirtual 183, 3) := by decide +kernel
theorem dd_C_near_101 : decode bb_C_near 101 = .ok (.ireturn, 1) := by decide +kernel
theorem dd_C_both_0 : decode bb_C_both 0 = .ok (.aload_n 0, 1) := by decide +kernel
theorem dd_C_both_1 : decode bb_C_both 1 = .ok (.iload_n 1, 1) := by decide +kernel
theorem dd_C_both_2 : decode bb_C_both 2 = .ok (.invokevirtual 76, 3) := by decide +kernel
theorem dd_C_both_5 : decode bb_C_both 5 = .ok (.astore 4, 2) := by decide +kernel
theorem dd_C_both_7 : decode bb_C_both 7 = .ok (.aload_n 0, 1) := by decide +kernel
theorem dd_C_both_8 : decode bb_C_both 8 = .ok (.iload_n 2, 1) := by decide +kernel
theorem dd_C_both_9 : decode bb_C_both 9 = .ok (.invokevirtual 76, 3) := by decide +kernel
theorem dd_C_both_12 : decode bb_C_both 12 = .ok (.astore 5, 2) := by decide +kernel
theorem dd_C_both_14 : decode bb_C_both 14 = .ok (.iload_n 1, 1) := by decide +kernel
theorem dd_C_both_15 : decode bb_C_both 15 = .ok (.iload_n 2, 1) := by decide +kernel
theorem dd_C_both_16 : decode bb_C_both 16 = .ok (.if_icmp .ne 13, 3) := by decide +kernel
theorem dd_C_both_19 : decode bb_C_both 19 = .ok (.new 54, 3) := by decide +kernel
theorem dd_C_both_22 : decode bb_C_both 22 = .ok (.dup, 1) := by decide +kernel
theorem dd_C_both_23 : decode bb_C_both 23 = .ok (.ldc 186, 2) := by decide +kernel
theorem dd_C_both_25 : decode bb_C_both 25 = .ok (.invokespecial 58, 3) := by decide +kernel
theorem dd_C_both_28 : decode bb_C_both 28 = .ok (.athrow, 1) := by decide +kernel
theorem dd_C_both_29 : decode bb_C_both 29 = .ok (.iload_n 3, 1) := by decide +kernel
theorem dd_C_both_30 : decode bb_C_both 30 = .ok (.invokestatic 83, 3) := by decide +kernel
theorem dd_C_both_33 : decode bb_C_both 33 = .ok (.aload 4, 2) := by decide +kernel
theorem dd_C_both_35 : decode bb_C_both 35 = .ok (.invokestatic 102, 3) := by decide +kernel
theorem dd_C_both_38 : decode bb_C_both 38 = .ok (.astore 6, 2) := by decide +kernel
theorem dd_C_both_40 : decode bb_C_both 40 = .ok (.aload 5, 2) := by decide +kernel
theorem dd_C_both_42 : decode bb_C_both 42 = .ok (.invokestatic 102, 3) := by decide +kernel
theorem dd_C_both_45 : decode bb_C_both 45 = .ok (.astore 7, 2) := by decide +kernel
theorem dd_C_both_47 : decode bb_C_both 47 = .ok (.aload 6, 2) := by decide +kernel
theorem dd_C_both_49 : decode bb_C_both 49 = .ok (.iload_n 3, 1) := by decide +kernel
theorem dd_C_both_50 : decode bb_C_both 50 = .ok (.invokestatic 106, 3) := by decide +kernel
theorem dd_C_both_53 : decode bb_C_both 53 = .ok (.aload 7, 2) := by decide +kernel
theorem dd_C_both_55 : decode bb_C_both 55 = .ok (.iload_n 3, 1) := by decide +kernel
theorem dd_C_both_56 : decode bb_C_both 56 = .ok (.invokestatic 106, 3) := by decide +kernel
theorem dd_C_both_59 : decode bb_C_both 59 = .ok (.aload 6, 2) := by decide +kernel
theorem dd_C_both_61 : decode bb_C_both 61 = .ok (.iload_n 3, 1) := by decide +kernel
theorem dd_C_both_62 : decode bb_C_both 62 = .ok (.invokevirtual 126, 3) := by decide +kernel
theorem dd_C_both_65 : decode bb_C_both 65 = .ok (.aload 7, 2) := by decide +kernel
theorem dd_C_both_67 : decode bb_C_both 67 = .ok (.iload_n 3, 1) := by decide +kernel
theorem dd_C_both_68 : decode bb_C_both 68 = .ok (.invokevirtual 126, 3) := by decide +kernel
theorem dd_C_both_71 : decode bb_C_both 71 = .ok (.iadd, 1) := by decide +kernel
theorem dd_C_both_72 : decode bb_C_both 72 = .ok (.istore 8, 2) := by decide +kernel
theorem dd_C_both_74 : decode bb_C_both 74 = .ok (.aload 4, 2) := by decide +kernel
theorem dd_C_both_76 : decode bb_C_both 76 = .ok (.getfield 188, 3) := by decide +kernel
theorem dd_C_both_79 : decode bb_C_both 79 = .ok (.aload 5, 2) := by decide +kernel
theorem dd_C_both_81 : decode bb_C_both 81 = .ok (.getfield 188, 3) := by decide +kernel
theorem dd_C_both_84 : decode bb_C_both 84 = .ok (.if_icmp .ne 24, 3) := by decide +kernel
theorem dd_C_both_87 : decode bb_C_both 87 = .ok (.iload 8, 2) := by decide +kernel
theorem dd_C_both_89 : decode bb_C_both 89 = .ok (.iconst 3, 1) := by decide +kernel
theorem dd_C_both_90 : decode bb_C_both 90 = .ok (.imul, 1) := by decide +kernel
theorem dd_C_both_91 : decode bb_C_both 91 = .ok (.iconst 4, 1) := by decide +kernel
theorem dd_C_both_92 : decode bb_C_both 92 = .ok (.idiv, 1) := by decide +kernel
theorem dd_C_both_93 : decode bb_C_both 93 = .ok (.aload_n 0, 1) := by decide +kernel
theorem dd_C_both_94 : decode bb_C_both 94 = .ok (.aload 4, 2) := by decide +kernel
theorem dd_C_both_96 : decode bb_C_both 96 = .ok (.getfield 188, 3) := by decide +kernel
theorem dd_C_both_99 : decode bb_C_both 99 = .ok (.invokevirtual 191, 3) := by decide +kernel
theorem dd_C_both_102 : decode bb_C_both 102 = .ok (.invokestatic 129, 3) := by decide +kernel
theorem dd_C_both_105 : decode bb_C_both 105 = .ok (.goto 5, 3) := by decide +kernel
theorem dd_C_both_108 : decode bb_C_both 108 = .ok (.iload 8, 2) := by decide +kernel
theorem dd_C_both_110 : decode bb_C_both 110 = .ok (.ireturn, 1) := by decide +kernel
theorem dd_C_supply_0 : decode bb_C_supply 0 = .ok (.iload_n 1, 1) := by decide +kernel
theorem dd_C_supply_1 : decode bb_C_supply 1 = .ok (.iload_n 2, 1) := by decide +kernel
theorem dd_C_supply_2 : decode bb_C_supply 2 = .ok (.invokestatic 61, 3) := by decide +kernel
theorem dd_C_supply_5 : decode bb_C_supply 5 = .ok (.iload_n 3, 1) := by decide +kernel
theorem dd_C_supply_6 : decode bb_C_supply 6 = .ok (.invokestatic 80, 3) := by decide +kernel
theorem dd_C_supply_9 : decode bb_C_supply 9 = .ok (.iload 4, 2) := by decide +kernel
theorem dd_C_supply_11 : decode bb_C_supply 11 = .ok (.invokestatic 83, 3) := by decide +kernel
theorem dd_C_supply_14 : decode bb_C_supply 14 = .ok (.iload 5, 2) := by decide +kernel
theorem dd_C_supply_16 : decode bb_C_supply 16 = .ok (.ifCond .lt 10, 3) := by decide +kernel
theorem dd_C_supply_19 : decode bb_C_supply 19 = .ok (.iload 5, 2) := by decide +kernel
theorem dd_C_supply_21 : decode bb_C_supply 21 = .ok (.ldc 194, 2) := by decide +kernel
theorem dd_C_supply_23 : decode bb_C_supply 23 = .ok (.if_icmp .le 13, 3) := by decide +kernel
theorem dd_C_supply_26 : decode bb_C_supply 26 = .ok (.new 132, 3) := by decide +kernel
theorem dd_C_supply_29 : decode bb_C_supply 29 = .ok (.dup, 1) := by decide +kernel
theorem dd_C_supply_30 : decode bb_C_supply 30 = .ok (.ldc 195, 2) := by decide +kernel
theorem dd_C_supply_32 : decode bb_C_supply 32 = .ok (.invokespecial 136, 3) := by decide +kernel
theorem dd_C_supply_35 : decode bb_C_supply 35 = .ok (.athrow, 1) := by decide +kernel
theorem dd_C_supply_36 : decode bb_C_supply 36 = .ok (.iconst 0, 1) := by decide +kernel
theorem dd_C_supply_37 : decode bb_C_supply 37 = .ok (.istore 6, 2) := by decide +kernel
theorem dd_C_supply_39 : decode bb_C_supply 39 = .ok (.iconst 0, 1) := by decide +kernel
theorem dd_C_supply_40 : decode bb_C_supply 40 = .ok (.istore 7, 2) := by decide +kernel
theorem dd_C_supply_42 : decode bb_C_supply 42 = .ok (.iload 7, 2) := by decide +kernel
theorem dd_C_supply_44 : decode bb_C_supply 44 = .ok (.aload_n 0, 1) := by decide +kernel
theorem dd_C_supply_45 : decode bb_C_supply 45 = .ok (.getfield 21, 3) := by decide +kernel
theorem dd_C_supply_48 : decode bb_C_supply 48 = .ok (.arraylength, 1) := by decide +kernel
theorem dd_C_supply_49 : decode bb_C_supply 49 = .ok (.if_icmp .ge 37, 3) := by decide +kernel
theorem dd_C_supply_52 : decode bb_C_supply 52 = .ok (.iload 6, 2) := by decide +kernel
theorem dd_C_supply_54 : decode bb_C_supply 54 = .ok (.aload_n 0, 1) := by decide +kernel
theorem dd_C_supply_55 : decode bb_C_supply 55 = .ok (.iload 7, 2) := by decide +kernel
theorem dd_C_supply_57 : decode bb_C_supply 57 = .ok (.iload_n 1, 1) := by decide +kernel
theorem dd_C_supply_58 : decode bb_C_supply 58 = .ok (.iload_n 2, 1) := by decide +kernel
theorem dd_C_supply_59 : decode bb_C_supply 59 = .ok (.iload_n 3, 1) := by decide +kernel
theorem dd_C_supply_60 : decode bb_C_supply 60 = .ok (.iload 4, 2) := by decide +kernel
theorem dd_C_supply_62 : decode bb_C_supply 62 = .ok (.iload 5, 2) := by decide +kernel
theorem dd_C_supply_64 : decode bb_C_supply 64 = .ok (.invokevirtual 197, 3) := by decide +kernel
theorem dd_C_supply_67 : decode bb_C_supply 67 = .ok (.aload_n 0, 1) := by decide +kernel
theorem dd_C_supply_68 : decode bb_C_supply 68 = .ok (.getfield 21, 3) := by decide +kernel
theorem dd_C_supply_71 : decode bb_C_supply 71 = .ok (.iload 7, 2) := by decide +kernel
theorem dd_C_supply_73 : decode bb_C_supply 73 = .ok (.iaload, 1) := by decide +kernel
theorem dd_C_supply_74 : decode bb_C_supply 74 = .ok (.invokestatic 129, 3) := by decide +kernel
theorem dd_C_supply_77 : decode bb_C_supply 77 = .ok (.iadd, 1) := by decide +kernel
theorem dd_C_supply_78 : decode bb_C_supply 78 = .ok (.istore 6, 2) := by decide +kernel
theorem dd_C_supply_80 : decode bb_C_supply 80 = .ok (.iinc 7 1, 3) := by decide +kernel
theorem dd_C_supply_83 : decode bb_C_supply 83 = .ok (.goto (-41), 3) := by decide +kernel
theorem dd_C_supply_86 : decode bb_C_supply 86 = .ok (.iload 6, 2) := by decide +kernel
theorem dd_C_supply_88 : decode bb_C_supply 88 = .ok (.ireturn, 1) := by decide +kernel
theorem dd_C_round_0 : decode bb_C_round 0 = .ok (.iload_n 3, 1) := by decide +kernel
theorem dd_C_round_1 : decode bb_C_round 1 = .ok (.bipush 6, 2) := by decide +kernel
theorem dd_C_round_3 : decode bb_C_round 3 = .ok (.invokestatic 129, 3) := by decide +kernel
theorem dd_C_round_6 : decode bb_C_round 6 = .ok (.istore 4, 2) := by decide +kernel
theorem dd_C_round_8 : decode bb_C_round 8 = .ok (.iconst 0, 1) := by decide +kernel
theorem dd_C_round_9 : decode bb_C_round 9 = .ok (.istore 5, 2) := by decide +kernel
theorem dd_C_round_11 : decode bb_C_round 11 = .ok (.iload 5, 2) := by decide +kernel
theorem dd_C_round_13 : decode bb_C_round 13 = .ok (.iload 4, 2) := by decide +kernel
theorem dd_C_round_15 : decode bb_C_round 15 = .ok (.if_icmp .ge 20, 3) := by decide +kernel
theorem dd_C_round_18 : decode bb_C_round 18 = .ok (.aload_n 0, 1) := by decide +kernel
theorem dd_C_round_19 : decode bb_C_round 19 = .ok (.lload_n 1, 1) := by decide +kernel
theorem dd_C_round_20 : decode bb_C_round 20 = .ok (.iload 5, 2) := by decide +kernel
theorem dd_C_round_22 : decode bb_C_round 22 = .ok (.invokestatic 201, 3) := by decide +kernel
theorem dd_C_round_25 : decode bb_C_round 25 = .ok (.invokevirtual 76, 3) := by decide +kernel
theorem dd_C_round_28 : decode bb_C_round 28 = .ok (.pop, 1) := by decide +kernel
theorem dd_C_round_29 : decode bb_C_round 29 = .ok (.iinc 5 1, 3) := by decide +kernel
theorem dd_C_round_32 : decode bb_C_round 32 = .ok (.goto (-21), 3) := by decide +kernel
theorem dd_C_round_35 : decode bb_C_round 35 = .ok (.iload_n 3, 1) := by decide +kernel
theorem dd_C_round_36 : decode bb_C_round 36 = .ok (.ifCond .lt 9, 3) := by decide +kernel
theorem dd_C_round_39 : decode bb_C_round 39 = .ok (.iload_n 3, 1) := by decide +kernel
theorem dd_C_round_40 : decode bb_C_round 40 = .ok (.bipush 6, 2) := by decide +kernel
theorem dd_C_round_42 : decode bb_C_round 42 = .ok (.if_icmp .le 13, 3) := by decide +kernel
theorem dd_C_round_45 : decode bb_C_round 45 = .ok (.new 132, 3) := by decide +kernel
theorem dd_C_round_48 : decode bb_C_round 48 = .ok (.dup, 1) := by decide +kernel
theorem dd_C_round_49 : decode bb_C_round 49 = .ok (.ldc 205, 2) := by decide +kernel
theorem dd_C_round_51 : decode bb_C_round 51 = .ok (.invokespecial 136, 3) := by decide +kernel
theorem dd_C_round_54 : decode bb_C_round 54 = .ok (.athrow, 1) := by decide +kernel
theorem dd_C_round_55 : decode bb_C_round 55 = .ok (.lload_n 1, 1) := by decide +kernel
theorem dd_C_round_56 : decode bb_C_round 56 = .ok (.iload 4, 2) := by decide +kernel
theorem dd_C_round_58 : decode bb_C_round 58 = .ok (.invokestatic 207, 3) := by decide +kernel
theorem dd_C_round_61 : decode bb_C_round 61 = .ok (.lstore 5, 2) := by decide +kernel
theorem dd_C_round_63 : decode bb_C_round 63 = .ok (.aload_n 0, 1) := by decide +kernel
theorem dd_C_round_64 : decode bb_C_round 64 = .ok (.getfield 35, 3) := by decide +kernel
theorem dd_C_round_67 : decode bb_C_round 67 = .ok (.invokevirtual 211, 3) := by decide +kernel
theorem dd_C_round_70 : decode bb_C_round 70 = .ok (.aload_n 0, 1) := by decide +kernel
theorem dd_C_round_71 : decode bb_C_round 71 = .ok (.getfield 11, 3) := by decide +kernel
theorem dd_C_round_74 : decode bb_C_round 74 = .ok (.astore 7, 2) := by decide +kernel
theorem dd_C_round_76 : decode bb_C_round 76 = .ok (.aload 7, 2) := by decide +kernel
theorem dd_C_round_78 : decode bb_C_round 78 = .ok (.arraylength, 1) := by decide +kernel
theorem dd_C_round_79 : decode bb_C_round 79 = .ok (.istore 8, 2) := by decide +kernel
theorem dd_C_round_81 : decode bb_C_round 81 = .ok (.iconst 0, 1) := by decide +kernel
theorem dd_C_round_82 : decode bb_C_round 82 = .ok (.istore 9, 2) := by decide +kernel
theorem dd_C_round_84 : decode bb_C_round 84 = .ok (.iload 9, 2) := by decide +kernel
theorem dd_C_round_86 : decode bb_C_round 86 = .ok (.iload 8, 2) := by decide +kernel
theorem dd_C_round_88 : decode bb_C_round 88 = .ok (.if_icmp .ge 45, 3) := by decide +kernel
theorem dd_C_round_91 : decode bb_C_round 91 = .ok (.aload 7, 2) := by decide +kernel
theorem dd_C_round_93 : decode bb_C_round 93 = .ok (.iload 9, 2) := by decide +kernel
theorem dd_C_round_95 : decode bb_C_round 95 = .ok (.aaload, 1) := by decide +kernel
theorem dd_C_round_96 : decode bb_C_round 96 = .ok (.astore 10, 2) := by decide +kernel
theorem dd_C_round_98 : decode bb_C_round 98 = .ok (.aload 10, 2) := by decide +kernel
theorem dd_C_round_100 : decode bb_C_round 100 = .ok (.ifnull 27, 3) := by decide +kernel
theorem dd_C_round_103 : decode bb_C_round 103 = .ok (.lload 5, 2) := by decide +kernel
theorem dd_C_round_105 : decode bb_C_round 105 = .ok (.aload 10, 2) := by decide +kernel
theorem dd_C_round_107 : decode bb_C_round 107 = .ok (.getfield 177, 3) := by decide +kernel
theorem dd_C_round_110 : decode bb_C_round 110 = .ok (.lushr, 1) := by decide +kernel
theorem dd_C_round_111 : decode bb_C_round 111 = .ok (.lconst 1, 1) := by decide +kernel
theorem dd_C_round_112 : decode bb_C_round 112 = .ok (.land, 1) := by decide +kernel
theorem dd_C_round_113 : decode bb_C_round 113 = .ok (.lconst 0, 1) := by decide +kernel
theorem dd_C_round_114 : decode bb_C_round 114 = .ok (.lcmp, 1) := by decide +kernel
theorem dd_C_round_115 : decode bb_C_round 115 = .ok (.ifCond .eq 12, 3) := by decide +kernel
theorem dd_C_round_118 : decode bb_C_round 118 = .ok (.aload_n 0, 1) := by decide +kernel
theorem dd_C_round_119 : decode bb_C_round 119 = .ok (.getfield 35, 3) := by decide +kernel
theorem dd_C_round_122 : decode bb_C_round 122 = .ok (.aload 10, 2) := by decide +kernel
theorem dd_C_round_124 : decode bb_C_round 124 = .ok (.invokevirtual 212, 3) := by decide +kernel
theorem dd_C_round_127 : decode bb_C_round 127 = .ok (.iinc 9 1, 3) := by decide +kernel
theorem dd_C_round_130 : decode bb_C_round 130 = .ok (.goto (-46), 3) := by decide +kernel
theorem dd_C_round_133 : decode bb_C_round 133 = .ok (.aload_n 0, 1) := by decide +kernel
theorem dd_C_round_134 : decode bb_C_round 134 = .ok (.getfield 35, 3) := by decide +kernel
theorem dd_C_round_137 : decode bb_C_round 137 = .ok (.invokevirtual 216, 3) := by decide +kernel
theorem dd_C_round_140 : decode bb_C_round 140 = .ok (.ireturn, 1) := by decide +kernel
theorem dd_C_stop_0 : decode bb_C_stop 0 = .ok (.iload_n 1, 1) := by decide +kernel
theorem dd_C_stop_1 : decode bb_C_stop 1 = .ok (.invokestatic 168, 3) := by decide +kernel
theorem dd_C_stop_4 : decode bb_C_stop 4 = .ok (.aload_n 0, 1) := by decide +kernel
theorem dd_C_stop_5 : decode bb_C_stop 5 = .ok (.getfield 35, 3) := by decide +kernel
theorem dd_C_stop_8 : decode bb_C_stop 8 = .ok (.iload_n 1, 1) := by decide +kernel
theorem dd_C_stop_9 : decode bb_C_stop 9 = .ok (.invokevirtual 220, 3) := by decide +kernel
theorem dd_C_stop_12 : decode bb_C_stop 12 = .ok (.ireturn, 1) := by decide +kernel
theorem dd_C_overdue_0 : decode bb_C_overdue 0 = .ok (.iload_n 1, 1) := by decide +kernel
theorem dd_C_overdue_1 : decode bb_C_overdue 1 = .ok (.invokestatic 80, 3) := by decide +kernel
theorem dd_C_overdue_4 : decode bb_C_overdue 4 = .ok (.iload_n 2, 1) := by decide +kernel
theorem dd_C_overdue_5 : decode bb_C_overdue 5 = .ok (.ifCond .lt 10, 3) := by decide +kernel
theorem dd_C_overdue_8 : decode bb_C_overdue 8 = .ok (.iload_n 2, 1) := by decide +kernel
theorem dd_C_overdue_9 : decode bb_C_overdue 9 = .ok (.sipush 9999, 3) := by decide +kernel
theorem dd_C_overdue_12 : decode bb_C_overdue 12 = .ok (.if_icmp .le 13, 3) := by decide +kernel
theorem dd_C_overdue_15 : decode bb_C_overdue 15 = .ok (.new 132, 3) := by decide +kernel
theorem dd_C_overdue_18 : decode bb_C_overdue 18 = .ok (.dup, 1) := by decide +kernel
theorem dd_C_overdue_19 : decode bb_C_overdue 19 = .ok (.ldc 223, 2) := by decide +kernel
theorem dd_C_overdue_21 : decode bb_C_overdue 21 = .ok (.invokespecial 136, 3) := by decide +kernel
theorem dd_C_overdue_24 : decode bb_C_overdue 24 = .ok (.athrow, 1) := by decide +kernel
theorem dd_C_overdue_25 : decode bb_C_overdue 25 = .ok (.iload_n 3, 1) := by decide +kernel
theorem dd_C_overdue_26 : decode bb_C_overdue 26 = .ok (.invokestatic 168, 3) := by decide +kernel
theorem dd_C_overdue_29 : decode bb_C_overdue 29 = .ok (.aload_n 0, 1) := by decide +kernel
theorem dd_C_overdue_30 : decode bb_C_overdue 30 = .ok (.getfield 28, 3) := by decide +kernel
theorem dd_C_overdue_33 : decode bb_C_overdue 33 = .ok (.invokevirtual 171, 3) := by decide +kernel
theorem dd_C_overdue_36 : decode bb_C_overdue 36 = .ok (.aload_n 0, 1) := by decide +kernel
theorem dd_C_overdue_37 : decode bb_C_overdue 37 = .ok (.getfield 11, 3) := by decide +kernel
theorem dd_C_overdue_40 : decode bb_C_overdue 40 = .ok (.astore 4, 2) := by decide +kernel
theorem dd_C_overdue_42 : decode bb_C_overdue 42 = .ok (.aload 4, 2) := by decide +kernel
theorem dd_C_overdue_44 : decode bb_C_overdue 44 = .ok (.arraylength, 1) := by decide +kernel
theorem dd_C_overdue_45 : decode bb_C_overdue 45 = .ok (.istore 5, 2) := by decide +kernel
theorem dd_C_overdue_47 : decode bb_C_overdue 47 = .ok (.iconst 0, 1) := by decide +kernel
theorem dd_C_overdue_48 : decode bb_C_overdue 48 = .ok (.istore 6, 2) := by decide +kernel
theorem dd_C_overdue_50 : decode bb_C_overdue 50 = .ok (.iload 6, 2) := by decide +kernel
theorem dd_C_overdue_52 : decode bb_C_overdue 52 = .ok (.iload 5, 2) := by decide +kernel
theorem dd_C_overdue_54 : decode bb_C_overdue 54 = .ok (.if_icmp .ge 48, 3) := by decide +kernel
theorem dd_C_overdue_57 : decode bb_C_overdue 57 = .ok (.aload 4, 2) := by decide +kernel
theorem dd_C_overdue_59 : decode bb_C_overdue 59 = .ok (.iload 6, 2) := by decide +kernel
theorem dd_C_overdue_61 : decode bb_C_overdue 61 = .ok (.aaload, 1) := by decide +kernel
theorem dd_C_overdue_62 : decode bb_C_overdue 62 = .ok (.astore 7, 2) := by decide +kernel
theorem dd_C_overdue_64 : decode bb_C_overdue 64 = .ok (.aload 7, 2) := by decide +kernel
theorem dd_C_overdue_66 : decode bb_C_overdue 66 = .ok (.ifnull 30, 3) := by decide +kernel
theorem dd_C_overdue_69 : decode bb_C_overdue 69 = .ok (.aload 7, 2) := by decide +kernel
theorem dd_C_overdue_71 : decode bb_C_overdue 71 = .ok (.iload_n 1, 1) := by decide +kernel
theorem dd_C_overdue_72 : decode bb_C_overdue 72 = .ok (.iload_n 2, 1) := by decide +kernel
theorem dd_C_overdue_73 : decode bb_C_overdue 73 = .ok (.invokevirtual 225, 3) := by decide +kernel
theorem dd_C_overdue_76 : decode bb_C_overdue 76 = .ok (.ifCond .eq 20, 3) := by decide +kernel
theorem dd_C_overdue_79 : decode bb_C_overdue 79 = .ok (.aload_n 0, 1) := by decide +kernel
theorem dd_C_overdue_80 : decode bb_C_overdue 80 = .ok (.getfield 28, 3) := by decide +kernel
theorem dd_C_overdue_83 : decode bb_C_overdue 83 = .ok (.aload 7, 2) := by decide +kernel
theorem dd_C_overdue_85 : decode bb_C_overdue 85 = .ok (.invokevirtual 228, 3) := by decide +kernel
theorem dd_C_overdue_88 : decode bb_C_overdue 88 = .ok (.aload 7, 2) := by decide +kernel
theorem dd_C_overdue_90 : decode bb_C_overdue 90 = .ok (.getfield 177, 3) := by decide +kernel
theorem dd_C_overdue_93 : decode bb_C_overdue 93 = .ok (.invokevirtual 180, 3) := by decide +kernel
theorem dd_C_overdue_96 : decode bb_C_overdue 96 = .ok (.iinc 6 1, 3) := by decide +kernel
theorem dd_C_overdue_99 : decode bb_C_overdue 99 = .ok (.goto (-49), 3) := by decide +kernel
theorem dd_C_overdue_102 : decode bb_C_overdue 102 = .ok (.aload_n 0, 1) := by decide +kernel
theorem dd_C_overdue_103 : decode bb_C_overdue 103 = .ok (.getfield 28, 3) := by decide +kernel
theorem dd_C_overdue_106 : decode bb_C_overdue 106 = .ok (.iload_n 3, 1) := by decide +kernel
theorem dd_C_overdue_107 : decode bb_C_overdue 107 = .ok (.invokevirtual 183, 3) := by decide +kernel
theorem dd_C_overdue_110 : decode bb_C_overdue 110 = .ok (.ireturn, 1) := by decide +kernel
theorem dd_C_testAt_0 : decode bb_C_testAt 0 = .ok (.iload_n 1, 1) := by decide +kernel
theorem dd_C_testAt_1 : decode bb_C_testAt 1 = .ok (.ifCond .lt 21, 3) := by decide +kernel
theorem dd_C_testAt_4 : decode bb_C_testAt 4 = .ok (.iload_n 1, 1) := by decide +kernel
theorem dd_C_testAt_5 : decode bb_C_testAt 5 = .ok (.aload_n 0, 1) := by decide +kernel
theorem dd_C_testAt_6 : decode bb_C_testAt 6 = .ok (.getfield 17, 3) := by decide +kernel
theorem dd_C_testAt_9 : decode bb_C_testAt 9 = .ok (.arraylength, 1) := by decide +kernel
theorem dd_C_testAt_10 : decode bb_C_testAt 10 = .ok (.if_icmp .ge 12, 3) := by decide +kernel
theorem dd_C_testAt_13 : decode bb_C_testAt 13 = .ok (.aload_n 0, 1) := by decide +kernel
theorem dd_C_testAt_14 : decode bb_C_testAt 14 = .ok (.getfield 17, 3) := by decide +kernel
theorem dd_C_testAt_17 : decode bb_C_testAt 17 = .ok (.iload_n 1, 1) := by decide +kernel
theorem dd_C_testAt_18 : decode bb_C_testAt 18 = .ok (.aaload, 1) := by decide +kernel
theorem dd_C_testAt_19 : decode bb_C_testAt 19 = .ok (.goto 4, 3) := by decide +kernel
theorem dd_C_testAt_22 : decode bb_C_testAt 22 = .ok (.aconst_null, 1) := by decide +kernel
theorem dd_C_testAt_23 : decode bb_C_testAt 23 = .ok (.astore_n 3, 1) := by decide +kernel
theorem dd_C_testAt_24 : decode bb_C_testAt 24 = .ok (.aload_n 3, 1) := by decide +kernel
theorem dd_C_testAt_25 : decode bb_C_testAt 25 = .ok (.ifnonnull 13, 3) := by decide +kernel
theorem dd_C_testAt_28 : decode bb_C_testAt 28 = .ok (.new 54, 3) := by decide +kernel
theorem dd_C_testAt_31 : decode bb_C_testAt 31 = .ok (.dup, 1) := by decide +kernel
theorem dd_C_testAt_32 : decode bb_C_testAt 32 = .ok (.ldc 231, 2) := by decide +kernel
theorem dd_C_testAt_34 : decode bb_C_testAt 34 = .ok (.invokespecial 58, 3) := by decide +kernel
theorem dd_C_testAt_37 : decode bb_C_testAt 37 = .ok (.athrow, 1) := by decide +kernel
theorem dd_C_testAt_38 : decode bb_C_testAt 38 = .ok (.iload_n 2, 1) := by decide +kernel
theorem dd_C_testAt_39 : decode bb_C_testAt 39 = .ok (.tableswitch 58 0 4 #[33, 38, 43, 48, 53], 33) := by decide +kernel
theorem dd_C_testAt_72 : decode bb_C_testAt 72 = .ok (.aload_n 3, 1) := by decide +kernel
theorem dd_C_testAt_73 : decode bb_C_testAt 73 = .ok (.getfield 233, 3) := by decide +kernel
theorem dd_C_testAt_76 : decode bb_C_testAt 76 = .ok (.ireturn, 1) := by decide +kernel
theorem dd_C_testAt_77 : decode bb_C_testAt 77 = .ok (.aload_n 3, 1) := by decide +kernel
theorem dd_C_testAt_78 : decode bb_C_testAt 78 = .ok (.getfield 236, 3) := by decide +kernel
theorem dd_C_testAt_81 : decode bb_C_testAt 81 = .ok (.ireturn, 1) := by decide +kernel
theorem dd_C_testAt_82 : decode bb_C_testAt 82 = .ok (.aload_n 3, 1) := by decide +kernel
theorem dd_C_testAt_83 : decode bb_C_testAt 83 = .ok (.getfield 239, 3) := by decide +kernel
theorem dd_C_testAt_86 : decode bb_C_testAt 86 = .ok (.ireturn, 1) := by decide +kernel
theorem dd_C_testAt_87 : decode bb_C_testAt 87 = .ok (.aload_n 3, 1) := by decide +kernel
theorem dd_C_testAt_88 : decode bb_C_testAt 88 = .ok (.getfield 242, 3) := by decide +kernel
theorem dd_C_testAt_91 : decode bb_C_testAt 91 = .ok (.ireturn, 1) := by decide +kernel
theorem dd_C_testAt_92 : decode bb_C_testAt 92 = .ok (.aload_n 3, 1) := by decide +kernel
theorem dd_C_testAt_93 : decode bb_C_testAt 93 = .ok (.getfield 245, 3) := by decide +kernel
theorem dd_C_testAt_96 : decode bb_C_testAt 96 = .ok (.ireturn, 1) := by decide +kernel
theorem dd_C_testAt_97 : decode bb_C_testAt 97 = .ok (.new 54, 3) := by decide +kernel
theorem dd_C_testAt_100 : decode bb_C_testAt 100 = .ok (.dup, 1) := by decide +kernel
theorem dd_C_testAt_101 : decode bb_C_testAt 101 = .ok (.ldc 100, 2) := by decide +kernel
theorem dd_C_testAt_103 : decode bb_C_testAt 103 = .ok (.invokespecial 58, 3) := by decide +kernel
theorem dd_C_testAt_106 : decode bb_C_testAt 106 = .ok (.athrow, 1) := by decide +kernel
theorem dd_C_hydrantAt_0 : decode bb_C_hydrantAt 0 = .ok (.aload_n 0, 1) := by decide +kernel
theorem dd_C_hydrantAt_1 : decode bb_C_hydrantAt 1 = .ok (.iload_n 1, 1) := by decide +kernel
theorem dd_C_hydrantAt_2 : decode bb_C_hydrantAt 2 = .ok (.invokevirtual 76, 3) := by decide +kernel
theorem dd_C_hydrantAt_5 : decode bb_C_hydrantAt 5 = .ok (.astore_n 3, 1) := by decide +kernel
theorem dd_C_hydrantAt_6 : decode bb_C_hydrantAt 6 = .ok (.iload_n 2, 1) := by decide +kernel
theorem dd_C_hydrantAt_7 : decode bb_C_hydrantAt 7 = .ok (.tableswitch 67 0 5 #[37, 42, 47, 52, 57, 62], 37) := by decide +kernel
theorem dd_C_hydrantAt_44 : decode bb_C_hydrantAt 44 = .ok (.aload_n 3, 1) := by decide +kernel
theorem dd_C_hydrantAt_45 : decode bb_C_hydrantAt 45 = .ok (.getfield 188, 3) := by decide +kernel
theorem dd_C_hydrantAt_48 : decode bb_C_hydrantAt 48 = .ok (.ireturn, 1) := by decide +kernel
theorem dd_C_hydrantAt_49 : decode bb_C_hydrantAt 49 = .ok (.aload_n 3, 1) := by decide +kernel
theorem dd_C_hydrantAt_50 : decode bb_C_hydrantAt 50 = .ok (.getfield 155, 3) := by decide +kernel
theorem dd_C_hydrantAt_53 : decode bb_C_hydrantAt 53 = .ok (.ireturn, 1) := by decide +kernel
theorem dd_C_hydrantAt_54 : decode bb_C_hydrantAt 54 = .ok (.aload_n 3, 1) := by decide +kernel
theorem dd_C_hydrantAt_55 : decode bb_C_hydrantAt 55 = .ok (.getfield 137, 3) := by decide +kernel
theorem dd_C_hydrantAt_58 : decode bb_C_hydrantAt 58 = .ok (.ireturn, 1) := by decide +kernel
theorem dd_C_hydrantAt_59 : decode bb_C_hydrantAt 59 = .ok (.aload_n 3, 1) := by decide +kernel
theorem dd_C_hydrantAt_60 : decode bb_C_hydrantAt 60 = .ok (.invokevirtual 248, 3) := by decide +kernel
theorem dd_C_hydrantAt_63 : decode bb_C_hydrantAt 63 = .ok (.ireturn, 1) := by decide +kernel
theorem dd_C_hydrantAt_64 : decode bb_C_hydrantAt 64 = .ok (.aload_n 3, 1) := by decide +kernel
theorem dd_C_hydrantAt_65 : decode bb_C_hydrantAt 65 = .ok (.getfield 251, 3) := by decide +kernel
theorem dd_C_hydrantAt_68 : decode bb_C_hydrantAt 68 = .ok (.ireturn, 1) := by decide +kernel
theorem dd_C_hydrantAt_69 : decode bb_C_hydrantAt 69 = .ok (.aload_n 3, 1) := by decide +kernel
theorem dd_C_hydrantAt_70 : decode bb_C_hydrantAt 70 = .ok (.getfield 252, 3) := by decide +kernel
theorem dd_C_hydrantAt_73 : decode bb_C_hydrantAt 73 = .ok (.ireturn, 1) := by decide +kernel
theorem dd_C_hydrantAt_74 : decode bb_C_hydrantAt 74 = .ok (.new 54, 3) := by decide +kernel
theorem dd_C_hydrantAt_77 : decode bb_C_hydrantAt 77 = .ok (.dup, 1) := by decide +kernel
theorem dd_C_hydrantAt_78 : decode bb_C_hydrantAt 78 = .ok (.ldc 100, 2) := by decide +kernel
theorem dd_C_hydrantAt_80 : decode bb_C_hydrantAt 80 = .ok (.invokespecial 58, 3) := by decide +kernel
theorem dd_C_hydrantAt_83 : decode bb_C_hydrantAt 83 = .ok (.athrow, 1) := by decide +kernel
theorem dd_C_known_0 : decode bb_C_known 0 = .ok (.iload_n 1, 1) := by decide +kernel
theorem dd_C_known_1 : decode bb_C_known 1 = .ok (.ifCond .lt 21, 3) := by decide +kernel
theorem dd_C_known_4 : decode bb_C_known 4 = .ok (.iload_n 1, 1) := by decide +kernel
theorem dd_C_known_5 : decode bb_C_known 5 = .ok (.aload_n 0, 1) := by decide +kernel
theorem dd_C_known_6 : decode bb_C_known 6 = .ok (.getfield 11, 3) := by decide +kernel
theorem dd_C_known_9 : decode bb_C_known 9 = .ok (.arraylength, 1) := by decide +kernel
theorem dd_C_known_10 : decode bb_C_known 10 = .ok (.if_icmp .ge 12, 3) := by decide +kernel
theorem dd_C_known_13 : decode bb_C_known 13 = .ok (.aload_n 0, 1) := by decide +kernel
theorem dd_C_known_14 : decode bb_C_known 14 = .ok (.getfield 11, 3) := by decide +kernel
theorem dd_C_known_17 : decode bb_C_known 17 = .ok (.iload_n 1, 1) := by decide +kernel
theorem dd_C_known_18 : decode bb_C_known 18 = .ok (.aaload, 1) := by decide +kernel
theorem dd_C_known_19 : decode bb_C_known 19 = .ok (.goto 4, 3) := by decide +kernel
theorem dd_C_known_22 : decode bb_C_known 22 = .ok (.aconst_null, 1) := by decide +kernel
theorem dd_C_known_23 : decode bb_C_known 23 = .ok (.astore_n 2, 1) := by decide +kernel
theorem dd_C_known_24 : decode bb_C_known 24 = .ok (.aload_n 2, 1) := by decide +kernel
theorem dd_C_known_25 : decode bb_C_known 25 = .ok (.ifnonnull 13, 3) := by decide +kernel
theorem dd_C_known_28 : decode bb_C_known 28 = .ok (.new 54, 3) := by decide +kernel
theorem dd_C_known_31 : decode bb_C_known 31 = .ok (.dup, 1) := by decide +kernel
theorem dd_C_known_32 : decode bb_C_known 32 = .ok (.ldc 255, 2) := by decide +kernel
theorem dd_C_known_34 : decode bb_C_known 34 = .ok (.invokespecial 58, 3) := by decide +kernel
theorem dd_C_known_37 : decode bb_C_known 37 = .ok (.athrow, 1) := by decide +kernel
theorem dd_C_known_38 : decode bb_C_known 38 = .ok (.aload_n 2, 1) := by decide +kernel
theorem dd_C_known_39 : decode bb_C_known 39 = .ok (.areturn, 1) := by decide +kernel
theorem dd_C_countingTest_0 : decode bb_C_countingTest 0 = .ok (.aload_n 0, 1) := by decide +kernel
theorem dd_C_countingTest_1 : decode bb_C_countingTest 1 = .ok (.getfield 257, 3) := by decide +kernel
theorem dd_C_countingTest_4 : decode bb_C_countingTest 4 = .ok (.astore_n 1, 1) := by decide +kernel
theorem dd_C_countingTest_5 : decode bb_C_countingTest 5 = .ok (.aload_n 1, 1) := by decide +kernel
theorem dd_C_countingTest_6 : decode bb_C_countingTest 6 = .ok (.ifnonnull 14, 3) := by decide +kernel
theorem dd_C_countingTest_9 : decode bb_C_countingTest 9 = .ok (.new 86, 3) := by decide +kernel
theorem dd_C_countingTest_12 : decode bb_C_countingTest 12 = .ok (.dup, 1) := by decide +kernel
theorem dd_C_countingTest_13 : decode bb_C_countingTest 13 = .ok (.ldc_w 261, 3) := by decide +kernel
theorem dd_C_countingTest_16 : decode bb_C_countingTest 16 = .ok (.invokespecial 90, 3) := by decide +kernel
theorem dd_C_countingTest_19 : decode bb_C_countingTest 19 = .ok (.athrow, 1) := by decide +kernel
theorem dd_C_countingTest_20 : decode bb_C_countingTest 20 = .ok (.aload_n 1, 1) := by decide +kernel
theorem dd_C_countingTest_21 : decode bb_C_countingTest 21 = .ok (.areturn, 1) := by decide +kernel
theorem dd_C_needTold_0 : decode bb_C_needTold 0 = .ok (.aload_n 0, 1) := by decide +kernel
theorem dd_C_needTold_1 : decode bb_C_needTold 1 = .ok (.iload_n 1, 1) := by decide +kernel
theorem dd_C_needTold_2 : decode bb_C_needTold 2 = .ok (.invokevirtual 263, 3) := by decide +kernel
theorem dd_C_needTold_5 : decode bb_C_needTold 5 = .ok (.ifCond .ne 14, 3) := by decide +kernel
theorem dd_C_needTold_8 : decode bb_C_needTold 8 = .ok (.new 267, 3) := by decide +kernel
theorem dd_C_needTold_11 : decode bb_C_needTold 11 = .ok (.dup, 1) := by decide +kernel
theorem dd_C_needTold_12 : decode bb_C_needTold 12 = .ok (.ldc_w 269, 3) := by decide +kernel
theorem dd_C_needTold_15 : decode bb_C_needTold 15 = .ok (.invokespecial 271, 3) := by decide +kernel
theorem dd_C_needTold_18 : decode bb_C_needTold 18 = .ok (.athrow, 1) := by decide +kernel
theorem dd_C_needTold_19 : decode bb_C_needTold 19 = .ok (.return_, 1) := by decide +kernel
theorem dd_C_needMain_0 : decode bb_C_needMain 0 = .ok (.iload_n 1, 1) := by decide +kernel
theorem dd_C_needMain_1 : decode bb_C_needMain 1 = .ok (.ifCond .lt 12, 3) := by decide +kernel
theorem dd_C_needMain_4 : decode bb_C_needMain 4 = .ok (.iload_n 1, 1) := by decide +kernel
theorem dd_C_needMain_5 : decode bb_C_needMain 5 = .ok (.aload_n 0, 1) := by decide +kernel
theorem dd_C_needMain_6 : decode bb_C_needMain 6 = .ok (.getfield 21, 3) := by decide +kernel
theorem dd_C_needMain_9 : decode bb_C_needMain 9 = .ok (.arraylength, 1) := by decide +kernel
theorem dd_C_needMain_10 : decode bb_C_needMain 10 = .ok (.if_icmp .lt 14, 3) := by decide +kernel
theorem dd_C_needMain_13 : decode bb_C_needMain 13 = .ok (.new 54, 3) := by decide +kernel
theorem dd_C_needMain_16 : decode bb_C_needMain 16 = .ok (.dup, 1) := by decide +kernel
theorem dd_C_needMain_17 : decode bb_C_needMain 17 = .ok (.ldc_w 272, 3) := by decide +kernel
theorem dd_C_needMain_20 : decode bb_C_needMain 20 = .ok (.invokespecial 58, 3) := by decide +kernel
theorem dd_C_needMain_23 : decode bb_C_needMain 23 = .ok (.athrow, 1) := by decide +kernel
theorem dd_C_needMain_24 : decode bb_C_needMain 24 = .ok (.return_, 1) := by decide +kernel
theorem dd_C_needPlace_0 : decode bb_C_needPlace 0 = .ok (.iload_n 0, 1) := by decide +kernel
theorem dd_C_needPlace_1 : decode bb_C_needPlace 1 = .ok (.ldc_w 274, 3) := by decide +kernel
theorem dd_C_needPlace_4 : decode bb_C_needPlace 4 = .ok (.if_icmp .lt 24, 3) := by decide +kernel
theorem dd_C_needPlace_7 : decode bb_C_needPlace 7 = .ok (.iload_n 0, 1) := by decide +kernel
theorem dd_C_needPlace_8 : decode bb_C_needPlace 8 = .ok (.ldc_w 275, 3) := by decide +kernel
theorem dd_C_needPlace_11 : decode bb_C_needPlace 11 = .ok (.if_icmp .gt 17, 3) := by decide +kernel
theorem dd_C_needPlace_14 : decode bb_C_needPlace 14 = .ok (.iload_n 1, 1) := by decide +kernel
theorem dd_C_needPlace_15 : decode bb_C_needPlace 15 = .ok (.ldc_w 274, 3) := by decide +kernel
theorem dd_C_needPlace_18 : decode bb_C_needPlace 18 = .ok (.if_icmp .lt 10, 3) := by decide +kernel
theorem dd_C_needPlace_21 : decode bb_C_needPlace 21 = .ok (.iload_n 1, 1) := by decide +kernel
theorem dd_C_needPlace_22 : decode bb_C_needPlace 22 = .ok (.ldc_w 275, 3) := by decide +kernel
theorem dd_C_needPlace_25 : decode bb_C_needPlace 25 = .ok (.if_icmp .le 14, 3) := by decide +kernel
theorem dd_C_needPlace_28 : decode bb_C_needPlace 28 = .ok (.new 132, 3) := by decide +kernel
theorem dd_C_needPlace_31 : decode bb_C_needPlace 31 = .ok (.dup, 1) := by decide +kernel
theorem dd_C_needPlace_32 : decode bb_C_needPlace 32 = .ok (.ldc_w 276, 3) := by decide +kernel
theorem dd_C_needPlace_35 : decode bb_C_needPlace 35 = .ok (.invokespecial 136, 3) := by decide +kernel
theorem dd_C_needPlace_38 : decode bb_C_needPlace 38 = .ok (.athrow, 1) := by decide +kernel
theorem dd_C_needPlace_39 : decode bb_C_needPlace 39 = .ok (.return_, 1) := by decide +kernel
theorem dd_C_needDay_0 : decode bb_C_needDay 0 = .ok (.iload_n 0, 1) := by decide +kernel
theorem dd_C_needDay_1 : decode bb_C_needDay 1 = .ok (.ifCond .lt 10, 3) := by decide +kernel
theorem dd_C_needDay_4 : decode bb_C_needDay 4 = .ok (.iload_n 0, 1) := by decide +kernel
theorem dd_C_needDay_5 : decode bb_C_needDay 5 = .ok (.ldc_w 278, 3) := by decide +kernel
theorem dd_C_needDay_8 : decode bb_C_needDay 8 = .ok (.if_icmp .le 14, 3) := by decide +kernel
theorem dd_C_needDay_11 : decode bb_C_needDay 11 = .ok (.new 132, 3) := by decide +kernel
theorem dd_C_needDay_14 : decode bb_C_needDay 14 = .ok (.dup, 1) := by decide +kernel
theorem dd_C_needDay_15 : decode bb_C_needDay 15 = .ok (.ldc_w 279, 3) := by decide +kernel
theorem dd_C_needDay_18 : decode bb_C_needDay 18 = .ok (.invokespecial 136, 3) := by decide +kernel
theorem dd_C_needDay_21 : decode bb_C_needDay 21 = .ok (.athrow, 1) := by decide +kernel
theorem dd_C_needDay_22 : decode bb_C_needDay 22 = .ok (.return_, 1) := by decide +kernel
theorem dd_C_needPressure_0 : decode bb_C_needPressure 0 = .ok (.iload_n 0, 1) := by decide +kernel
theorem dd_C_needPressure_1 : decode bb_C_needPressure 1 = .ok (.ifCond .lt 10, 3) := by decide +kernel
theorem dd_C_needPressure_4 : decode bb_C_needPressure 4 = .ok (.iload_n 0, 1) := by decide +kernel
theorem dd_C_needPressure_5 : decode bb_C_needPressure 5 = .ok (.sipush 2000, 3) := by decide +kernel
theorem dd_C_needPressure_8 : decode bb_C_needPressure 8 = .ok (.if_icmp .le 14, 3) := by decide +kernel
theorem dd_C_needPressure_11 : decode bb_C_needPressure 11 = .ok (.new 132, 3) := by decide +kernel
theorem dd_C_needPressure_14 : decode bb_C_needPressure 14 = .ok (.dup, 1) := by decide +kernel
theorem dd_C_needPressure_15 : decode bb_C_needPressure 15 = .ok (.ldc_w 281, 3) := by decide +kernel
theorem dd_C_needPressure_18 : decode bb_C_needPressure 18 = .ok (.invokespecial 136, 3) := by decide +kernel
theorem dd_C_needPressure_21 : decode bb_C_needPressure 21 = .ok (.athrow, 1) := by decide +kernel
theorem dd_C_needPressure_22 : decode bb_C_needPressure 22 = .ok (.return_, 1) := by decide +kernel
theorem dd_C_needFlow_0 : decode bb_C_needFlow 0 = .ok (.iload_n 0, 1) := by decide +kernel
theorem dd_C_needFlow_1 : decode bb_C_needFlow 1 = .ok (.ifCond .lt 10, 3) := by decide +kernel
theorem dd_C_needFlow_4 : decode bb_C_needFlow 4 = .ok (.iload_n 0, 1) := by decide +kernel
theorem dd_C_needFlow_5 : decode bb_C_needFlow 5 = .ok (.sipush 20000, 3) := by decide +kernel
theorem dd_C_needFlow_8 : decode bb_C_needFlow 8 = .ok (.if_icmp .le 14, 3) := by decide +kernel
theorem dd_C_needFlow_11 : decode bb_C_needFlow 11 = .ok (.new 132, 3) := by decide +kernel
theorem dd_C_needFlow_14 : decode bb_C_needFlow 14 = .ok (.dup, 1) := by decide +kernel
theorem dd_C_needFlow_15 : decode bb_C_needFlow 15 = .ok (.ldc_w 283, 3) := by decide +kernel
theorem dd_C_needFlow_18 : decode bb_C_needFlow 18 = .ok (.invokespecial 136, 3) := by decide +kernel
theorem dd_C_needFlow_21 : decode bb_C_needFlow 21 = .ok (.athrow, 1) := by decide +kernel
theorem dd_C_needFlow_22 : decode bb_C_needFlow 22 = .ok (.return_, 1) := by decide +kernel
theorem dd_C_needNotBelowZero_0 : decode bb_C_needNotBelowZero 0 = .ok (.iload_n 0, 1) := by decide +kernel
theorem dd_C_needNotBelowZero_1 : decode bb_C_needNotBelowZero 1 = .ok (.ifCond .ge 14, 3) := by decide +kernel
theorem dd_C_needNotBelowZero_4 : decode bb_C_needNotBelowZero 4 = .ok (.new 132, 3) := by decide +kernel
theorem dd_C_needNotBelowZero_7 : decode bb_C_needNotBelowZero 7 = .ok (.dup, 1) := by decide +kernel
theorem dd_C_needNotBelowZero_8 : decode bb_C_needNotBelowZero 8 = .ok (.ldc_w 285, 3) := by decide +kernel
theorem dd_C_needNotBelowZero_11 : decode bb_C_needNotBelowZero 11 = .ok (.invokespecial 136, 3) := by decide +kernel
theorem dd_C_needNotBelowZero_14 : decode bb_C_needNotBelowZero 14 = .ok (.athrow, 1) := by decide +kernel
theorem dd_C_needNotBelowZero_15 : decode bb_C_needNotBelowZero 15 = .ok (.return_, 1) := by decide +kernel
theorem dd_C_limitOf_0 : decode bb_C_limitOf 0 = .ok (.iload_n 1, 1) := by decide +kernel
theorem dd_C_limitOf_1 : decode bb_C_limitOf 1 = .ok (.ifCond .lt 21, 3) := by decide +kernel
theorem dd_C_limitOf_4 : decode bb_C_limitOf 4 = .ok (.iload_n 1, 1) := by decide +kernel
theorem dd_C_limitOf_5 : decode bb_C_limitOf 5 = .ok (.aload_n 0, 1) := by decide +kernel
theorem dd_C_limitOf_6 : decode bb_C_limitOf 6 = .ok (.getfield 21, 3) := by decide +kernel
theorem dd_C_limitOf_9 : decode bb_C_limitOf 9 = .ok (.arraylength, 1) := by decide +kernel
theorem dd_C_limitOf_10 : decode bb_C_limitOf 10 = .ok (.if_icmp .ge 12, 3) := by decide +kernel
theorem dd_C_limitOf_13 : decode bb_C_limitOf 13 = .ok (.aload_n 0, 1) := by decide +kernel
theorem dd_C_limitOf_14 : decode bb_C_limitOf 14 = .ok (.getfield 21, 3) := by decide +kernel
theorem dd_C_limitOf_17 : decode bb_C_limitOf 17 = .ok (.iload_n 1, 1) := by decide +kernel
theorem dd_C_limitOf_18 : decode bb_C_limitOf 18 = .ok (.iaload, 1) := by decide +kernel
theorem dd_C_limitOf_19 : decode bb_C_limitOf 19 = .ok (.goto 4, 3) := by decide +kernel
theorem dd_C_limitOf_22 : decode bb_C_limitOf 22 = .ok (.iconst 0, 1) := by decide +kernel
theorem dd_C_limitOf_23 : decode bb_C_limitOf 23 = .ok (.ireturn, 1) := by decide +kernel
theorem dd_C_supplyOfMain_0 : decode bb_C_supplyOfMain 0 = .ok (.iconst 0, 1) := by decide +kernel
theorem dd_C_supplyOfMain_1 : decode bb_C_supplyOfMain 1 = .ok (.istore 7, 2) := by decide +kernel
theorem dd_C_supplyOfMain_3 : decode bb_C_supplyOfMain 3 = .ok (.aload_n 0, 1) := by decide +kernel
theorem dd_C_supplyOfMain_4 : decode bb_C_supplyOfMain 4 = .ok (.getfield 11, 3) := by decide +kernel
theorem dd_C_supplyOfMain_7 : decode bb_C_supplyOfMain 7 = .ok (.astore 8, 2) := by decide +kernel
theorem dd_C_supplyOfMain_9 : decode bb_C_supplyOfMain 9 = .ok (.aload 8, 2) := by decide +kernel
theorem dd_C_supplyOfMain_11 : decode bb_C_supplyOfMain 11 = .ok (.arraylength, 1) := by decide +kernel
theorem dd_C_supplyOfMain_12 : decode bb_C_supplyOfMain 12 = .ok (.istore 9, 2) := by decide +kernel
theorem dd_C_supplyOfMain_14 : decode bb_C_supplyOfMain 14 = .ok (.iconst 0, 1) := by decide +kernel
theorem dd_C_supplyOfMain_15 : decode bb_C_supplyOfMain 15 = .ok (.istore 10, 2) := by decide +kernel
theorem dd_C_supplyOfMain_17 : decode bb_C_supplyOfMain 17 = .ok (.iload 10, 2) := by decide +kernel
theorem dd_C_supplyOfMain_19 : decode bb_C_supplyOfMain 19 = .ok (.iload 9, 2) := by decide +kernel
theorem dd_C_supplyOfMain_21 : decode bb_C_supplyOfMain 21 = .ok (.if_icmp .ge 68, 3) := by decide +kernel
theorem dd_C_supplyOfMain_24 : decode bb_C_supplyOfMain 24 = .ok (.aload 8, 2) := by decide +kernel
theorem dd_C_supplyOfMain_26 : decode bb_C_supplyOfMain 26 = .ok (.iload 10, 2) := by decide +kernel
theorem dd_C_supplyOfMain_28 : decode bb_C_supplyOfMain 28 = .ok (.aaload, 1) := by decide +kernel
theorem dd_C_supplyOfMain_29 : decode bb_C_supplyOfMain 29 = .ok (.astore 11, 2) := by decide +kernel
theorem dd_C_supplyOfMain_31 : decode bb_C_supplyOfMain 31 = .ok (.aload 11, 2) := by decide +kernel
theorem dd_C_supplyOfMain_33 : decode bb_C_supplyOfMain 33 = .ok (.ifnull 50, 3) := by decide +kernel
theorem dd_C_supplyOfMain_36 : decode bb_C_supplyOfMain 36 = .ok (.aload 11, 2) := by decide +kernel
theorem dd_C_supplyOfMain_38 : decode bb_C_supplyOfMain 38 = .ok (.getfield 188, 3) := by decide +kernel
theorem dd_C_supplyOfMain_41 : decode bb_C_supplyOfMain 41 = .ok (.iload_n 1, 1) := by decide +kernel
theorem dd_C_supplyOfMain_42 : decode bb_C_supplyOfMain 42 = .ok (.if_icmp .ne 41, 3) := by decide +kernel
theorem dd_C_supplyOfMain_45 : decode bb_C_supplyOfMain 45 = .ok (.aload 11, 2) := by decide +kernel
theorem dd_C_supplyOfMain_47 : decode bb_C_supplyOfMain 47 = .ok (.iload_n 2, 1) := by decide +kernel
theorem dd_C_supplyOfMain_48 : decode bb_C_supplyOfMain 48 = .ok (.iload_n 3, 1) := by decide +kernel
theorem dd_C_supplyOfMain_49 : decode bb_C_supplyOfMain 49 = .ok (.invokevirtual 174, 3) := by decide +kernel
theorem dd_C_supplyOfMain_52 : decode bb_C_supplyOfMain 52 = .ok (.iload 6, 2) := by decide +kernel
theorem dd_C_supplyOfMain_54 : decode bb_C_supplyOfMain 54 = .ok (.if_icmp .gt 29, 3) := by decide +kernel
theorem dd_C_supplyOfMain_57 : decode bb_C_supplyOfMain 57 = .ok (.aload 11, 2) := by decide +kernel
theorem dd_C_supplyOfMain_59 : decode bb_C_supplyOfMain 59 = .ok (.iload 4, 2) := by decide +kernel
theorem dd_C_supplyOfMain_61 : decode bb_C_supplyOfMain 61 = .ok (.aload_n 0, 1) := by decide +kernel
theorem dd_C_supplyOfMain_62 : decode bb_C_supplyOfMain 62 = .ok (.getfield 46, 3) := by decide +kernel
theorem dd_C_supplyOfMain_65 : decode bb_C_supplyOfMain 65 = .ok (.invokevirtual 164, 3) := by decide +kernel
theorem dd_C_supplyOfMain_68 : decode bb_C_supplyOfMain 68 = .ok (.ifCond .eq 15, 3) := by decide +kernel
theorem dd_C_supplyOfMain_71 : decode bb_C_supplyOfMain 71 = .ok (.iload 7, 2) := by decide +kernel
theorem dd_C_supplyOfMain_73 : decode bb_C_supplyOfMain 73 = .ok (.aload 11, 2) := by decide +kernel
theorem dd_C_supplyOfMain_75 : decode bb_C_supplyOfMain 75 = .ok (.iload 5, 2) := by decide +kernel
theorem dd_C_supplyOfMain_77 : decode bb_C_supplyOfMain 77 = .ok (.invokevirtual 287, 3) := by decide +kernel
theorem dd_C_supplyOfMain_80 : decode bb_C_supplyOfMain 80 = .ok (.iadd, 1) := by decide +kernel
theorem dd_C_supplyOfMain_81 : decode bb_C_supplyOfMain 81 = .ok (.istore 7, 2) := by decide +kernel
theorem dd_C_supplyOfMain_83 : decode bb_C_supplyOfMain 83 = .ok (.iinc 10 1, 3) := by decide +kernel
theorem dd_C_supplyOfMain_86 : decode bb_C_supplyOfMain 86 = .ok (.goto (-69), 3) := by decide +kernel
theorem dd_C_supplyOfMain_89 : decode bb_C_supplyOfMain 89 = .ok (.iload 7, 2) := by decide +kernel
theorem dd_C_supplyOfMain_91 : decode bb_C_supplyOfMain 91 = .ok (.ireturn, 1) := by decide +kernel
theorem dd_C_toldStop_0 : decode bb_C_toldStop 0 = .ok (.lload_n 0, 1) := by decide +kernel
theorem dd_C_toldStop_1 : decode bb_C_toldStop 1 = .ok (.bipush 6, 2) := by decide +kernel
theorem dd_C_toldStop_3 : decode bb_C_toldStop 3 = .ok (.iload_n 2, 1) := by decide +kernel
theorem dd_C_toldStop_4 : decode bb_C_toldStop 4 = .ok (.imul, 1) := by decide +kernel
theorem dd_C_toldStop_5 : decode bb_C_toldStop 5 = .ok (.lushr, 1) := by decide +kernel
theorem dd_C_toldStop_6 : decode bb_C_toldStop 6 = .ok (.ldc2_w 290, 3) := by decide +kernel
theorem dd_C_toldStop_9 : decode bb_C_toldStop 9 = .ok (.land, 1) := by decide +kernel
theorem dd_C_toldStop_10 : decode bb_C_toldStop 10 = .ok (.l2i, 1) := by decide +kernel
theorem dd_C_toldStop_11 : decode bb_C_toldStop 11 = .ok (.ireturn, 1) := by decide +kernel
theorem dd_C_setOfStops_0 : decode bb_C_setOfStops 0 = .ok (.lconst 0, 1) := by decide +kernel
theorem dd_C_setOfStops_1 : decode bb_C_setOfStops 1 = .ok (.lstore_n 3, 1) := by decide +kernel
theorem dd_C_setOfStops_2 : decode bb_C_setOfStops 2 = .ok (.iconst 0, 1) := by decide +kernel
theorem dd_C_setOfStops_3 : decode bb_C_setOfStops 3 = .ok (.istore 5, 2) := by decide +kernel
theorem dd_C_setOfStops_5 : decode bb_C_setOfStops 5 = .ok (.iload 5, 2) := by decide +kernel
theorem dd_C_setOfStops_7 : decode bb_C_setOfStops 7 = .ok (.iload_n 2, 1) := by decide +kernel
theorem dd_C_setOfStops_8 : decode bb_C_setOfStops 8 = .ok (.if_icmp .ge 44, 3) := by decide +kernel
theorem dd_C_setOfStops_11 : decode bb_C_setOfStops 11 = .ok (.lconst 1, 1) := by decide +kernel
theorem dd_C_setOfStops_12 : decode bb_C_setOfStops 12 = .ok (.lload_n 0, 1) := by decide +kernel
theorem dd_C_setOfStops_13 : decode bb_C_setOfStops 13 = .ok (.iload 5, 2) := by decide +kernel
theorem dd_C_setOfStops_15 : decode bb_C_setOfStops 15 = .ok (.invokestatic 201, 3) := by decide +kernel
theorem dd_C_setOfStops_18 : decode bb_C_setOfStops 18 = .ok (.lshl, 1) := by decide +kernel
theorem dd_C_setOfStops_19 : decode bb_C_setOfStops 19 = .ok (.lstore 6, 2) := by decide +kernel
theorem dd_C_setOfStops_21 : decode bb_C_setOfStops 21 = .ok (.lload_n 3, 1) := by decide +kernel
theorem dd_C_setOfStops_22 : decode bb_C_setOfStops 22 = .ok (.lload 6, 2) := by decide +kernel
theorem dd_C_setOfStops_24 : decode bb_C_setOfStops 24 = .ok (.land, 1) := by decide +kernel
theorem dd_C_setOfStops_25 : decode bb_C_setOfStops 25 = .ok (.lconst 0, 1) := by decide +kernel
theorem dd_C_setOfStops_26 : decode bb_C_setOfStops 26 = .ok (.lcmp, 1) := by decide +kernel
theorem dd_C_setOfStops_27 : decode bb_C_setOfStops 27 = .ok (.ifCond .eq 14, 3) := by decide +kernel
theorem dd_C_setOfStops_30 : decode bb_C_setOfStops 30 = .ok (.new 132, 3) := by decide +kernel
theorem dd_C_setOfStops_33 : decode bb_C_setOfStops 33 = .ok (.dup, 1) := by decide +kernel
theorem dd_C_setOfStops_34 : decode bb_C_setOfStops 34 = .ok (.ldc_w 292, 3) := by decide +kernel
theorem dd_C_setOfStops_37 : decode bb_C_setOfStops 37 = .ok (.invokespecial 136, 3) := by decide +kernel
theorem dd_C_setOfStops_40 : decode bb_C_setOfStops 40 = .ok (.athrow, 1) := by decide +kernel
theorem dd_C_setOfStops_41 : decode bb_C_setOfStops 41 = .ok (.lload_n 3, 1) := by decide +kernel
theorem dd_C_setOfStops_42 : decode bb_C_setOfStops 42 = .ok (.lload 6, 2) := by decide +kernel
theorem dd_C_setOfStops_44 : decode bb_C_setOfStops 44 = .ok (.lor, 1) := by decide +kernel
theorem dd_C_setOfStops_45 : decode bb_C_setOfStops 45 = .ok (.lstore_n 3, 1) := by decide +kernel
theorem dd_C_setOfStops_46 : decode bb_C_setOfStops 46 = .ok (.iinc 5 1, 3) := by decide +kernel
theorem dd_C_setOfStops_49 : decode bb_C_setOfStops 49 = .ok (.goto (-44), 3) := by decide +kernel
theorem dd_C_setOfStops_52 : decode bb_C_setOfStops 52 = .ok (.lload_n 3, 1) := by decide +kernel
theorem dd_C_setOfStops_53 : decode bb_C_setOfStops 53 = .ok (.lreturn, 1) := by decide +kernel
theorem dd_C_commonDivisor_0 : decode bb_C_commonDivisor 0 = .ok (.iload_n 0, 1) := by decide +kernel
theorem dd_C_commonDivisor_1 : decode bb_C_commonDivisor 1 = .ok (.istore_n 2, 1) := by decide +kernel
theorem dd_C_commonDivisor_2 : decode bb_C_commonDivisor 2 = .ok (.iload_n 1, 1) := by decide +kernel
theorem dd_C_commonDivisor_3 : decode bb_C_commonDivisor 3 = .ok (.istore_n 3, 1) := by decide +kernel
theorem dd_C_commonDivisor_4 : decode bb_C_commonDivisor 4 = .ok (.iconst 0, 1) := by decide +kernel
theorem dd_C_commonDivisor_5 : decode bb_C_commonDivisor 5 = .ok (.istore 4, 2) := by decide +kernel
theorem dd_C_commonDivisor_7 : decode bb_C_commonDivisor 7 = .ok (.iload 4, 2) := by decide +kernel
theorem dd_C_commonDivisor_9 : decode bb_C_commonDivisor 9 = .ok (.bipush 64, 2) := by decide +kernel
theorem dd_C_commonDivisor_11 : decode bb_C_commonDivisor 11 = .ok (.if_icmp .ge 23, 3) := by decide +kernel
theorem dd_C_commonDivisor_14 : decode bb_C_commonDivisor 14 = .ok (.iload_n 3, 1) := by decide +kernel
theorem dd_C_commonDivisor_15 : decode bb_C_commonDivisor 15 = .ok (.ifCond .eq 19, 3) := by decide +kernel
theorem dd_C_commonDivisor_18 : decode bb_C_commonDivisor 18 = .ok (.iload_n 2, 1) := by decide +kernel
theorem dd_C_commonDivisor_19 : decode bb_C_commonDivisor 19 = .ok (.iload_n 3, 1) := by decide +kernel
theorem dd_C_commonDivisor_20 : decode bb_C_commonDivisor 20 = .ok (.irem, 1) := by decide +kernel
theorem dd_C_commonDivisor_21 : decode bb_C_commonDivisor 21 = .ok (.istore 5, 2) := by decide +kernel
theorem dd_C_commonDivisor_23 : decode bb_C_commonDivisor 23 = .ok (.iload_n 3, 1) := by decide +kernel
theorem dd_C_commonDivisor_24 : decode bb_C_commonDivisor 24 = .ok (.istore_n 2, 1) := by decide +kernel
theorem dd_C_commonDivisor_25 : decode bb_C_commonDivisor 25 = .ok (.iload 5, 2) := by decide +kernel
theorem dd_C_commonDivisor_27 : decode bb_C_commonDivisor 27 = .ok (.istore_n 3, 1) := by decide +kernel
theorem dd_C_commonDivisor_28 : decode bb_C_commonDivisor 28 = .ok (.iinc 4 1, 3) := by decide +kernel
theorem dd_C_commonDivisor_31 : decode bb_C_commonDivisor 31 = .ok (.goto (-24), 3) := by decide +kernel
theorem dd_C_commonDivisor_34 : decode bb_C_commonDivisor 34 = .ok (.iload_n 2, 1) := by decide +kernel
theorem dd_C_commonDivisor_35 : decode bb_C_commonDivisor 35 = .ok (.ireturn, 1) := by decide +kernel
theorem dd_C_hoseLength_0 : decode bb_C_hoseLength 0 = .ok (.iload_n 0, 1) := by decide +kernel
theorem dd_C_hoseLength_1 : decode bb_C_hoseLength 1 = .ok (.iload_n 2, 1) := by decide +kernel
theorem dd_C_hoseLength_2 : decode bb_C_hoseLength 2 = .ok (.isub, 1) := by decide +kernel
theorem dd_C_hoseLength_3 : decode bb_C_hoseLength 3 = .ok (.invokestatic 294, 3) := by decide +kernel
theorem dd_C_hoseLength_6 : decode bb_C_hoseLength 6 = .ok (.iload_n 1, 1) := by decide +kernel
theorem dd_C_hoseLength_7 : decode bb_C_hoseLength 7 = .ok (.iload_n 3, 1) := by decide +kernel
theorem dd_C_hoseLength_8 : decode bb_C_hoseLength 8 = .ok (.isub, 1) := by decide +kernel
theorem dd_C_hoseLength_9 : decode bb_C_hoseLength 9 = .ok (.invokestatic 294, 3) := by decide +kernel
theorem dd_C_hoseLength_12 : decode bb_C_hoseLength 12 = .ok (.iadd, 1) := by decide +kernel
theorem dd_C_hoseLength_13 : decode bb_C_hoseLength 13 = .ok (.ireturn, 1) := by decide +kernel
theorem dd_H_init_0 : decode bb_H_init 0 = .ok (.aload_n 0, 1) := by decide +kernel
theorem dd_H_init_1 : decode bb_H_init 1 = .ok (.invokespecial 3, 3) := by decide +kernel
theorem dd_H_init_4 : decode bb_H_init 4 = .ok (.aload_n 0, 1) := by decide +kernel
theorem dd_H_init_5 : decode bb_H_init 5 = .ok (.iconst 3, 1) := by decide +kernel
theorem dd_H_init_6 : decode bb_H_init 6 = .ok (.anewarray 9, 3) := by decide +kernel
theorem dd_H_init_9 : decode bb_H_init 9 = .ok (.putfield 11, 3) := by decide +kernel
theorem dd_H_init_12 : decode bb_H_init 12 = .ok (.aload_n 0, 1) := by decide +kernel
theorem dd_H_init_13 : decode bb_H_init 13 = .ok (.iconst 0, 1) := by decide +kernel
theorem dd_H_init_14 : decode bb_H_init 14 = .ok (.putfield 17, 3) := by decide +kernel
theorem dd_H_init_17 : decode bb_H_init 17 = .ok (.aload_n 0, 1) := by decide +kernel
theorem dd_H_init_18 : decode bb_H_init 18 = .ok (.iconst 0, 1) := by decide +kernel
theorem dd_H_init_19 : decode bb_H_init 19 = .ok (.putfield 21, 3) := by decide +kernel
theorem dd_H_init_22 : decode bb_H_init 22 = .ok (.aload_n 0, 1) := by decide +kernel
theorem dd_H_init_23 : decode bb_H_init 23 = .ok (.iconst 0, 1) := by decide +kernel
theorem dd_H_init_24 : decode bb_H_init 24 = .ok (.putfield 24, 3) := by decide +kernel
theorem dd_H_init_27 : decode bb_H_init 27 = .ok (.aload_n 0, 1) := by decide +kernel
theorem dd_H_init_28 : decode bb_H_init 28 = .ok (.iconst 0, 1) := by decide +kernel
theorem dd_H_init_29 : decode bb_H_init 29 = .ok (.putfield 27, 3) := by decide +kernel
theorem dd_H_init_32 : decode bb_H_init 32 = .ok (.aload_n 0, 1) := by decide +kernel
theorem dd_H_init_33 : decode bb_H_init 33 = .ok (.aconst_null, 1) := by decide +kernel
theorem dd_H_init_34 : decode bb_H_init 34 = .ok (.putfield 30, 3) := by decide +kernel
theorem dd_H_init_37 : decode bb_H_init 37 = .ok (.aload_n 0, 1) := by decide +kernel
theorem dd_H_init_38 : decode bb_H_init 38 = .ok (.iload_n 1, 1) := by decide +kernel
theorem dd_H_init_39 : decode bb_H_init 39 = .ok (.putfield 34, 3) := by decide +kernel
theorem dd_H_init_42 : decode bb_H_init 42 = .ok (.aload_n 0, 1) := by decide +kernel
theorem dd_H_init_43 : decode bb_H_init 43 = .ok (.iload_n 2, 1) := by decide +kernel
theorem dd_H_init_44 : decode bb_H_init 44 = .ok (.putfield 37, 3) := by decide +kernel
theorem dd_H_init_47 : decode bb_H_init 47 = .ok (.aload_n 0, 1) := by decide +kernel
theorem dd_H_init_48 : decode bb_H_init 48 = .ok (.iload_n 3, 1) := by decide +kernel
theorem dd_H_init_49 : decode bb_H_init 49 = .ok (.putfield 40, 3) := by decide +kernel
theorem dd_H_init_52 : decode bb_H_init 52 = .ok (.aload_n 0, 1) := by decide +kernel
theorem dd_H_init_53 : decode bb_H_init 53 = .ok (.iload 4, 2) := by decide +kernel
theorem dd_H_init_55 : decode bb_H_init 55 = .ok (.putfield 43, 3) := by decide +kernel
theorem dd_H_init_58 : decode bb_H_init 58 = .ok (.aload_n 0, 1) := by decide +kernel
theorem dd_H_init_59 : decode bb_H_init 59 = .ok (.iload 5, 2) := by decide +kernel
theorem dd_H_init_61 : decode bb_H_init 61 = .ok (.putfield 46, 3) := by decide +kernel
theorem dd_H_init_64 : decode bb_H_init 64 = .ok (.return_, 1) := by decide +kernel
theorem dd_H_take_0 : decode bb_H_take 0 = .ok (.aload_n 0, 1) := by decide +kernel
theorem dd_H_take_1 : decode bb_H_take 1 = .ok (.dup, 1) := by decide +kernel
theorem dd_H_take_2 : decode bb_H_take 2 = .ok (.getfield 27, 3) := by decide +kernel
theorem dd_H_take_5 : decode bb_H_take 5 = .ok (.iconst 1, 1) := by decide +kernel
theorem dd_H_take_6 : decode bb_H_take 6 = .ok (.iadd, 1) := by decide +kernel
theorem dd_H_take_7 : decode bb_H_take 7 = .ok (.putfield 27, 3) := by decide +kernel
theorem dd_H_take_10 : decode bb_H_take 10 = .ok (.aload_n 0, 1) := by decide +kernel
theorem dd_H_take_11 : decode bb_H_take 11 = .ok (.getfield 30, 3) := by decide +kernel
theorem dd_H_take_14 : decode bb_H_take 14 = .ok (.ifnull 17, 3) := by decide +kernel
theorem dd_H_take_17 : decode bb_H_take 17 = .ok (.aload_n 1, 1) := by decide +kernel
theorem dd_H_take_18 : decode bb_H_take 18 = .ok (.getfield 49, 3) := by decide +kernel
theorem dd_H_take_21 : decode bb_H_take 21 = .ok (.aload_n 0, 1) := by decide +kernel
theorem dd_H_take_22 : decode bb_H_take 22 = .ok (.getfield 30, 3) := by decide +kernel
theorem dd_H_take_25 : decode bb_H_take 25 = .ok (.getfield 49, 3) := by decide +kernel
theorem dd_H_take_28 : decode bb_H_take 28 = .ok (.if_icmp .lt 8, 3) := by decide +kernel
theorem dd_H_take_31 : decode bb_H_take 31 = .ok (.aload_n 0, 1) := by decide +kernel
theorem dd_H_take_32 : decode bb_H_take 32 = .ok (.aload_n 1, 1) := by decide +kernel
theorem dd_H_take_33 : decode bb_H_take 33 = .ok (.putfield 30, 3) := by decide +kernel
theorem dd_H_take_36 : decode bb_H_take 36 = .ok (.return_, 1) := by decide +kernel
theorem dd_H_countingNumber_0 : decode bb_H_countingNumber 0 = .ok (.aload_n 0, 1) := by decide +kernel
theorem dd_H_countingNumber_1 : decode bb_H_countingNumber 1 = .ok (.getfield 30, 3) := by decide +kernel
theorem dd_H_countingNumber_4 : decode bb_H_countingNumber 4 = .ok (.ifnonnull 7, 3) := by decide +kernel
theorem dd_H_countingNumber_7 : decode bb_H_countingNumber 7 = .ok (.iconst (-1), 1) := by decide +kernel
theorem dd_H_countingNumber_8 : decode bb_H_countingNumber 8 = .ok (.goto 10, 3) := by decide +kernel
theorem dd_H_countingNumber_11 : decode bb_H_countingNumber 11 = .ok (.aload_n 0, 1) := by decide +kernel
theorem dd_H_countingNumber_12 : decode bb_H_countingNumber 12 = .ok (.getfield 30, 3) := by decide +kernel
theorem dd_H_countingNumber_15 : decode bb_H_countingNumber 15 = .ok (.getfield 54, 3) := by decide +kernel
theorem dd_H_countingNumber_18 : decode bb_H_countingNumber 18 = .ok (.ireturn, 1) := by decide +kernel
theorem dd_H_hasWorksWithin_0 : decode bb_H_hasWorksWithin 0 = .ok (.aload_n 0, 1) := by decide +kernel
theorem dd_H_hasWorksWithin_1 : decode bb_H_hasWorksWithin 1 = .ok (.getfield 11, 3) := by decide +kernel
theorem dd_H_hasWorksWithin_4 : decode bb_H_hasWorksWithin 4 = .ok (.astore_n 3, 1) := by decide +kernel
theorem dd_H_hasWorksWithin_5 : decode bb_H_hasWorksWithin 5 = .ok (.aload_n 3, 1) := by decide +kernel
theorem dd_H_hasWorksWithin_6 : decode bb_H_hasWorksWithin 6 = .ok (.arraylength, 1) := by decide +kernel
theorem dd_H_hasWorksWithin_7 : decode bb_H_hasWorksWithin 7 = .ok (.istore 4, 2) := by decide +kernel
theorem dd_H_hasWorksWithin_9 : decode bb_H_hasWorksWithin 9 = .ok (.iconst 0, 1) := by decide +kernel
theorem dd_H_hasWorksWithin_10 : decode bb_H_hasWorksWithin 10 = .ok (.istore 5, 2) := by decide +kernel
theorem dd_H_hasWorksWithin_12 : decode bb_H_hasWorksWithin 12 = .ok (.iload 5, 2) := by decide +kernel
theorem dd_H_hasWorksWithin_14 : decode bb_H_hasWorksWithin 14 = .ok (.iload 4, 2) := by decide +kernel
theorem dd_H_hasWorksWithin_16 : decode bb_H_hasWorksWithin 16 = .ok (.if_icmp .ge 32, 3) := by decide +kernel
theorem dd_H_hasWorksWithin_19 : decode bb_H_hasWorksWithin 19 = .ok (.aload_n 3, 1) := by decide +kernel
theorem dd_H_hasWorksWithin_20 : decode bb_H_hasWorksWithin 20 = .ok (.iload 5, 2) := by decide +kernel
theorem dd_H_hasWorksWithin_22 : decode bb_H_hasWorksWithin 22 = .ok (.aaload, 1) := by decide +kernel
theorem dd_H_hasWorksWithin_23 : decode bb_H_hasWorksWithin 23 = .ok (.astore 6, 2) := by decide +kernel
theorem dd_H_hasWorksWithin_25 : decode bb_H_hasWorksWithin 25 = .ok (.aload 6, 2) := by decide +kernel
theorem dd_H_hasWorksWithin_27 : decode bb_H_hasWorksWithin 27 = .ok (.ifnull 15, 3) := by decide +kernel
theorem dd_H_hasWorksWithin_30 : decode bb_H_hasWorksWithin 30 = .ok (.aload 6, 2) := by decide +kernel
theorem dd_H_hasWorksWithin_32 : decode bb_H_hasWorksWithin 32 = .ok (.iload_n 1, 1) := by decide +kernel
theorem dd_H_hasWorksWithin_33 : decode bb_H_hasWorksWithin 33 = .ok (.iload_n 2, 1) := by decide +kernel
theorem dd_H_hasWorksWithin_34 : decode bb_H_hasWorksWithin 34 = .ok (.invokevirtual 55, 3) := by decide +kernel
theorem dd_H_hasWorksWithin_37 : decode bb_H_hasWorksWithin 37 = .ok (.ifCond .eq 5, 3) := by decide +kernel
theorem dd_H_hasWorksWithin_40 : decode bb_H_hasWorksWithin 40 = .ok (.iconst 1, 1) := by decide +kernel
theorem dd_H_hasWorksWithin_41 : decode bb_H_hasWorksWithin 41 = .ok (.ireturn, 1) := by decide +kernel
theorem dd_H_hasWorksWithin_42 : decode bb_H_hasWorksWithin 42 = .ok (.iinc 5 1, 3) := by decide +kernel
theorem dd_H_hasWorksWithin_45 : decode bb_H_hasWorksWithin 45 = .ok (.goto (-33), 3) := by decide +kernel
theorem dd_H_hasWorksWithin_48 : decode bb_H_hasWorksWithin 48 = .ok (.iconst 0, 1) := by decide +kernel
theorem dd_H_hasWorksWithin_49 : decode bb_H_hasWorksWithin 49 = .ok (.ireturn, 1) := by decide +kernel
theorem dd_H_addWorks_0 : decode bb_H_addWorks 0 = .ok (.aload_n 0, 1) := by decide +kernel
theorem dd_H_addWorks_1 : decode bb_H_addWorks 1 = .ok (.getfield 17, 3) := by decide +kernel
theorem dd_H_addWorks_4 : decode bb_H_addWorks 4 = .ok (.ifCond .lt 15, 3) := by decide +kernel
theorem dd_H_addWorks_7 : decode bb_H_addWorks 7 = .ok (.aload_n 0, 1) := by decide +kernel
theorem dd_H_addWorks_8 : decode bb_H_addWorks 8 = .ok (.getfield 17, 3) := by decide +kernel
theorem dd_H_addWorks_11 : decode bb_H_addWorks 11 = .ok (.aload_n 0, 1) := by decide +kernel
theorem dd_H_addWorks_12 : decode bb_H_addWorks 12 = .ok (.getfield 11, 3) := by decide +kernel
theorem dd_H_addWorks_15 : decode bb_H_addWorks 15 = .ok (.arraylength, 1) := by decide +kernel
theorem dd_H_addWorks_16 : decode bb_H_addWorks 16 = .ok (.if_icmp .lt 5, 3) := by decide +kernel
theorem dd_H_addWorks_19 : decode bb_H_addWorks 19 = .ok (.iconst 0, 1) := by decide +kernel
theorem dd_H_addWorks_20 : decode bb_H_addWorks 20 = .ok (.ireturn, 1) := by decide +kernel
theorem dd_H_addWorks_21 : decode bb_H_addWorks 21 = .ok (.aload_n 0, 1) := by decide +kernel
theorem dd_H_addWorks_22 : decode bb_H_addWorks 22 = .ok (.getfield 11, 3) := by decide +kernel
theorem dd_H_addWorks_25 : decode bb_H_addWorks 25 = .ok (.aload_n 0, 1) := by decide +kernel
theorem dd_H_addWorks_26 : decode bb_H_addWorks 26 = .ok (.getfield 17, 3) := by decide +kernel
theorem dd_H_addWorks_29 : decode bb_H_addWorks 29 = .ok (.new 9, 3) := by decide +kernel
theorem dd_H_addWorks_32 : decode bb_H_addWorks 32 = .ok (.dup, 1) := by decide +kernel
theorem dd_H_addWorks_33 : decode bb_H_addWorks 33 = .ok (.iload_n 1, 1) := by decide +kernel
theorem dd_H_addWorks_34 : decode bb_H_addWorks 34 = .ok (.iload_n 2, 1) := by decide +kernel
theorem dd_H_addWorks_35 : decode bb_H_addWorks 35 = .ok (.invokespecial 59, 3) := by decide +kernel
theorem dd_H_addWorks_38 : decode bb_H_addWorks 38 = .ok (.aastore, 1) := by decide +kernel
theorem dd_H_addWorks_39 : decode bb_H_addWorks 39 = .ok (.aload_n 0, 1) := by decide +kernel
theorem dd_H_addWorks_40 : decode bb_H_addWorks 40 = .ok (.dup, 1) := by decide +kernel
theorem dd_H_addWorks_41 : decode bb_H_addWorks 41 = .ok (.getfield 17, 3) := by decide +kernel
theorem dd_H_addWorks_44 : decode bb_H_addWorks 44 = .ok (.iconst 1, 1) := by decide +kernel
theorem dd_H_addWorks_45 : decode bb_H_addWorks 45 = .ok (.iadd, 1) := by decide +kernel
theorem dd_H_addWorks_46 : decode bb_H_addWorks 46 = .ok (.putfield 17, 3) := by decide +kernel
theorem dd_H_addWorks_49 : decode bb_H_addWorks 49 = .ok (.iconst 1, 1) := by decide +kernel
theorem dd_H_addWorks_50 : decode bb_H_addWorks 50 = .ok (.ireturn, 1) := by decide +kernel
theorem dd_H_setDry_0 : decode bb_H_setDry 0 = .ok (.iconst 1, 1) := by decide +kernel
theorem dd_H_setDry_1 : decode bb_H_setDry 1 = .ok (.iload_n 1, 1) := by decide +kernel
theorem dd_H_setDry_2 : decode bb_H_setDry 2 = .ok (.ishl, 1) := by decide +kernel
theorem dd_H_setDry_3 : decode bb_H_setDry 3 = .ok (.istore_n 3, 1) := by decide +kernel
theorem dd_H_setDry_4 : decode bb_H_setDry 4 = .ok (.aload_n 0, 1) := by decide +kernel
theorem dd_H_setDry_5 : decode bb_H_setDry 5 = .ok (.iload_n 2, 1) := by decide +kernel
theorem dd_H_setDry_6 : decode bb_H_setDry 6 = .ok (.ifCond .eq 12, 3) := by decide +kernel
theorem dd_H_setDry_9 : decode bb_H_setDry 9 = .ok (.aload_n 0, 1) := by decide +kernel
theorem dd_H_setDry_10 : decode bb_H_setDry 10 = .ok (.getfield 24, 3) := by decide +kernel
theorem dd_H_setDry_13 : decode bb_H_setDry 13 = .ok (.iload_n 3, 1) := by decide +kernel
theorem dd_H_setDry_14 : decode bb_H_setDry 14 = .ok (.ior, 1) := by decide +kernel
theorem dd_H_setDry_15 : decode bb_H_setDry 15 = .ok (.goto 11, 3) := by decide +kernel
theorem dd_H_setDry_18 : decode bb_H_setDry 18 = .ok (.aload_n 0, 1) := by decide +kernel
theorem dd_H_setDry_19 : decode bb_H_setDry 19 = .ok (.getfield 24, 3) := by decide +kernel
theorem dd_H_setDry_22 : decode bb_H_setDry 22 = .ok (.iload_n 3, 1) := by decide +kernel
theorem dd_H_setDry_23 : decode bb_H_setDry 23 = .ok (.iconst (-1), 1) := by decide +kernel
theorem dd_H_setDry_24 : decode bb_H_setDry 24 = .ok (.ixor, 1) := by decide +kernel
theorem dd_H_setDry_25 : decode bb_H_setDry 25 = .ok (.iand, 1) := by decide +kernel
theorem dd_H_setDry_26 : decode bb_H_setDry 26 = .ok (.putfield 24, 3) := by decide +kernel
theorem dd_H_setDry_29 : decode bb_H_setDry 29 = .ok (.return_, 1) := by decide +kernel
theorem dd_H_isDry_0 : decode bb_H_isDry 0 = .ok (.iload_n 1, 1) := by decide +kernel
theorem dd_H_isDry_1 : decode bb_H_isDry 1 = .ok (.sipush 360, 3) := by decide +kernel
theorem dd_H_isDry_4 : decode bb_H_isDry 4 = .ok (.irem, 1) := by decide +kernel
theorem dd_H_isDry_5 : decode bb_H_isDry 5 = .ok (.bipush 30, 2) := by decide +kernel
theorem dd_H_isDry_7 : decode bb_H_isDry 7 = .ok (.idiv, 1) := by decide +kernel
theorem dd_H_isDry_8 : decode bb_H_isDry 8 = .ok (.istore_n 2, 1) := by decide +kernel
theorem dd_H_isDry_9 : decode bb_H_isDry 9 = .ok (.aload_n 0, 1) := by decide +kernel
theorem dd_H_isDry_10 : decode bb_H_isDry 10 = .ok (.getfield 24, 3) := by decide +kernel
theorem dd_H_isDry_13 : decode bb_H_isDry 13 = .ok (.iload_n 2, 1) := by decide +kernel
theorem dd_H_isDry_14 : decode bb_H_isDry 14 = .ok (.iushr, 1) := by decide +kernel
theorem dd_H_isDry_15 : decode bb_H_isDry 15 = .ok (.iconst 1, 1) := by decide +kernel
theorem dd_H_isDry_16 : decode bb_H_isDry 16 = .ok (.iand, 1) := by decide +kernel
theorem dd_H_isDry_17 : decode bb_H_isDry 17 = .ok (.ifCond .eq 7, 3) := by decide +kernel
theorem dd_H_isDry_20 : decode bb_H_isDry 20 = .ok (.iconst 1, 1) := by decide +kernel
theorem dd_H_isDry_21 : decode bb_H_isDry 21 = .ok (.goto 4, 3) := by decide +kernel
theorem dd_H_isDry_24 : decode bb_H_isDry 24 = .ok (.iconst 0, 1) := by decide +kernel
theorem dd_H_isDry_25 : decode bb_H_isDry 25 = .ok (.ireturn, 1) := by decide +kernel
theorem dd_H_isUsable_0 : decode bb_H_isUsable 0 = .ok (.aload_n 0, 1) := by decide +kernel
theorem dd_H_isUsable_1 : decode bb_H_isUsable 1 = .ok (.getfield 21, 3) := by decide +kernel
theorem dd_H_isUsable_4 : decode bb_H_isUsable 4 = .ok (.iconst 2, 1) := by decide +kernel
theorem dd_H_isUsable_5 : decode bb_H_isUsable 5 = .ok (.if_icmp .eq 36, 3) := by decide +kernel
theorem dd_H_isUsable_8 : decode bb_H_isUsable 8 = .ok (.aload_n 0, 1) := by decide +kernel
theorem dd_H_isUsable_9 : decode bb_H_isUsable 9 = .ok (.getfield 46, 3) := by decide +kernel
theorem dd_H_isUsable_12 : decode bb_H_isUsable 12 = .ok (.iconst 1, 1) := by decide +kernel
theorem dd_H_isUsable_13 : decode bb_H_isUsable 13 = .ok (.if_icmp .ne 7, 3) := by decide +kernel
theorem dd_H_isUsable_16 : decode bb_H_isUsable 16 = .ok (.iload_n 2, 1) := by decide +kernel
theorem dd_H_isUsable_17 : decode bb_H_isUsable 17 = .ok (.ifCond .eq 24, 3) := by decide +kernel
theorem dd_H_isUsable_20 : decode bb_H_isUsable 20 = .ok (.aload_n 0, 1) := by decide +kernel
theorem dd_H_isUsable_21 : decode bb_H_isUsable 21 = .ok (.iload_n 1, 1) := by decide +kernel
theorem dd_H_isUsable_22 : decode bb_H_isUsable 22 = .ok (.invokevirtual 62, 3) := by decide +kernel
theorem dd_H_isUsable_25 : decode bb_H_isUsable 25 = .ok (.ifCond .ne 16, 3) := by decide +kernel
theorem dd_H_isUsable_28 : decode bb_H_isUsable 28 = .ok (.aload_n 0, 1) := by decide +kernel
theorem dd_H_isUsable_29 : decode bb_H_isUsable 29 = .ok (.iload_n 1, 1) := by decide +kernel
theorem dd_H_isUsable_30 : decode bb_H_isUsable 30 = .ok (.iload_n 1, 1) := by decide +kernel
theorem dd_H_isUsable_31 : decode bb_H_isUsable 31 = .ok (.invokevirtual 66, 3) := by decide +kernel
theorem dd_H_isUsable_34 : decode bb_H_isUsable 34 = .ok (.ifCond .ne 7, 3) := by decide +kernel
theorem dd_H_isUsable_37 : decode bb_H_isUsable 37 = .ok (.iconst 1, 1) := by decide +kernel
theorem dd_H_isUsable_38 : decode bb_H_isUsable 38 = .ok (.goto 4, 3) := by decide +kernel
theorem dd_H_isUsable_41 : decode bb_H_isUsable 41 = .ok (.iconst 0, 1) := by decide +kernel
theorem dd_H_isUsable_42 : decode bb_H_isUsable 42 = .ok (.ireturn, 1) := by decide +kernel
theorem dd_H_hoseFrom_0 : decode bb_H_hoseFrom 0 = .ok (.aload_n 0, 1) := by decide +kernel
theorem dd_H_hoseFrom_1 : decode bb_H_hoseFrom 1 = .ok (.getfield 37, 3) := by decide +kernel
theorem dd_H_hoseFrom_4 : decode bb_H_hoseFrom 4 = .ok (.aload_n 0, 1) := by decide +kernel
theorem dd_H_hoseFrom_5 : decode bb_H_hoseFrom 5 = .ok (.getfield 40, 3) := by decide +kernel
theorem dd_H_hoseFrom_8 : decode bb_H_hoseFrom 8 = .ok (.iload_n 1, 1) := by decide +kernel
theorem dd_H_hoseFrom_9 : decode bb_H_hoseFrom 9 = .ok (.iload_n 2, 1) := by decide +kernel
theorem dd_H_hoseFrom_10 : decode bb_H_hoseFrom 10 = .ok (.invokestatic 69, 3) := by decide +kernel
theorem dd_H_hoseFrom_13 : decode bb_H_hoseFrom 13 = .ok (.ireturn, 1) := by decide +kernel
theorem dd_H_givenAt_0 : decode bb_H_givenAt 0 = .ok (.aload_n 0, 1) := by decide +kernel
theorem dd_H_givenAt_1 : decode bb_H_givenAt 1 = .ok (.getfield 30, 3) := by decide +kernel
theorem dd_H_givenAt_4 : decode bb_H_givenAt 4 = .ok (.ifnonnull 7, 3) := by decide +kernel
theorem dd_H_givenAt_7 : decode bb_H_givenAt 7 = .ok (.iconst 0, 1) := by decide +kernel
theorem dd_H_givenAt_8 : decode bb_H_givenAt 8 = .ok (.goto 11, 3) := by decide +kernel
theorem dd_H_givenAt_11 : decode bb_H_givenAt 11 = .ok (.aload_n 0, 1) := by decide +kernel
theorem dd_H_givenAt_12 : decode bb_H_givenAt 12 = .ok (.getfield 30, 3) := by decide +kernel
theorem dd_H_givenAt_15 : decode bb_H_givenAt 15 = .ok (.iload_n 1, 1) := by decide +kernel
theorem dd_H_givenAt_16 : decode bb_H_givenAt 16 = .ok (.invokevirtual 73, 3) := by decide +kernel
theorem dd_H_givenAt_19 : decode bb_H_givenAt 19 = .ok (.ireturn, 1) := by decide +kernel
theorem dd_H_isOverdue_0 : decode bb_H_isOverdue 0 = .ok (.aload_n 0, 1) := by decide +kernel
theorem dd_H_isOverdue_1 : decode bb_H_isOverdue 1 = .ok (.getfield 30, 3) := by decide +kernel
theorem dd_H_isOverdue_4 : decode bb_H_isOverdue 4 = .ok (.ifnull 16, 3) := by decide +kernel
theorem dd_H_isOverdue_7 : decode bb_H_isOverdue 7 = .ok (.iload_n 1, 1) := by decide +kernel
theorem dd_H_isOverdue_8 : decode bb_H_isOverdue 8 = .ok (.aload_n 0, 1) := by decide +kernel
theorem dd_H_isOverdue_9 : decode bb_H_isOverdue 9 = .ok (.getfield 30, 3) := by decide +kernel
theorem dd_H_isOverdue_12 : decode bb_H_isOverdue 12 = .ok (.getfield 49, 3) := by decide +kernel
theorem dd_H_isOverdue_15 : decode bb_H_isOverdue 15 = .ok (.isub, 1) := by decide +kernel
theorem dd_H_isOverdue_16 : decode bb_H_isOverdue 16 = .ok (.iload_n 2, 1) := by decide +kernel
theorem dd_H_isOverdue_17 : decode bb_H_isOverdue 17 = .ok (.if_icmp .le 7, 3) := by decide +kernel
theorem dd_H_isOverdue_20 : decode bb_H_isOverdue 20 = .ok (.iconst 1, 1) := by decide +kernel
theorem dd_H_isOverdue_21 : decode bb_H_isOverdue 21 = .ok (.goto 4, 3) := by decide +kernel
theorem dd_H_isOverdue_24 : decode bb_H_isOverdue 24 = .ok (.iconst 0, 1) := by decide +kernel
theorem dd_H_isOverdue_25 : decode bb_H_isOverdue 25 = .ok (.ireturn, 1) := by decide +kernel
theorem dd_H_overdueWeight_0 : decode bb_H_overdueWeight 0 = .ok (.aload_n 0, 1) := by decide +kernel
theorem dd_H_overdueWeight_1 : decode bb_H_overdueWeight 1 = .ok (.getfield 30, 3) := by decide +kernel
theorem dd_H_overdueWeight_4 : decode bb_H_overdueWeight 4 = .ok (.ifnonnull 7, 3) := by decide +kernel
theorem dd_H_overdueWeight_7 : decode bb_H_overdueWeight 7 = .ok (.iconst 0, 1) := by decide +kernel
theorem dd_H_overdueWeight_8 : decode bb_H_overdueWeight 8 = .ok (.goto 12, 3) := by decide +kernel
theorem dd_H_overdueWeight_11 : decode bb_H_overdueWeight 11 = .ok (.aload_n 0, 1) := by decide +kernel
theorem dd_H_overdueWeight_12 : decode bb_H_overdueWeight 12 = .ok (.getfield 30, 3) := by decide +kernel
theorem dd_H_overdueWeight_15 : decode bb_H_overdueWeight 15 = .ok (.getfield 49, 3) := by decide +kernel
theorem dd_H_overdueWeight_18 : decode bb_H_overdueWeight 18 = .ok (.iconst 1, 1) := by decide +kernel
theorem dd_H_overdueWeight_19 : decode bb_H_overdueWeight 19 = .ok (.iadd, 1) := by decide +kernel
theorem dd_H_overdueWeight_20 : decode bb_H_overdueWeight 20 = .ok (.ireturn, 1) := by decide +kernel
theorem dd_T_init_0 : decode bb_T_init 0 = .ok (.aload_n 0, 1) := by decide +kernel
theorem dd_T_init_1 : decode bb_T_init 1 = .ok (.invokespecial 1, 3) := by decide +kernel
theorem dd_T_init_4 : decode bb_T_init 4 = .ok (.aload_n 0, 1) := by decide +kernel
theorem dd_T_init_5 : decode bb_T_init 5 = .ok (.iload_n 1, 1) := by decide +kernel
theorem dd_T_init_6 : decode bb_T_init 6 = .ok (.putfield 7, 3) := by decide +kernel
theorem dd_T_init_9 : decode bb_T_init 9 = .ok (.aload_n 0, 1) := by decide +kernel
theorem dd_T_init_10 : decode bb_T_init 10 = .ok (.iload_n 2, 1) := by decide +kernel
theorem dd_T_init_11 : decode bb_T_init 11 = .ok (.putfield 13, 3) := by decide +kernel
theorem dd_T_init_14 : decode bb_T_init 14 = .ok (.aload_n 0, 1) := by decide +kernel
theorem dd_T_init_15 : decode bb_T_init 15 = .ok (.iload_n 3, 1) := by decide +kernel
theorem dd_T_init_16 : decode bb_T_init 16 = .ok (.putfield 16, 3) := by decide +kernel
theorem dd_T_init_19 : decode bb_T_init 19 = .ok (.aload_n 0, 1) := by decide +kernel
theorem dd_T_init_20 : decode bb_T_init 20 = .ok (.iload 4, 2) := by decide +kernel
theorem dd_T_init_22 : decode bb_T_init 22 = .ok (.putfield 19, 3) := by decide +kernel
theorem dd_T_init_25 : decode bb_T_init 25 = .ok (.aload_n 0, 1) := by decide +kernel
theorem dd_T_init_26 : decode bb_T_init 26 = .ok (.iload 5, 2) := by decide +kernel
theorem dd_T_init_28 : decode bb_T_init 28 = .ok (.putfield 22, 3) := by decide +kernel
theorem dd_T_init_31 : decode bb_T_init 31 = .ok (.aload_n 0, 1) := by decide +kernel
theorem dd_T_init_32 : decode bb_T_init 32 = .ok (.iload 6, 2) := by decide +kernel
theorem dd_T_init_34 : decode bb_T_init 34 = .ok (.putfield 25, 3) := by decide +kernel
theorem dd_T_init_37 : decode bb_T_init 37 = .ok (.return_, 1) := by decide +kernel
theorem dd_T_canTell_0 : decode bb_T_canTell 0 = .ok (.aload_n 0, 1) := by decide +kernel
theorem dd_T_canTell_1 : decode bb_T_canTell 1 = .ok (.iload_n 1, 1) := by decide +kernel
theorem dd_T_canTell_2 : decode bb_T_canTell 2 = .ok (.invokevirtual 28, 3) := by decide +kernel
theorem dd_T_canTell_5 : decode bb_T_canTell 5 = .ok (.ifCond .le 7, 3) := by decide +kernel
theorem dd_T_canTell_8 : decode bb_T_canTell 8 = .ok (.iconst 1, 1) := by decide +kernel
theorem dd_T_canTell_9 : decode bb_T_canTell 9 = .ok (.goto 4, 3) := by decide +kernel
theorem dd_T_canTell_12 : decode bb_T_canTell 12 = .ok (.iconst 0, 1) := by decide +kernel
theorem dd_T_canTell_13 : decode bb_T_canTell 13 = .ok (.ireturn, 1) := by decide +kernel
theorem dd_T_upperAt_0 : decode bb_T_upperAt 0 = .ok (.iload_n 1, 1) := by decide +kernel
theorem dd_T_upperAt_1 : decode bb_T_upperAt 1 = .ok (.aload_n 0, 1) := by decide +kernel
theorem dd_T_upperAt_2 : decode bb_T_upperAt 2 = .ok (.getfield 19, 3) := by decide +kernel
theorem dd_T_upperAt_5 : decode bb_T_upperAt 5 = .ok (.if_icmp .lt 7, 3) := by decide +kernel
theorem dd_T_upperAt_8 : decode bb_T_upperAt 8 = .ok (.iconst 0, 1) := by decide +kernel
theorem dd_T_upperAt_9 : decode bb_T_upperAt 9 = .ok (.goto 14, 3) := by decide +kernel
theorem dd_T_upperAt_12 : decode bb_T_upperAt 12 = .ok (.aload_n 0, 1) := by decide +kernel
theorem dd_T_upperAt_13 : decode bb_T_upperAt 13 = .ok (.getfield 22, 3) := by decide +kernel
theorem dd_T_upperAt_16 : decode bb_T_upperAt 16 = .ok (.aload_n 0, 1) := by decide +kernel
theorem dd_T_upperAt_17 : decode bb_T_upperAt 17 = .ok (.getfield 19, 3) := by decide +kernel
theorem dd_T_upperAt_20 : decode bb_T_upperAt 20 = .ok (.iload_n 1, 1) := by decide +kernel
theorem dd_T_upperAt_21 : decode bb_T_upperAt 21 = .ok (.isub, 1) := by decide +kernel
theorem dd_T_upperAt_22 : decode bb_T_upperAt 22 = .ok (.imul, 1) := by decide +kernel
theorem dd_T_upperAt_23 : decode bb_T_upperAt 23 = .ok (.ireturn, 1) := by decide +kernel
theorem dd_T_lowerAt_0 : decode bb_T_lowerAt 0 = .ok (.iload_n 1, 1) := by decide +kernel
theorem dd_T_lowerAt_1 : decode bb_T_lowerAt 1 = .ok (.aload_n 0, 1) := by decide +kernel
theorem dd_T_lowerAt_2 : decode bb_T_lowerAt 2 = .ok (.getfield 19, 3) := by decide +kernel
theorem dd_T_lowerAt_5 : decode bb_T_lowerAt 5 = .ok (.if_icmp .lt 7, 3) := by decide +kernel
theorem dd_T_lowerAt_8 : decode bb_T_lowerAt 8 = .ok (.iconst 1, 1) := by decide +kernel
theorem dd_T_lowerAt_9 : decode bb_T_lowerAt 9 = .ok (.goto 12, 3) := by decide +kernel
theorem dd_T_lowerAt_12 : decode bb_T_lowerAt 12 = .ok (.aload_n 0, 1) := by decide +kernel
theorem dd_T_lowerAt_13 : decode bb_T_lowerAt 13 = .ok (.getfield 19, 3) := by decide +kernel
theorem dd_T_lowerAt_16 : decode bb_T_lowerAt 16 = .ok (.aload_n 0, 1) := by decide +kernel
theorem dd_T_lowerAt_17 : decode bb_T_lowerAt 17 = .ok (.getfield 25, 3) := by decide +kernel
theorem dd_T_lowerAt_20 : decode bb_T_lowerAt 20 = .ok (.isub, 1) := by decide +kernel
theorem dd_T_lowerAt_21 : decode bb_T_lowerAt 21 = .ok (.ireturn, 1) := by decide +kernel
theorem dd_T_wholeAt_0 : decode bb_T_wholeAt 0 = .ok (.aload_n 0, 1) := by decide +kernel
theorem dd_T_wholeAt_1 : decode bb_T_wholeAt 1 = .ok (.iload_n 1, 1) := by decide +kernel
theorem dd_T_wholeAt_2 : decode bb_T_wholeAt 2 = .ok (.invokevirtual 28, 3) := by decide +kernel
theorem dd_T_wholeAt_5 : decode bb_T_wholeAt 5 = .ok (.istore_n 2, 1) := by decide +kernel
theorem dd_T_wholeAt_6 : decode bb_T_wholeAt 6 = .ok (.iload_n 2, 1) := by decide +kernel
theorem dd_T_wholeAt_7 : decode bb_T_wholeAt 7 = .ok (.ifCond .le 13, 3) := by decide +kernel
theorem dd_T_wholeAt_10 : decode bb_T_wholeAt 10 = .ok (.aload_n 0, 1) := by decide +kernel
theorem dd_T_wholeAt_11 : decode bb_T_wholeAt 11 = .ok (.iload_n 1, 1) := by decide +kernel
theorem dd_T_wholeAt_12 : decode bb_T_wholeAt 12 = .ok (.invokevirtual 32, 3) := by decide +kernel
theorem dd_T_wholeAt_15 : decode bb_T_wholeAt 15 = .ok (.iload_n 2, 1) := by decide +kernel
theorem dd_T_wholeAt_16 : decode bb_T_wholeAt 16 = .ok (.idiv, 1) := by decide +kernel
theorem dd_T_wholeAt_17 : decode bb_T_wholeAt 17 = .ok (.goto 4, 3) := by decide +kernel
theorem dd_T_wholeAt_20 : decode bb_T_wholeAt 20 = .ok (.iconst 0, 1) := by decide +kernel
theorem dd_T_wholeAt_21 : decode bb_T_wholeAt 21 = .ok (.ireturn, 1) := by decide +kernel
theorem dd_O_init_0 : decode bb_O_init 0 = .ok (.aload_n 0, 1) := by decide +kernel
theorem dd_O_init_1 : decode bb_O_init 1 = .ok (.invokespecial 1, 3) := by decide +kernel
theorem dd_O_init_4 : decode bb_O_init 4 = .ok (.aload_n 0, 1) := by decide +kernel
theorem dd_O_init_5 : decode bb_O_init 5 = .ok (.iload_n 1, 1) := by decide +kernel
theorem dd_O_init_6 : decode bb_O_init 6 = .ok (.putfield 7, 3) := by decide +kernel
theorem dd_O_init_9 : decode bb_O_init 9 = .ok (.aload_n 0, 1) := by decide +kernel
theorem dd_O_init_10 : decode bb_O_init 10 = .ok (.iload_n 2, 1) := by decide +kernel
theorem dd_O_init_11 : decode bb_O_init 11 = .ok (.putfield 13, 3) := by decide +kernel
theorem dd_O_init_14 : decode bb_O_init 14 = .ok (.return_, 1) := by decide +kernel
theorem dd_O_meet_0 : decode bb_O_meet 0 = .ok (.iload_n 1, 1) := by decide +kernel
theorem dd_O_meet_1 : decode bb_O_meet 1 = .ok (.aload_n 0, 1) := by decide +kernel
theorem dd_O_meet_2 : decode bb_O_meet 2 = .ok (.getfield 13, 3) := by decide +kernel
theorem dd_O_meet_5 : decode bb_O_meet 5 = .ok (.if_icmp .gt 15, 3) := by decide +kernel
theorem dd_O_meet_8 : decode bb_O_meet 8 = .ok (.aload_n 0, 1) := by decide +kernel
theorem dd_O_meet_9 : decode bb_O_meet 9 = .ok (.getfield 7, 3) := by decide +kernel
theorem dd_O_meet_12 : decode bb_O_meet 12 = .ok (.iload_n 2, 1) := by decide +kernel
theorem dd_O_meet_13 : decode bb_O_meet 13 = .ok (.if_icmp .gt 7, 3) := by decide +kernel
theorem dd_O_meet_16 : decode bb_O_meet 16 = .ok (.iconst 1, 1) := by decide +kernel
theorem dd_O_meet_17 : decode bb_O_meet 17 = .ok (.goto 4, 3) := by decide +kernel
theorem dd_O_meet_20 : decode bb_O_meet 20 = .ok (.iconst 0, 1) := by decide +kernel
theorem dd_O_meet_21 : decode bb_O_meet 21 = .ok (.ireturn, 1) := by decide +kernel
theorem dd_K_init_0 : decode bb_K_init 0 = .ok (.aload_n 0, 1) := by decide +kernel
theorem dd_K_init_1 : decode bb_K_init 1 = .ok (.invokespecial 3, 3) := by decide +kernel
theorem dd_K_init_4 : decode bb_K_init 4 = .ok (.aload_n 0, 1) := by decide +kernel
theorem dd_K_init_5 : decode bb_K_init 5 = .ok (.bipush 40, 2) := by decide +kernel
theorem dd_K_init_7 : decode bb_K_init 7 = .ok (.newarray .int, 2) := by decide +kernel
theorem dd_K_init_9 : decode bb_K_init 9 = .ok (.putfield 9, 3) := by decide +kernel
theorem dd_K_init_12 : decode bb_K_init 12 = .ok (.aload_n 0, 1) := by decide +kernel
theorem dd_K_init_13 : decode bb_K_init 13 = .ok (.iconst 0, 1) := by decide +kernel
theorem dd_K_init_14 : decode bb_K_init 14 = .ok (.putfield 15, 3) := by decide +kernel
theorem dd_K_init_17 : decode bb_K_init 17 = .ok (.return_, 1) := by decide +kernel
theorem dd_K_clear_0 : decode bb_K_clear 0 = .ok (.aload_n 0, 1) := by decide +kernel
theorem dd_K_clear_1 : decode bb_K_clear 1 = .ok (.iconst 0, 1) := by decide +kernel
theorem dd_K_clear_2 : decode bb_K_clear 2 = .ok (.putfield 15, 3) := by decide +kernel
theorem dd_K_clear_5 : decode bb_K_clear 5 = .ok (.return_, 1) := by decide +kernel
theorem dd_K_insert_0 : decode bb_K_insert 0 = .ok (.aload_n 0, 1) := by decide +kernel
theorem dd_K_insert_1 : decode bb_K_insert 1 = .ok (.getfield 15, 3) := by decide +kernel
theorem dd_K_insert_4 : decode bb_K_insert 4 = .ok (.ifCond .lt 15, 3) := by decide +kernel
theorem dd_K_insert_7 : decode bb_K_insert 7 = .ok (.aload_n 0, 1) := by decide +kernel
theorem dd_K_insert_8 : decode bb_K_insert 8 = .ok (.getfield 15, 3) := by decide +kernel
theorem dd_K_insert_11 : decode bb_K_insert 11 = .ok (.aload_n 0, 1) := by decide +kernel
theorem dd_K_insert_12 : decode bb_K_insert 12 = .ok (.getfield 9, 3) := by decide +kernel
theorem dd_K_insert_15 : decode bb_K_insert 15 = .ok (.arraylength, 1) := by decide +kernel
theorem dd_K_insert_16 : decode bb_K_insert 16 = .ok (.if_icmp .lt 4, 3) := by decide +kernel
theorem dd_K_insert_19 : decode bb_K_insert 19 = .ok (.return_, 1) := by decide +kernel
theorem dd_K_insert_20 : decode bb_K_insert 20 = .ok (.iload_n 1, 1) := by decide +kernel
theorem dd_K_insert_21 : decode bb_K_insert 21 = .ok (.bipush 40, 2) := by decide +kernel
theorem dd_K_insert_23 : decode bb_K_insert 23 = .ok (.imul, 1) := by decide +kernel
theorem dd_K_insert_24 : decode bb_K_insert 24 = .ok (.iload_n 2, 1) := by decide +kernel
theorem dd_K_insert_25 : decode bb_K_insert 25 = .ok (.iadd, 1) := by decide +kernel
theorem dd_K_insert_26 : decode bb_K_insert 26 = .ok (.istore_n 3, 1) := by decide +kernel
theorem dd_K_insert_27 : decode bb_K_insert 27 = .ok (.aload_n 0, 1) := by decide +kernel
theorem dd_K_insert_28 : decode bb_K_insert 28 = .ok (.getfield 15, 3) := by decide +kernel
theorem dd_K_insert_31 : decode bb_K_insert 31 = .ok (.istore 4, 2) := by decide +kernel
theorem dd_K_insert_33 : decode bb_K_insert 33 = .ok (.iload 4, 2) := by decide +kernel
theorem dd_K_insert_35 : decode bb_K_insert 35 = .ok (.ifCond .le 38, 3) := by decide +kernel
theorem dd_K_insert_38 : decode bb_K_insert 38 = .ok (.aload_n 0, 1) := by decide +kernel
theorem dd_K_insert_39 : decode bb_K_insert 39 = .ok (.getfield 9, 3) := by decide +kernel
theorem dd_K_insert_42 : decode bb_K_insert 42 = .ok (.iload 4, 2) := by decide +kernel
theorem dd_K_insert_44 : decode bb_K_insert 44 = .ok (.iconst 1, 1) := by decide +kernel
theorem dd_K_insert_45 : decode bb_K_insert 45 = .ok (.isub, 1) := by decide +kernel
theorem dd_K_insert_46 : decode bb_K_insert 46 = .ok (.iaload, 1) := by decide +kernel
theorem dd_K_insert_47 : decode bb_K_insert 47 = .ok (.iload_n 3, 1) := by decide +kernel
theorem dd_K_insert_48 : decode bb_K_insert 48 = .ok (.if_icmp .le 25, 3) := by decide +kernel
theorem dd_K_insert_51 : decode bb_K_insert 51 = .ok (.aload_n 0, 1) := by decide +kernel
theorem dd_K_insert_52 : decode bb_K_insert 52 = .ok (.getfield 9, 3) := by decide +kernel
theorem dd_K_insert_55 : decode bb_K_insert 55 = .ok (.iload 4, 2) := by decide +kernel
theorem dd_K_insert_57 : decode bb_K_insert 57 = .ok (.aload_n 0, 1) := by decide +kernel
theorem dd_K_insert_58 : decode bb_K_insert 58 = .ok (.getfield 9, 3) := by decide +kernel
theorem dd_K_insert_61 : decode bb_K_insert 61 = .ok (.iload 4, 2) := by decide +kernel
theorem dd_K_insert_63 : decode bb_K_insert 63 = .ok (.iconst 1, 1) := by decide +kernel
theorem dd_K_insert_64 : decode bb_K_insert 64 = .ok (.isub, 1) := by decide +kernel
theorem dd_K_insert_65 : decode bb_K_insert 65 = .ok (.iaload, 1) := by decide +kernel
theorem dd_K_insert_66 : decode bb_K_insert 66 = .ok (.iastore, 1) := by decide +kernel
theorem dd_K_insert_67 : decode bb_K_insert 67 = .ok (.iinc 4 (-1), 3) := by decide +kernel
theorem dd_K_insert_70 : decode bb_K_insert 70 = .ok (.goto (-37), 3) := by decide +kernel
theorem dd_K_insert_73 : decode bb_K_insert 73 = .ok (.aload_n 0, 1) := by decide +kernel
theorem dd_K_insert_74 : decode bb_K_insert 74 = .ok (.getfield 9, 3) := by decide +kernel
theorem dd_K_insert_77 : decode bb_K_insert 77 = .ok (.iload 4, 2) := by decide +kernel
theorem dd_K_insert_79 : decode bb_K_insert 79 = .ok (.iload_n 3, 1) := by decide +kernel
theorem dd_K_insert_80 : decode bb_K_insert 80 = .ok (.iastore, 1) := by decide +kernel
theorem dd_K_insert_81 : decode bb_K_insert 81 = .ok (.aload_n 0, 1) := by decide +kernel
theorem dd_K_insert_82 : decode bb_K_insert 82 = .ok (.dup, 1) := by decide +kernel
theorem dd_K_insert_83 : decode bb_K_insert 83 = .ok (.getfield 15, 3) := by decide +kernel
theorem dd_K_insert_86 : decode bb_K_insert 86 = .ok (.iconst 1, 1) := by decide +kernel
theorem dd_K_insert_87 : decode bb_K_insert 87 = .ok (.iadd, 1) := by decide +kernel
theorem dd_K_insert_88 : decode bb_K_insert 88 = .ok (.putfield 15, 3) := by decide +kernel
theorem dd_K_insert_91 : decode bb_K_insert 91 = .ok (.return_, 1) := by decide +kernel
theorem dd_K_numberAt_0 : decode bb_K_numberAt 0 = .ok (.iload_n 1, 1) := by decide +kernel
theorem dd_K_numberAt_1 : decode bb_K_numberAt 1 = .ok (.ifCond .lt 32, 3) := by decide +kernel
theorem dd_K_numberAt_4 : decode bb_K_numberAt 4 = .ok (.iload_n 1, 1) := by decide +kernel
theorem dd_K_numberAt_5 : decode bb_K_numberAt 5 = .ok (.aload_n 0, 1) := by decide +kernel
theorem dd_K_numberAt_6 : decode bb_K_numberAt 6 = .ok (.getfield 15, 3) := by decide +kernel
theorem dd_K_numberAt_9 : decode bb_K_numberAt 9 = .ok (.if_icmp .ge 24, 3) := by decide +kernel
theorem dd_K_numberAt_12 : decode bb_K_numberAt 12 = .ok (.iload_n 1, 1) := by decide +kernel
theorem dd_K_numberAt_13 : decode bb_K_numberAt 13 = .ok (.aload_n 0, 1) := by decide +kernel
theorem dd_K_numberAt_14 : decode bb_K_numberAt 14 = .ok (.getfield 9, 3) := by decide +kernel
theorem dd_K_numberAt_17 : decode bb_K_numberAt 17 = .ok (.arraylength, 1) := by decide +kernel
theorem dd_K_numberAt_18 : decode bb_K_numberAt 18 = .ok (.if_icmp .ge 15, 3) := by decide +kernel
theorem dd_K_numberAt_21 : decode bb_K_numberAt 21 = .ok (.aload_n 0, 1) := by decide +kernel
theorem dd_K_numberAt_22 : decode bb_K_numberAt 22 = .ok (.getfield 9, 3) := by decide +kernel
theorem dd_K_numberAt_25 : decode bb_K_numberAt 25 = .ok (.iload_n 1, 1) := by decide +kernel
theorem dd_K_numberAt_26 : decode bb_K_numberAt 26 = .ok (.iaload, 1) := by decide +kernel
theorem dd_K_numberAt_27 : decode bb_K_numberAt 27 = .ok (.bipush 40, 2) := by decide +kernel
theorem dd_K_numberAt_29 : decode bb_K_numberAt 29 = .ok (.irem, 1) := by decide +kernel
theorem dd_K_numberAt_30 : decode bb_K_numberAt 30 = .ok (.goto 4, 3) := by decide +kernel
theorem dd_K_numberAt_33 : decode bb_K_numberAt 33 = .ok (.iconst (-1), 1) := by decide +kernel
theorem dd_K_numberAt_34 : decode bb_K_numberAt 34 = .ok (.ireturn, 1) := by decide +kernel
theorem dd_A_init_0 : decode bb_A_init 0 = .ok (.aload_n 0, 1) := by decide +kernel
theorem dd_A_init_1 : decode bb_A_init 1 = .ok (.invokespecial 3, 3) := by decide +kernel
theorem dd_A_init_4 : decode bb_A_init 4 = .ok (.aload_n 0, 1) := by decide +kernel
theorem dd_A_init_5 : decode bb_A_init 5 = .ok (.bipush 6, 2) := by decide +kernel
theorem dd_A_init_7 : decode bb_A_init 7 = .ok (.anewarray 9, 3) := by decide +kernel
theorem dd_A_init_10 : decode bb_A_init 10 = .ok (.putfield 11, 3) := by decide +kernel
theorem dd_A_init_13 : decode bb_A_init 13 = .ok (.aload_n 0, 1) := by decide +kernel
theorem dd_A_init_14 : decode bb_A_init 14 = .ok (.bipush 6, 2) := by decide +kernel
theorem dd_A_init_16 : decode bb_A_init 16 = .ok (.newarray .int, 2) := by decide +kernel
theorem dd_A_init_18 : decode bb_A_init 18 = .ok (.putfield 17, 3) := by decide +kernel
theorem dd_A_init_21 : decode bb_A_init 21 = .ok (.aload_n 0, 1) := by decide +kernel
theorem dd_A_init_22 : decode bb_A_init 22 = .ok (.bipush 6, 2) := by decide +kernel
theorem dd_A_init_24 : decode bb_A_init 24 = .ok (.newarray .int, 2) := by decide +kernel
theorem dd_A_init_26 : decode bb_A_init 26 = .ok (.putfield 21, 3) := by decide +kernel
theorem dd_A_init_29 : decode bb_A_init 29 = .ok (.aload_n 0, 1) := by decide +kernel
theorem dd_A_init_30 : decode bb_A_init 30 = .ok (.iconst 0, 1) := by decide +kernel
theorem dd_A_init_31 : decode bb_A_init 31 = .ok (.putfield 24, 3) := by decide +kernel
theorem dd_A_init_34 : decode bb_A_init 34 = .ok (.aload_n 0, 1) := by decide +kernel
theorem dd_A_init_35 : decode bb_A_init 35 = .ok (.iconst 0, 1) := by decide +kernel
theorem dd_A_init_36 : decode bb_A_init 36 = .ok (.putfield 28, 3) := by decide +kernel
theorem dd_A_init_39 : decode bb_A_init 39 = .ok (.return_, 1) := by decide +kernel
theorem dd_A_clear_0 : decode bb_A_clear 0 = .ok (.iconst 0, 1) := by decide +kernel
theorem dd_A_clear_1 : decode bb_A_clear 1 = .ok (.istore_n 1, 1) := by decide +kernel
theorem dd_A_clear_2 : decode bb_A_clear 2 = .ok (.iload_n 1, 1) := by decide +kernel
theorem dd_A_clear_3 : decode bb_A_clear 3 = .ok (.aload_n 0, 1) := by decide +kernel
theorem dd_A_clear_4 : decode bb_A_clear 4 = .ok (.getfield 11, 3) := by decide +kernel
theorem dd_A_clear_7 : decode bb_A_clear 7 = .ok (.arraylength, 1) := by decide +kernel
theorem dd_A_clear_8 : decode bb_A_clear 8 = .ok (.if_icmp .ge 16, 3) := by decide +kernel
theorem dd_A_clear_11 : decode bb_A_clear 11 = .ok (.aload_n 0, 1) := by decide +kernel
theorem dd_A_clear_12 : decode bb_A_clear 12 = .ok (.getfield 11, 3) := by decide +kernel
theorem dd_A_clear_15 : decode bb_A_clear 15 = .ok (.iload_n 1, 1) := by decide +kernel
theorem dd_A_clear_16 : decode bb_A_clear 16 = .ok (.aconst_null, 1) := by decide +kernel
theorem dd_A_clear_17 : decode bb_A_clear 17 = .ok (.aastore, 1) := by decide +kernel
theorem dd_A_clear_18 : decode bb_A_clear 18 = .ok (.iinc 1 1, 3) := by decide +kernel
theorem dd_A_clear_21 : decode bb_A_clear 21 = .ok (.goto (-19), 3) := by decide +kernel
theorem dd_A_clear_24 : decode bb_A_clear 24 = .ok (.aload_n 0, 1) := by decide +kernel
theorem dd_A_clear_25 : decode bb_A_clear 25 = .ok (.iconst 0, 1) := by decide +kernel
theorem dd_A_clear_26 : decode bb_A_clear 26 = .ok (.putfield 24, 3) := by decide +kernel
theorem dd_A_clear_29 : decode bb_A_clear 29 = .ok (.return_, 1) := by decide +kernel
theorem dd_A_choose_0 : decode bb_A_choose 0 = .ok (.aload_n 0, 1) := by decide +kernel
theorem dd_A_choose_1 : decode bb_A_choose 1 = .ok (.getfield 24, 3) := by decide +kernel
theorem dd_A_choose_4 : decode bb_A_choose 4 = .ok (.ifCond .lt 35, 3) := by decide +kernel
theorem dd_A_choose_7 : decode bb_A_choose 7 = .ok (.aload_n 0, 1) := by decide +kernel
theorem dd_A_choose_8 : decode bb_A_choose 8 = .ok (.getfield 24, 3) := by decide +kernel
theorem dd_A_choose_11 : decode bb_A_choose 11 = .ok (.aload_n 0, 1) := by decide +kernel
theorem dd_A_choose_12 : decode bb_A_choose 12 = .ok (.getfield 11, 3) := by decide +kernel
theorem dd_A_choose_15 : decode bb_A_choose 15 = .ok (.arraylength, 1) := by decide +kernel
theorem dd_A_choose_16 : decode bb_A_choose 16 = .ok (.if_icmp .ge 23, 3) := by decide +kernel
theorem dd_A_choose_19 : decode bb_A_choose 19 = .ok (.aload_n 0, 1) := by decide +kernel
theorem dd_A_choose_20 : decode bb_A_choose 20 = .ok (.getfield 11, 3) := by decide +kernel
theorem dd_A_choose_23 : decode bb_A_choose 23 = .ok (.aload_n 0, 1) := by decide +kernel
theorem dd_A_choose_24 : decode bb_A_choose 24 = .ok (.getfield 24, 3) := by decide +kernel
theorem dd_A_choose_27 : decode bb_A_choose 27 = .ok (.aload_n 1, 1) := by decide +kernel
theorem dd_A_choose_28 : decode bb_A_choose 28 = .ok (.aastore, 1) := by decide +kernel
theorem dd_A_choose_29 : decode bb_A_choose 29 = .ok (.aload_n 0, 1) := by decide +kernel
theorem dd_A_choose_30 : decode bb_A_choose 30 = .ok (.dup, 1) := by decide +kernel
theorem dd_A_choose_31 : decode bb_A_choose 31 = .ok (.getfield 24, 3) := by decide +kernel
theorem dd_A_choose_34 : decode bb_A_choose 34 = .ok (.iconst 1, 1) := by decide +kernel
theorem dd_A_choose_35 : decode bb_A_choose 35 = .ok (.iadd, 1) := by decide +kernel
theorem dd_A_choose_36 : decode bb_A_choose 36 = .ok (.putfield 24, 3) := by decide +kernel
theorem dd_A_choose_39 : decode bb_A_choose 39 = .ok (.return_, 1) := by decide +kernel
theorem dd_A_leastMetres_0 : decode bb_A_leastMetres 0 = .ok (.aload_n 0, 1) := by decide +kernel
theorem dd_A_leastMetres_1 : decode bb_A_leastMetres 1 = .ok (.ldc 31, 2) := by decide +kernel
theorem dd_A_leastMetres_3 : decode bb_A_leastMetres 3 = .ok (.putfield 28, 3) := by decide +kernel
theorem dd_A_leastMetres_6 : decode bb_A_leastMetres 6 = .ok (.aload_n 0, 1) := by decide +kernel
theorem dd_A_leastMetres_7 : decode bb_A_leastMetres 7 = .ok (.iconst 0, 1) := by decide +kernel
theorem dd_A_leastMetres_8 : decode bb_A_leastMetres 8 = .ok (.iconst 0, 1) := by decide +kernel
theorem dd_A_leastMetres_9 : decode bb_A_leastMetres 9 = .ok (.iconst 0, 1) := by decide +kernel
theorem dd_A_leastMetres_10 : decode bb_A_leastMetres 10 = .ok (.iconst 0, 1) := by decide +kernel
theorem dd_A_leastMetres_11 : decode bb_A_leastMetres 11 = .ok (.iconst 0, 1) := by decide +kernel
theorem dd_A_leastMetres_12 : decode bb_A_leastMetres 12 = .ok (.invokevirtual 32, 3) := by decide +kernel
theorem dd_A_leastMetres_15 : decode bb_A_leastMetres 15 = .ok (.aload_n 0, 1) := by decide +kernel
theorem dd_A_leastMetres_16 : decode bb_A_leastMetres 16 = .ok (.getfield 28, 3) := by decide +kernel
theorem dd_A_leastMetres_19 : decode bb_A_leastMetres 19 = .ok (.ireturn, 1) := by decide +kernel
theorem dd_A_stopAt_0 : decode bb_A_stopAt 0 = .ok (.iload_n 1, 1) := by decide +kernel
theorem dd_A_stopAt_1 : decode bb_A_stopAt 1 = .ok (.ifCond .lt 29, 3) := by decide +kernel
theorem dd_A_stopAt_4 : decode bb_A_stopAt 4 = .ok (.iload_n 1, 1) := by decide +kernel
theorem dd_A_stopAt_5 : decode bb_A_stopAt 5 = .ok (.aload_n 0, 1) := by decide +kernel
theorem dd_A_stopAt_6 : decode bb_A_stopAt 6 = .ok (.getfield 24, 3) := by decide +kernel
theorem dd_A_stopAt_9 : decode bb_A_stopAt 9 = .ok (.if_icmp .ge 21, 3) := by decide +kernel
theorem dd_A_stopAt_12 : decode bb_A_stopAt 12 = .ok (.iload_n 1, 1) := by decide +kernel
theorem dd_A_stopAt_13 : decode bb_A_stopAt 13 = .ok (.aload_n 0, 1) := by decide +kernel
theorem dd_A_stopAt_14 : decode bb_A_stopAt 14 = .ok (.getfield 21, 3) := by decide +kernel
theorem dd_A_stopAt_17 : decode bb_A_stopAt 17 = .ok (.arraylength, 1) := by decide +kernel
theorem dd_A_stopAt_18 : decode bb_A_stopAt 18 = .ok (.if_icmp .ge 12, 3) := by decide +kernel
theorem dd_A_stopAt_21 : decode bb_A_stopAt 21 = .ok (.aload_n 0, 1) := by decide +kernel
theorem dd_A_stopAt_22 : decode bb_A_stopAt 22 = .ok (.getfield 21, 3) := by decide +kernel
theorem dd_A_stopAt_25 : decode bb_A_stopAt 25 = .ok (.iload_n 1, 1) := by decide +kernel
theorem dd_A_stopAt_26 : decode bb_A_stopAt 26 = .ok (.iaload, 1) := by decide +kernel
theorem dd_A_stopAt_27 : decode bb_A_stopAt 27 = .ok (.goto 4, 3) := by decide +kernel
theorem dd_A_stopAt_30 : decode bb_A_stopAt 30 = .ok (.iconst (-1), 1) := by decide +kernel
theorem dd_A_stopAt_31 : decode bb_A_stopAt 31 = .ok (.ireturn, 1) := by decide +kernel
theorem dd_A_goOn_0 : decode bb_A_goOn 0 = .ok (.iload 5, 2) := by decide +kernel
theorem dd_A_goOn_2 : decode bb_A_goOn 2 = .ok (.iload_n 3, 1) := by decide +kernel
theorem dd_A_goOn_3 : decode bb_A_goOn 3 = .ok (.iload 4, 2) := by decide +kernel
theorem dd_A_goOn_5 : decode bb_A_goOn 5 = .ok (.iconst 0, 1) := by decide +kernel
theorem dd_A_goOn_6 : decode bb_A_goOn 6 = .ok (.iconst 0, 1) := by decide +kernel
theorem dd_A_goOn_7 : decode bb_A_goOn 7 = .ok (.invokestatic 36, 3) := by decide +kernel
theorem dd_A_goOn_10 : decode bb_A_goOn 10 = .ok (.iadd, 1) := by decide +kernel
theorem dd_A_goOn_11 : decode bb_A_goOn 11 = .ok (.istore 6, 2) := by decide +kernel
theorem dd_A_goOn_13 : decode bb_A_goOn 13 = .ok (.iload 6, 2) := by decide +kernel
theorem dd_A_goOn_15 : decode bb_A_goOn 15 = .ok (.aload_n 0, 1) := by decide +kernel
theorem dd_A_goOn_16 : decode bb_A_goOn 16 = .ok (.getfield 28, 3) := by decide +kernel
theorem dd_A_goOn_19 : decode bb_A_goOn 19 = .ok (.if_icmp .lt 4, 3) := by decide +kernel
theorem dd_A_goOn_22 : decode bb_A_goOn 22 = .ok (.return_, 1) := by decide +kernel
theorem dd_A_goOn_23 : decode bb_A_goOn 23 = .ok (.iload_n 1, 1) := by decide +kernel
theorem dd_A_goOn_24 : decode bb_A_goOn 24 = .ok (.aload_n 0, 1) := by decide +kernel
theorem dd_A_goOn_25 : decode bb_A_goOn 25 = .ok (.getfield 24, 3) := by decide +kernel
theorem dd_A_goOn_28 : decode bb_A_goOn 28 = .ok (.if_icmp .ge 9, 3) := by decide +kernel
theorem dd_A_goOn_31 : decode bb_A_goOn 31 = .ok (.iload_n 1, 1) := by decide +kernel
theorem dd_A_goOn_32 : decode bb_A_goOn 32 = .ok (.bipush 6, 2) := by decide +kernel
theorem dd_A_goOn_34 : decode bb_A_goOn 34 = .ok (.if_icmp .lt 10, 3) := by decide +kernel
theorem dd_A_goOn_37 : decode bb_A_goOn 37 = .ok (.aload_n 0, 1) := by decide +kernel
theorem dd_A_goOn_38 : decode bb_A_goOn 38 = .ok (.iload 6, 2) := by decide +kernel
theorem dd_A_goOn_40 : decode bb_A_goOn 40 = .ok (.invokevirtual 40, 3) := by decide +kernel
theorem dd_A_goOn_43 : decode bb_A_goOn 43 = .ok (.return_, 1) := by decide +kernel
theorem dd_A_goOn_44 : decode bb_A_goOn 44 = .ok (.iconst 0, 1) := by decide +kernel
theorem dd_A_goOn_45 : decode bb_A_goOn 45 = .ok (.istore 7, 2) := by decide +kernel
theorem dd_A_goOn_47 : decode bb_A_goOn 47 = .ok (.iload 7, 2) := by decide +kernel
theorem dd_A_goOn_49 : decode bb_A_goOn 49 = .ok (.aload_n 0, 1) := by decide +kernel
theorem dd_A_goOn_50 : decode bb_A_goOn 50 = .ok (.getfield 11, 3) := by decide +kernel
theorem dd_A_goOn_53 : decode bb_A_goOn 53 = .ok (.arraylength, 1) := by decide +kernel
theorem dd_A_goOn_54 : decode bb_A_goOn 54 = .ok (.if_icmp .ge 77, 3) := by decide +kernel
theorem dd_A_goOn_57 : decode bb_A_goOn 57 = .ok (.aload_n 0, 1) := by decide +kernel
theorem dd_A_goOn_58 : decode bb_A_goOn 58 = .ok (.getfield 11, 3) := by decide +kernel
theorem dd_A_goOn_61 : decode bb_A_goOn 61 = .ok (.iload 7, 2) := by decide +kernel
theorem dd_A_goOn_63 : decode bb_A_goOn 63 = .ok (.aaload, 1) := by decide +kernel
theorem dd_A_goOn_64 : decode bb_A_goOn 64 = .ok (.astore 8, 2) := by decide +kernel
theorem dd_A_goOn_66 : decode bb_A_goOn 66 = .ok (.aload 8, 2) := by decide +kernel
theorem dd_A_goOn_68 : decode bb_A_goOn 68 = .ok (.ifnull 57, 3) := by decide +kernel
theorem dd_A_goOn_71 : decode bb_A_goOn 71 = .ok (.iload_n 2, 1) := by decide +kernel
theorem dd_A_goOn_72 : decode bb_A_goOn 72 = .ok (.iload 7, 2) := by decide +kernel
theorem dd_A_goOn_74 : decode bb_A_goOn 74 = .ok (.iushr, 1) := by decide +kernel
theorem dd_A_goOn_75 : decode bb_A_goOn 75 = .ok (.iconst 1, 1) := by decide +kernel
theorem dd_A_goOn_76 : decode bb_A_goOn 76 = .ok (.iand, 1) := by decide +kernel
theorem dd_A_goOn_77 : decode bb_A_goOn 77 = .ok (.ifCond .ne 48, 3) := by decide +kernel
theorem dd_A_goOn_80 : decode bb_A_goOn 80 = .ok (.aload_n 0, 1) := by decide +kernel
theorem dd_A_goOn_81 : decode bb_A_goOn 81 = .ok (.getfield 17, 3) := by decide +kernel
theorem dd_A_goOn_84 : decode bb_A_goOn 84 = .ok (.iload_n 1, 1) := by decide +kernel
theorem dd_A_goOn_85 : decode bb_A_goOn 85 = .ok (.aload 8, 2) := by decide +kernel
theorem dd_A_goOn_87 : decode bb_A_goOn 87 = .ok (.getfield 44, 3) := by decide +kernel
theorem dd_A_goOn_90 : decode bb_A_goOn 90 = .ok (.iastore, 1) := by decide +kernel
theorem dd_A_goOn_91 : decode bb_A_goOn 91 = .ok (.aload_n 0, 1) := by decide +kernel
theorem dd_A_goOn_92 : decode bb_A_goOn 92 = .ok (.iload_n 1, 1) := by decide +kernel
theorem dd_A_goOn_93 : decode bb_A_goOn 93 = .ok (.iconst 1, 1) := by decide +kernel
theorem dd_A_goOn_94 : decode bb_A_goOn 94 = .ok (.iadd, 1) := by decide +kernel
theorem dd_A_goOn_95 : decode bb_A_goOn 95 = .ok (.iload_n 2, 1) := by decide +kernel
theorem dd_A_goOn_96 : decode bb_A_goOn 96 = .ok (.iconst 1, 1) := by decide +kernel
theorem dd_A_goOn_97 : decode bb_A_goOn 97 = .ok (.iload 7, 2) := by decide +kernel
theorem dd_A_goOn_99 : decode bb_A_goOn 99 = .ok (.ishl, 1) := by decide +kernel
theorem dd_A_goOn_100 : decode bb_A_goOn 100 = .ok (.ior, 1) := by decide +kernel
theorem dd_A_goOn_101 : decode bb_A_goOn 101 = .ok (.aload 8, 2) := by decide +kernel
theorem dd_A_goOn_103 : decode bb_A_goOn 103 = .ok (.getfield 47, 3) := by decide +kernel
theorem dd_A_goOn_106 : decode bb_A_goOn 106 = .ok (.aload 8, 2) := by decide +kernel
theorem dd_A_goOn_108 : decode bb_A_goOn 108 = .ok (.getfield 50, 3) := by decide +kernel
theorem dd_A_goOn_111 : decode bb_A_goOn 111 = .ok (.iload 5, 2) := by decide +kernel
theorem dd_A_goOn_113 : decode bb_A_goOn 113 = .ok (.aload 8, 2) := by decide +kernel
theorem dd_A_goOn_115 : decode bb_A_goOn 115 = .ok (.iload_n 3, 1) := by decide +kernel
theorem dd_A_goOn_116 : decode bb_A_goOn 116 = .ok (.iload 4, 2) := by decide +kernel
theorem dd_A_goOn_118 : decode bb_A_goOn 118 = .ok (.invokevirtual 53, 3) := by decide +kernel
theorem dd_A_goOn_121 : decode bb_A_goOn 121 = .ok (.iadd, 1) := by decide +kernel
theorem dd_A_goOn_122 : decode bb_A_goOn 122 = .ok (.invokevirtual 32, 3) := by decide +kernel
theorem dd_A_goOn_125 : decode bb_A_goOn 125 = .ok (.iinc 7 1, 3) := by decide +kernel
theorem dd_A_goOn_128 : decode bb_A_goOn 128 = .ok (.goto (-81), 3) := by decide +kernel
theorem dd_A_goOn_131 : decode bb_A_goOn 131 = .ok (.return_, 1) := by decide +kernel
theorem dd_A_keepWay_0 : decode bb_A_keepWay 0 = .ok (.aload_n 0, 1) := by decide +kernel
theorem dd_A_keepWay_1 : decode bb_A_keepWay 1 = .ok (.iload_n 1, 1) := by decide +kernel
theorem dd_A_keepWay_2 : decode bb_A_keepWay 2 = .ok (.putfield 28, 3) := by decide +kernel
theorem dd_A_keepWay_5 : decode bb_A_keepWay 5 = .ok (.iconst 0, 1) := by decide +kernel
theorem dd_A_keepWay_6 : decode bb_A_keepWay 6 = .ok (.istore_n 2, 1) := by decide +kernel
theorem dd_A_keepWay_7 : decode bb_A_keepWay 7 = .ok (.iload_n 2, 1) := by decide +kernel
theorem dd_A_keepWay_8 : decode bb_A_keepWay 8 = .ok (.bipush 6, 2) := by decide +kernel
theorem dd_A_keepWay_10 : decode bb_A_keepWay 10 = .ok (.if_icmp .ge 21, 3) := by decide +kernel
theorem dd_A_keepWay_13 : decode bb_A_keepWay 13 = .ok (.aload_n 0, 1) := by decide +kernel
theorem dd_A_keepWay_14 : decode bb_A_keepWay 14 = .ok (.getfield 21, 3) := by decide +kernel
theorem dd_A_keepWay_17 : decode bb_A_keepWay 17 = .ok (.iload_n 2, 1) := by decide +kernel
theorem dd_A_keepWay_18 : decode bb_A_keepWay 18 = .ok (.aload_n 0, 1) := by decide +kernel
theorem dd_A_keepWay_19 : decode bb_A_keepWay 19 = .ok (.getfield 17, 3) := by decide +kernel
theorem dd_A_keepWay_22 : decode bb_A_keepWay 22 = .ok (.iload_n 2, 1) := by decide +kernel
theorem dd_A_keepWay_23 : decode bb_A_keepWay 23 = .ok (.iaload, 1) := by decide +kernel
theorem dd_A_keepWay_24 : decode bb_A_keepWay 24 = .ok (.iastore, 1) := by decide +kernel
theorem dd_A_keepWay_25 : decode bb_A_keepWay 25 = .ok (.iinc 2 1, 3) := by decide +kernel
theorem dd_A_keepWay_28 : decode bb_A_keepWay 28 = .ok (.goto (-21), 3) := by decide +kernel
theorem dd_A_keepWay_31 : decode bb_A_keepWay 31 = .ok (.return_, 1) := by decide +kernel
theorem dd_M_init_0 : decode bb_M_init 0 = .ok (.aload_n 0, 1) := by decide +kernel
theorem dd_M_init_1 : decode bb_M_init 1 = .ok (.invokespecial 1, 3) := by decide +kernel
theorem dd_M_init_4 : decode bb_M_init 4 = .ok (.aload_n 0, 1) := by decide +kernel
theorem dd_M_init_5 : decode bb_M_init 5 = .ok (.bipush 40, 2) := by decide +kernel
theorem dd_M_init_7 : decode bb_M_init 7 = .ok (.newarray .int, 2) := by decide +kernel
theorem dd_M_init_9 : decode bb_M_init 9 = .ok (.putfield 7, 3) := by decide +kernel
theorem dd_M_init_12 : decode bb_M_init 12 = .ok (.aload_n 0, 1) := by decide +kernel
theorem dd_M_init_13 : decode bb_M_init 13 = .ok (.bipush 40, 2) := by decide +kernel
theorem dd_M_init_15 : decode bb_M_init 15 = .ok (.newarray .int, 2) := by decide +kernel
theorem dd_M_init_17 : decode bb_M_init 17 = .ok (.putfield 13, 3) := by decide +kernel
theorem dd_M_init_20 : decode bb_M_init 20 = .ok (.aload_n 0, 1) := by decide +kernel
theorem dd_M_init_21 : decode bb_M_init 21 = .ok (.bipush 40, 2) := by decide +kernel
theorem dd_M_init_23 : decode bb_M_init 23 = .ok (.newarray .int, 2) := by decide +kernel
theorem dd_M_init_25 : decode bb_M_init 25 = .ok (.putfield 16, 3) := by decide +kernel
theorem dd_M_init_28 : decode bb_M_init 28 = .ok (.aload_n 0, 1) := by decide +kernel
theorem dd_M_init_29 : decode bb_M_init 29 = .ok (.bipush 40, 2) := by decide +kernel
theorem dd_M_init_31 : decode bb_M_init 31 = .ok (.newarray .int, 2) := by decide +kernel
theorem dd_M_init_33 : decode bb_M_init 33 = .ok (.putfield 19, 3) := by decide +kernel
theorem dd_M_init_36 : decode bb_M_init 36 = .ok (.aload_n 0, 1) := by decide +kernel
theorem dd_M_init_37 : decode bb_M_init 37 = .ok (.bipush 40, 2) := by decide +kernel
theorem dd_M_init_39 : decode bb_M_init 39 = .ok (.newarray .int, 2) := by decide +kernel
theorem dd_M_init_41 : decode bb_M_init 41 = .ok (.putfield 22, 3) := by decide +kernel
theorem dd_M_init_44 : decode bb_M_init 44 = .ok (.aload_n 0, 1) := by decide +kernel
theorem dd_M_init_45 : decode bb_M_init 45 = .ok (.bipush 40, 2) := by decide +kernel
theorem dd_M_init_47 : decode bb_M_init 47 = .ok (.newarray .int, 2) := by decide +kernel
theorem dd_M_init_49 : decode bb_M_init 49 = .ok (.putfield 25, 3) := by decide +kernel
theorem dd_M_init_52 : decode bb_M_init 52 = .ok (.aload_n 0, 1) := by decide +kernel
theorem dd_M_init_53 : decode bb_M_init 53 = .ok (.bipush 120, 2) := by decide +kernel
theorem dd_M_init_55 : decode bb_M_init 55 = .ok (.newarray .int, 2) := by decide +kernel
theorem dd_M_init_57 : decode bb_M_init 57 = .ok (.putfield 28, 3) := by decide +kernel
theorem dd_M_init_60 : decode bb_M_init 60 = .ok (.aload_n 0, 1) := by decide +kernel
theorem dd_M_init_61 : decode bb_M_init 61 = .ok (.bipush 120, 2) := by decide +kernel
theorem dd_M_init_63 : decode bb_M_init 63 = .ok (.newarray .int, 2) := by decide +kernel
theorem dd_M_init_65 : decode bb_M_init 65 = .ok (.putfield 31, 3) := by decide +kernel
theorem dd_M_init_68 : decode bb_M_init 68 = .ok (.aload_n 0, 1) := by decide +kernel
theorem dd_M_init_69 : decode bb_M_init 69 = .ok (.sipush 480, 3) := by decide +kernel
theorem dd_M_init_72 : decode bb_M_init 72 = .ok (.newarray .boolean, 2) := by decide +kernel
theorem dd_M_init_74 : decode bb_M_init 74 = .ok (.putfield 34, 3) := by decide +kernel
theorem dd_M_init_77 : decode bb_M_init 77 = .ok (.aload_n 0, 1) := by decide +kernel
theorem dd_M_init_78 : decode bb_M_init 78 = .ok (.bipush 20, 2) := by decide +kernel
theorem dd_M_init_80 : decode bb_M_init 80 = .ok (.newarray .int, 2) := by decide +kernel
theorem dd_M_init_82 : decode bb_M_init 82 = .ok (.putfield 38, 3) := by decide +kernel
theorem dd_M_init_85 : decode bb_M_init 85 = .ok (.aload_n 0, 1) := by decide +kernel
theorem dd_M_init_86 : decode bb_M_init 86 = .ok (.bipush 100, 2) := by decide +kernel
theorem dd_M_init_88 : decode bb_M_init 88 = .ok (.newarray .int, 2) := by decide +kernel
theorem dd_M_init_90 : decode bb_M_init 90 = .ok (.putfield 41, 3) := by decide +kernel
theorem dd_M_init_93 : decode bb_M_init 93 = .ok (.aload_n 0, 1) := by decide +kernel
theorem dd_M_init_94 : decode bb_M_init 94 = .ok (.bipush 100, 2) := by decide +kernel
theorem dd_M_init_96 : decode bb_M_init 96 = .ok (.newarray .int, 2) := by decide +kernel
theorem dd_M_init_98 : decode bb_M_init 98 = .ok (.putfield 44, 3) := by decide +kernel
theorem dd_M_init_101 : decode bb_M_init 101 = .ok (.aload_n 0, 1) := by decide +kernel
theorem dd_M_init_102 : decode bb_M_init 102 = .ok (.bipush 100, 2) := by decide +kernel
theorem dd_M_init_104 : decode bb_M_init 104 = .ok (.newarray .int, 2) := by decide +kernel
theorem dd_M_init_106 : decode bb_M_init 106 = .ok (.putfield 47, 3) := by decide +kernel
theorem dd_M_init_109 : decode bb_M_init 109 = .ok (.aload_n 0, 1) := by decide +kernel
theorem dd_M_init_110 : decode bb_M_init 110 = .ok (.bipush 100, 2) := by decide +kernel
theorem dd_M_init_112 : decode bb_M_init 112 = .ok (.newarray .int, 2) := by decide +kernel
theorem dd_M_init_114 : decode bb_M_init 114 = .ok (.putfield 50, 3) := by decide +kernel
theorem dd_M_init_117 : decode bb_M_init 117 = .ok (.aload_n 0, 1) := by decide +kernel
theorem dd_M_init_118 : decode bb_M_init 118 = .ok (.bipush 100, 2) := by decide +kernel
theorem dd_M_init_120 : decode bb_M_init 120 = .ok (.newarray .int, 2) := by decide +kernel
theorem dd_M_init_122 : decode bb_M_init 122 = .ok (.putfield 53, 3) := by decide +kernel
theorem dd_M_init_125 : decode bb_M_init 125 = .ok (.aload_n 0, 1) := by decide +kernel
theorem dd_M_init_126 : decode bb_M_init 126 = .ok (.bipush 6, 2) := by decide +kernel
theorem dd_M_init_128 : decode bb_M_init 128 = .ok (.newarray .int, 2) := by decide +kernel
theorem dd_M_init_130 : decode bb_M_init 130 = .ok (.putfield 56, 3) := by decide +kernel
theorem dd_M_init_133 : decode bb_M_init 133 = .ok (.aload_n 0, 1) := by decide +kernel
theorem dd_M_init_134 : decode bb_M_init 134 = .ok (.bipush 6, 2) := by decide +kernel
theorem dd_M_init_136 : decode bb_M_init 136 = .ok (.newarray .int, 2) := by decide +kernel
theorem dd_M_init_138 : decode bb_M_init 138 = .ok (.putfield 59, 3) := by decide +kernel
theorem dd_M_init_141 : decode bb_M_init 141 = .ok (.aload_n 0, 1) := by decide +kernel
theorem dd_M_init_142 : decode bb_M_init 142 = .ok (.bipush 6, 2) := by decide +kernel
theorem dd_M_init_144 : decode bb_M_init 144 = .ok (.newarray .int, 2) := by decide +kernel
theorem dd_M_init_146 : decode bb_M_init 146 = .ok (.putfield 62, 3) := by decide +kernel
theorem dd_M_init_149 : decode bb_M_init 149 = .ok (.iconst 0, 1) := by decide +kernel
theorem dd_M_init_150 : decode bb_M_init 150 = .ok (.istore_n 1, 1) := by decide +kernel
theorem dd_M_init_151 : decode bb_M_init 151 = .ok (.iload_n 1, 1) := by decide +kernel
theorem dd_M_init_152 : decode bb_M_init 152 = .ok (.bipush 20, 2) := by decide +kernel
theorem dd_M_init_154 : decode bb_M_init 154 = .ok (.if_icmp .ge 18, 3) := by decide +kernel
theorem dd_M_init_157 : decode bb_M_init 157 = .ok (.aload_n 0, 1) := by decide +kernel
theorem dd_M_init_158 : decode bb_M_init 158 = .ok (.getfield 38, 3) := by decide +kernel
theorem dd_M_init_161 : decode bb_M_init 161 = .ok (.iload_n 1, 1) := by decide +kernel
theorem dd_M_init_162 : decode bb_M_init 162 = .ok (.sipush 20000, 3) := by decide +kernel
theorem dd_M_init_165 : decode bb_M_init 165 = .ok (.iastore, 1) := by decide +kernel
theorem dd_M_init_166 : decode bb_M_init 166 = .ok (.iinc 1 1, 3) := by decide +kernel
theorem dd_M_init_169 : decode bb_M_init 169 = .ok (.goto (-18), 3) := by decide +kernel
theorem dd_M_init_172 : decode bb_M_init 172 = .ok (.return_, 1) := by decide +kernel
theorem dd_M_thrown_0 : decode bb_M_thrown 0 = .ok (.aload_n 0, 1) := by decide +kernel
theorem dd_M_thrown_1 : decode bb_M_thrown 1 = .ok (.getfield 65, 3) := by decide +kernel
theorem dd_M_thrown_4 : decode bb_M_thrown 4 = .ok (.ireturn, 1) := by decide +kernel
theorem dd_M_in_0 : decode bb_M_in 0 = .ok (.iload_n 0, 1) := by decide +kernel
theorem dd_M_in_1 : decode bb_M_in 1 = .ok (.iload_n 1, 1) := by decide +kernel
theorem dd_M_in_2 : decode bb_M_in 2 = .ok (.if_icmp .lt 12, 3) := by decide +kernel
theorem dd_M_in_5 : decode bb_M_in 5 = .ok (.iload_n 0, 1) := by decide +kernel
theorem dd_M_in_6 : decode bb_M_in 6 = .ok (.iload_n 2, 1) := by decide +kernel
theorem dd_M_in_7 : decode bb_M_in 7 = .ok (.if_icmp .gt 7, 3) := by decide +kernel
theorem dd_M_in_10 : decode bb_M_in 10 = .ok (.iconst 1, 1) := by decide +kernel
theorem dd_M_in_11 : decode bb_M_in 11 = .ok (.goto 4, 3) := by decide +kernel
theorem dd_M_in_14 : decode bb_M_in 14 = .ok (.iconst 0, 1) := by decide +kernel
theorem dd_M_in_15 : decode bb_M_in 15 = .ok (.ireturn, 1) := by decide +kernel
theorem dd_M_goes_0 : decode bb_M_goes 0 = .ok (.aload_n 0, 1) := by decide +kernel
theorem dd_M_goes_1 : decode bb_M_goes 1 = .ok (.iload_n 1, 1) := by decide +kernel
theorem dd_M_goes_2 : decode bb_M_goes 2 = .ok (.ifCond .ne 7, 3) := by decide +kernel
theorem dd_M_goes_5 : decode bb_M_goes 5 = .ok (.iconst 1, 1) := by decide +kernel
theorem dd_M_goes_6 : decode bb_M_goes 6 = .ok (.goto 29, 3) := by decide +kernel
theorem dd_M_goes_9 : decode bb_M_goes 9 = .ok (.iload_n 2, 1) := by decide +kernel
theorem dd_M_goes_10 : decode bb_M_goes 10 = .ok (.ifCond .ne 7, 3) := by decide +kernel
theorem dd_M_goes_13 : decode bb_M_goes 13 = .ok (.iconst 2, 1) := by decide +kernel
theorem dd_M_goes_14 : decode bb_M_goes 14 = .ok (.goto 21, 3) := by decide +kernel
theorem dd_M_goes_17 : decode bb_M_goes 17 = .ok (.iload_n 3, 1) := by decide +kernel
theorem dd_M_goes_18 : decode bb_M_goes 18 = .ok (.ifCond .ne 7, 3) := by decide +kernel
theorem dd_M_goes_21 : decode bb_M_goes 21 = .ok (.iconst 3, 1) := by decide +kernel
theorem dd_M_goes_22 : decode bb_M_goes 22 = .ok (.goto 13, 3) := by decide +kernel
theorem dd_M_goes_25 : decode bb_M_goes 25 = .ok (.iload 4, 2) := by decide +kernel
theorem dd_M_goes_27 : decode bb_M_goes 27 = .ok (.ifCond .ne 7, 3) := by decide +kernel
theorem dd_M_goes_30 : decode bb_M_goes 30 = .ok (.iconst 4, 1) := by decide +kernel
theorem dd_M_goes_31 : decode bb_M_goes 31 = .ok (.goto 4, 3) := by decide +kernel
theorem dd_M_goes_34 : decode bb_M_goes 34 = .ok (.iconst 0, 1) := by decide +kernel
theorem dd_M_goes_35 : decode bb_M_goes 35 = .ok (.putfield 65, 3) := by decide +kernel
theorem dd_M_goes_38 : decode bb_M_goes 38 = .ok (.aload_n 0, 1) := by decide +kernel
theorem dd_M_goes_39 : decode bb_M_goes 39 = .ok (.getfield 65, 3) := by decide +kernel
theorem dd_M_goes_42 : decode bb_M_goes 42 = .ok (.ifCond .ne 7, 3) := by decide +kernel
theorem dd_M_goes_45 : decode bb_M_goes 45 = .ok (.iconst 1, 1) := by decide +kernel
theorem dd_M_goes_46 : decode bb_M_goes 46 = .ok (.goto 4, 3) := by decide +kernel
theorem dd_M_goes_49 : decode bb_M_goes 49 = .ok (.iconst 0, 1) := by decide +kernel
theorem dd_M_goes_50 : decode bb_M_goes 50 = .ok (.ireturn, 1) := by decide +kernel
theorem dd_M_isHydrant_0 : decode bb_M_isHydrant 0 = .ok (.iload_n 1, 1) := by decide +kernel
theorem dd_M_isHydrant_1 : decode bb_M_isHydrant 1 = .ok (.iconst 0, 1) := by decide +kernel
theorem dd_M_isHydrant_2 : decode bb_M_isHydrant 2 = .ok (.aload_n 0, 1) := by decide +kernel
theorem dd_M_isHydrant_3 : decode bb_M_isHydrant 3 = .ok (.getfield 69, 3) := by decide +kernel
theorem dd_M_isHydrant_6 : decode bb_M_isHydrant 6 = .ok (.iconst 1, 1) := by decide +kernel
theorem dd_M_isHydrant_7 : decode bb_M_isHydrant 7 = .ok (.isub, 1) := by decide +kernel
theorem dd_M_isHydrant_8 : decode bb_M_isHydrant 8 = .ok (.invokestatic 72, 3) := by decide +kernel
theorem dd_M_isHydrant_11 : decode bb_M_isHydrant 11 = .ok (.ireturn, 1) := by decide +kernel
theorem dd_M_isPlace_0 : decode bb_M_isPlace 0 = .ok (.iload_n 0, 1) := by decide +kernel
theorem dd_M_isPlace_1 : decode bb_M_isPlace 1 = .ok (.ldc 76, 2) := by decide +kernel
theorem dd_M_isPlace_3 : decode bb_M_isPlace 3 = .ok (.ldc 77, 2) := by decide +kernel
theorem dd_M_isPlace_5 : decode bb_M_isPlace 5 = .ok (.invokestatic 72, 3) := by decide +kernel
theorem dd_M_isPlace_8 : decode bb_M_isPlace 8 = .ok (.ifCond .eq 18, 3) := by decide +kernel
theorem dd_M_isPlace_11 : decode bb_M_isPlace 11 = .ok (.iload_n 1, 1) := by decide +kernel
theorem dd_M_isPlace_12 : decode bb_M_isPlace 12 = .ok (.ldc 76, 2) := by decide +kernel
theorem dd_M_isPlace_14 : decode bb_M_isPlace 14 = .ok (.ldc 77, 2) := by decide +kernel
theorem dd_M_isPlace_16 : decode bb_M_isPlace 16 = .ok (.invokestatic 72, 3) := by decide +kernel
theorem dd_M_isPlace_19 : decode bb_M_isPlace 19 = .ok (.ifCond .eq 7, 3) := by decide +kernel
theorem dd_M_isPlace_22 : decode bb_M_isPlace 22 = .ok (.iconst 1, 1) := by decide +kernel
theorem dd_M_isPlace_23 : decode bb_M_isPlace 23 = .ok (.goto 4, 3) := by decide +kernel
theorem dd_M_isPlace_26 : decode bb_M_isPlace 26 = .ok (.iconst 0, 1) := by decide +kernel
theorem dd_M_isPlace_27 : decode bb_M_isPlace 27 = .ok (.ireturn, 1) := by decide +kernel
theorem dd_M_isDay_0 : decode bb_M_isDay 0 = .ok (.iload_n 0, 1) := by decide +kernel
theorem dd_M_isDay_1 : decode bb_M_isDay 1 = .ok (.iconst 0, 1) := by decide +kernel
theorem dd_M_isDay_2 : decode bb_M_isDay 2 = .ok (.ldc 78, 2) := by decide +kernel
theorem dd_M_isDay_4 : decode bb_M_isDay 4 = .ok (.invokestatic 72, 3) := by decide +kernel
theorem dd_M_isDay_7 : decode bb_M_isDay 7 = .ok (.ireturn, 1) := by decide +kernel
theorem dd_M_isPressure_0 : decode bb_M_isPressure 0 = .ok (.iload_n 0, 1) := by decide +kernel
theorem dd_M_isPressure_1 : decode bb_M_isPressure 1 = .ok (.iconst 0, 1) := by decide +kernel
theorem dd_M_isPressure_2 : decode bb_M_isPressure 2 = .ok (.sipush 2000, 3) := by decide +kernel
theorem dd_M_isPressure_5 : decode bb_M_isPressure 5 = .ok (.invokestatic 72, 3) := by decide +kernel
theorem dd_M_isPressure_8 : decode bb_M_isPressure 8 = .ok (.ireturn, 1) := by decide +kernel
theorem dd_M_isFlow_0 : decode bb_M_isFlow 0 = .ok (.iload_n 0, 1) := by decide +kernel
theorem dd_M_isFlow_1 : decode bb_M_isFlow 1 = .ok (.iconst 0, 1) := by decide +kernel
theorem dd_M_isFlow_2 : decode bb_M_isFlow 2 = .ok (.sipush 20000, 3) := by decide +kernel
theorem dd_M_isFlow_5 : decode bb_M_isFlow 5 = .ok (.invokestatic 72, 3) := by decide +kernel
theorem dd_M_isFlow_8 : decode bb_M_isFlow 8 = .ok (.ireturn, 1) := by decide +kernel
theorem dd_M_hydrant_0 : decode bb_M_hydrant 0 = .ok (.aload_n 0, 1) := by decide +kernel
theorem dd_M_hydrant_1 : decode bb_M_hydrant 1 = .ok (.iload_n 3, 1) := by decide +kernel
theorem dd_M_hydrant_2 : decode bb_M_hydrant 2 = .ok (.iconst 0, 1) := by decide +kernel
theorem dd_M_hydrant_3 : decode bb_M_hydrant 3 = .ok (.bipush 19, 2) := by decide +kernel
theorem dd_M_hydrant_5 : decode bb_M_hydrant 5 = .ok (.invokestatic 72, 3) := by decide +kernel
theorem dd_M_hydrant_8 : decode bb_M_hydrant 8 = .ok (.ifCond .eq 17, 3) := by decide +kernel
theorem dd_M_hydrant_11 : decode bb_M_hydrant 11 = .ok (.iload 4, 2) := by decide +kernel
theorem dd_M_hydrant_13 : decode bb_M_hydrant 13 = .ok (.iconst 0, 1) := by decide +kernel
theorem dd_M_hydrant_14 : decode bb_M_hydrant 14 = .ok (.iconst 2, 1) := by decide +kernel
theorem dd_M_hydrant_15 : decode bb_M_hydrant 15 = .ok (.invokestatic 72, 3) := by decide +kernel
theorem dd_M_hydrant_18 : decode bb_M_hydrant 18 = .ok (.ifCond .eq 7, 3) := by decide +kernel
theorem dd_M_hydrant_21 : decode bb_M_hydrant 21 = .ok (.iconst 1, 1) := by decide +kernel
theorem dd_M_hydrant_22 : decode bb_M_hydrant 22 = .ok (.goto 4, 3) := by decide +kernel
theorem dd_M_hydrant_25 : decode bb_M_hydrant 25 = .ok (.iconst 0, 1) := by decide +kernel
theorem dd_M_hydrant_26 : decode bb_M_hydrant 26 = .ok (.iload_n 1, 1) := by decide +kernel
theorem dd_M_hydrant_27 : decode bb_M_hydrant 27 = .ok (.iload_n 2, 1) := by decide +kernel
theorem dd_M_hydrant_28 : decode bb_M_hydrant 28 = .ok (.invokestatic 79, 3) := by decide +kernel
theorem dd_M_hydrant_31 : decode bb_M_hydrant 31 = .ok (.aload_n 0, 1) := by decide +kernel
theorem dd_M_hydrant_32 : decode bb_M_hydrant 32 = .ok (.getfield 69, 3) := by decide +kernel
theorem dd_M_hydrant_35 : decode bb_M_hydrant 35 = .ok (.bipush 40, 2) := by decide +kernel
theorem dd_M_hydrant_37 : decode bb_M_hydrant 37 = .ok (.if_icmp .ge 7, 3) := by decide +kernel
theorem dd_M_hydrant_40 : decode bb_M_hydrant 40 = .ok (.iconst 1, 1) := by decide +kernel
theorem dd_M_hydrant_41 : decode bb_M_hydrant 41 = .ok (.goto 4, 3) := by decide +kernel
theorem dd_M_hydrant_44 : decode bb_M_hydrant 44 = .ok (.iconst 0, 1) := by decide +kernel
theorem dd_M_hydrant_45 : decode bb_M_hydrant 45 = .ok (.iconst 1, 1) := by decide +kernel
theorem dd_M_hydrant_46 : decode bb_M_hydrant 46 = .ok (.invokevirtual 83, 3) := by decide +kernel
theorem dd_M_hydrant_49 : decode bb_M_hydrant 49 = .ok (.ifCond .ne 5, 3) := by decide +kernel
theorem dd_M_hydrant_52 : decode bb_M_hydrant 52 = .ok (.iconst 0, 1) := by decide +kernel
theorem dd_M_hydrant_53 : decode bb_M_hydrant 53 = .ok (.ireturn, 1) := by decide +kernel
theorem dd_M_hydrant_54 : decode bb_M_hydrant 54 = .ok (.aload_n 0, 1) := by decide +kernel
theorem dd_M_hydrant_55 : decode bb_M_hydrant 55 = .ok (.getfield 7, 3) := by decide +kernel
theorem dd_M_hydrant_58 : decode bb_M_hydrant 58 = .ok (.aload_n 0, 1) := by decide +kernel
theorem dd_M_hydrant_59 : decode bb_M_hydrant 59 = .ok (.getfield 69, 3) := by decide +kernel
theorem dd_M_hydrant_62 : decode bb_M_hydrant 62 = .ok (.iload_n 1, 1) := by decide +kernel
theorem dd_M_hydrant_63 : decode bb_M_hydrant 63 = .ok (.iastore, 1) := by decide +kernel
theorem dd_M_hydrant_64 : decode bb_M_hydrant 64 = .ok (.aload_n 0, 1) := by decide +kernel
theorem dd_M_hydrant_65 : decode bb_M_hydrant 65 = .ok (.getfield 13, 3) := by decide +kernel
theorem dd_M_hydrant_68 : decode bb_M_hydrant 68 = .ok (.aload_n 0, 1) := by decide +kernel
theorem dd_M_hydrant_69 : decode bb_M_hydrant 69 = .ok (.getfield 69, 3) := by decide +kernel
theorem dd_M_hydrant_72 : decode bb_M_hydrant 72 = .ok (.iload_n 2, 1) := by decide +kernel
theorem dd_M_hydrant_73 : decode bb_M_hydrant 73 = .ok (.iastore, 1) := by decide +kernel
theorem dd_M_hydrant_74 : decode bb_M_hydrant 74 = .ok (.aload_n 0, 1) := by decide +kernel
theorem dd_M_hydrant_75 : decode bb_M_hydrant 75 = .ok (.getfield 16, 3) := by decide +kernel
theorem dd_M_hydrant_78 : decode bb_M_hydrant 78 = .ok (.aload_n 0, 1) := by decide +kernel
theorem dd_M_hydrant_79 : decode bb_M_hydrant 79 = .ok (.getfield 69, 3) := by decide +kernel
theorem dd_M_hydrant_82 : decode bb_M_hydrant 82 = .ok (.iload_n 3, 1) := by decide +kernel
theorem dd_M_hydrant_83 : decode bb_M_hydrant 83 = .ok (.iastore, 1) := by decide +kernel
theorem dd_M_hydrant_84 : decode bb_M_hydrant 84 = .ok (.aload_n 0, 1) := by decide +kernel
theorem dd_M_hydrant_85 : decode bb_M_hydrant 85 = .ok (.getfield 19, 3) := by decide +kernel
theorem dd_M_hydrant_88 : decode bb_M_hydrant 88 = .ok (.aload_n 0, 1) := by decide +kernel
theorem dd_M_hydrant_89 : decode bb_M_hydrant 89 = .ok (.getfield 69, 3) := by decide +kernel
theorem dd_M_hydrant_92 : decode bb_M_hydrant 92 = .ok (.iload 4, 2) := by decide +kernel
theorem dd_M_hydrant_94 : decode bb_M_hydrant 94 = .ok (.iastore, 1) := by decide +kernel
theorem dd_M_hydrant_95 : decode bb_M_hydrant 95 = .ok (.aload_n 0, 1) := by decide +kernel
theorem dd_M_hydrant_96 : decode bb_M_hydrant 96 = .ok (.dup, 1) := by decide +kernel
theorem dd_M_hydrant_97 : decode bb_M_hydrant 97 = .ok (.getfield 69, 3) := by decide +kernel
theorem dd_M_hydrant_100 : decode bb_M_hydrant 100 = .ok (.iconst 1, 1) := by decide +kernel
theorem dd_M_hydrant_101 : decode bb_M_hydrant 101 = .ok (.iadd, 1) := by decide +kernel
theorem dd_M_hydrant_102 : decode bb_M_hydrant 102 = .ok (.putfield 69, 3) := by decide +kernel
theorem dd_M_hydrant_105 : decode bb_M_hydrant 105 = .ok (.aload_n 0, 1) := by decide +kernel
theorem dd_M_hydrant_106 : decode bb_M_hydrant 106 = .ok (.getfield 69, 3) := by decide +kernel
theorem dd_M_hydrant_109 : decode bb_M_hydrant 109 = .ok (.iconst 1, 1) := by decide +kernel
theorem dd_M_hydrant_110 : decode bb_M_hydrant 110 = .ok (.isub, 1) := by decide +kernel
theorem dd_M_hydrant_111 : decode bb_M_hydrant 111 = .ok (.ireturn, 1) := by decide +kernel
theorem dd_M_limit_0 : decode bb_M_limit 0 = .ok (.aload_n 0, 1) := by decide +kernel
theorem dd_M_limit_1 : decode bb_M_limit 1 = .ok (.iload_n 1, 1) := by decide +kernel
theorem dd_M_limit_2 : decode bb_M_limit 2 = .ok (.iconst 0, 1) := by decide +kernel
theorem dd_M_limit_3 : decode bb_M_limit 3 = .ok (.bipush 19, 2) := by decide +kernel
theorem dd_M_limit_5 : decode bb_M_limit 5 = .ok (.invokestatic 72, 3) := by decide +kernel
theorem dd_M_limit_8 : decode bb_M_limit 8 = .ok (.iload_n 2, 1) := by decide +kernel
theorem dd_M_limit_9 : decode bb_M_limit 9 = .ok (.invokestatic 87, 3) := by decide +kernel
theorem dd_M_limit_12 : decode bb_M_limit 12 = .ok (.iconst 1, 1) := by decide +kernel
theorem dd_M_limit_13 : decode bb_M_limit 13 = .ok (.iconst 1, 1) := by decide +kernel
theorem dd_M_limit_14 : decode bb_M_limit 14 = .ok (.invokevirtual 83, 3) := by decide +kernel
theorem dd_M_limit_17 : decode bb_M_limit 17 = .ok (.ifCond .eq 10, 3) := by decide +kernel
theorem dd_M_limit_20 : decode bb_M_limit 20 = .ok (.aload_n 0, 1) := by decide +kernel
theorem dd_M_limit_21 : decode bb_M_limit 21 = .ok (.getfield 38, 3) := by decide +kernel
theorem dd_M_limit_24 : decode bb_M_limit 24 = .ok (.iload_n 1, 1) := by decide +kernel
theorem dd_M_limit_25 : decode bb_M_limit 25 = .ok (.iload_n 2, 1) := by decide +kernel
theorem dd_M_limit_26 : decode bb_M_limit 26 = .ok (.iastore, 1) := by decide +kernel
theorem dd_M_limit_27 : decode bb_M_limit 27 = .ok (.return_, 1) := by decide +kernel
theorem dd_M_allow_0 : decode bb_M_allow 0 = .ok (.aload_n 0, 1) := by decide +kernel
theorem dd_M_allow_1 : decode bb_M_allow 1 = .ok (.iconst 0, 1) := by decide +kernel
theorem dd_M_allow_2 : decode bb_M_allow 2 = .ok (.putfield 65, 3) := by decide +kernel
theorem dd_M_allow_5 : decode bb_M_allow 5 = .ok (.aload_n 0, 1) := by decide +kernel
theorem dd_M_allow_6 : decode bb_M_allow 6 = .ok (.iload_n 1, 1) := by decide +kernel
theorem dd_M_allow_7 : decode bb_M_allow 7 = .ok (.putfield 91, 3) := by decide +kernel
theorem dd_M_allow_10 : decode bb_M_allow 10 = .ok (.return_, 1) := by decide +kernel
theorem dd_M_test_0 : decode bb_M_test 0 = .ok (.aload_n 0, 1) := by decide +kernel
theorem dd_M_test_1 : decode bb_M_test 1 = .ok (.aload_n 0, 1) := by decide +kernel
theorem dd_M_test_2 : decode bb_M_test 2 = .ok (.iload_n 1, 1) := by decide +kernel
theorem dd_M_test_3 : decode bb_M_test 3 = .ok (.invokevirtual 95, 3) := by decide +kernel
theorem dd_M_test_6 : decode bb_M_test 6 = .ok (.iload_n 2, 1) := by decide +kernel
theorem dd_M_test_7 : decode bb_M_test 7 = .ok (.invokestatic 98, 3) := by decide +kernel
theorem dd_M_test_10 : decode bb_M_test 10 = .ok (.ifCond .eq 30, 3) := by decide +kernel
theorem dd_M_test_13 : decode bb_M_test 13 = .ok (.iload_n 3, 1) := by decide +kernel
theorem dd_M_test_14 : decode bb_M_test 14 = .ok (.invokestatic 101, 3) := by decide +kernel
theorem dd_M_test_17 : decode bb_M_test 17 = .ok (.ifCond .eq 23, 3) := by decide +kernel
theorem dd_M_test_20 : decode bb_M_test 20 = .ok (.iload 4, 2) := by decide +kernel
theorem dd_M_test_22 : decode bb_M_test 22 = .ok (.invokestatic 87, 3) := by decide +kernel
theorem dd_M_test_25 : decode bb_M_test 25 = .ok (.ifCond .eq 15, 3) := by decide +kernel
theorem dd_M_test_28 : decode bb_M_test 28 = .ok (.iload 5, 2) := by decide +kernel
theorem dd_M_test_30 : decode bb_M_test 30 = .ok (.invokestatic 101, 3) := by decide +kernel
theorem dd_M_test_33 : decode bb_M_test 33 = .ok (.ifCond .eq 7, 3) := by decide +kernel
theorem dd_M_test_36 : decode bb_M_test 36 = .ok (.iconst 1, 1) := by decide +kernel
theorem dd_M_test_37 : decode bb_M_test 37 = .ok (.goto 4, 3) := by decide +kernel
theorem dd_M_test_40 : decode bb_M_test 40 = .ok (.iconst 0, 1) := by decide +kernel
theorem dd_M_test_41 : decode bb_M_test 41 = .ok (.iload 5, 2) := by decide +kernel
theorem dd_M_test_43 : decode bb_M_test 43 = .ok (.iload_n 3, 1) := by decide +kernel
theorem dd_M_test_44 : decode bb_M_test 44 = .ok (.if_icmp .gt 7, 3) := by decide +kernel
theorem dd_M_test_47 : decode bb_M_test 47 = .ok (.iconst 1, 1) := by decide +kernel
theorem dd_M_test_48 : decode bb_M_test 48 = .ok (.goto 4, 3) := by decide +kernel
theorem dd_M_test_51 : decode bb_M_test 51 = .ok (.iconst 0, 1) := by decide +kernel
theorem dd_M_test_52 : decode bb_M_test 52 = .ok (.aload_n 0, 1) := by decide +kernel
theorem dd_M_test_53 : decode bb_M_test 53 = .ok (.getfield 104, 3) := by decide +kernel
theorem dd_M_test_56 : decode bb_M_test 56 = .ok (.bipush 100, 2) := by decide +kernel
theorem dd_M_test_58 : decode bb_M_test 58 = .ok (.if_icmp .ge 7, 3) := by decide +kernel
theorem dd_M_test_61 : decode bb_M_test 61 = .ok (.iconst 1, 1) := by decide +kernel
theorem dd_M_test_62 : decode bb_M_test 62 = .ok (.goto 4, 3) := by decide +kernel
theorem dd_M_test_65 : decode bb_M_test 65 = .ok (.iconst 0, 1) := by decide +kernel
theorem dd_M_test_66 : decode bb_M_test 66 = .ok (.invokevirtual 83, 3) := by decide +kernel
theorem dd_M_test_69 : decode bb_M_test 69 = .ok (.ifCond .ne 5, 3) := by decide +kernel
theorem dd_M_test_72 : decode bb_M_test 72 = .ok (.iconst 0, 1) := by decide +kernel
theorem dd_M_test_73 : decode bb_M_test 73 = .ok (.ireturn, 1) := by decide +kernel
theorem dd_M_test_74 : decode bb_M_test 74 = .ok (.aload_n 0, 1) := by decide +kernel
theorem dd_M_test_75 : decode bb_M_test 75 = .ok (.getfield 41, 3) := by decide +kernel
theorem dd_M_test_78 : decode bb_M_test 78 = .ok (.aload_n 0, 1) := by decide +kernel
theorem dd_M_test_79 : decode bb_M_test 79 = .ok (.getfield 104, 3) := by decide +kernel
theorem dd_M_test_82 : decode bb_M_test 82 = .ok (.iload_n 1, 1) := by decide +kernel
theorem dd_M_test_83 : decode bb_M_test 83 = .ok (.iastore, 1) := by decide +kernel
theorem dd_M_test_84 : decode bb_M_test 84 = .ok (.aload_n 0, 1) := by decide +kernel
theorem dd_M_test_85 : decode bb_M_test 85 = .ok (.getfield 44, 3) := by decide +kernel
theorem dd_M_test_88 : decode bb_M_test 88 = .ok (.aload_n 0, 1) := by decide +kernel
theorem dd_M_test_89 : decode bb_M_test 89 = .ok (.getfield 104, 3) := by decide +kernel
theorem dd_M_test_92 : decode bb_M_test 92 = .ok (.iload_n 2, 1) := by decide +kernel
theorem dd_M_test_93 : decode bb_M_test 93 = .ok (.iastore, 1) := by decide +kernel
theorem dd_M_test_94 : decode bb_M_test 94 = .ok (.aload_n 0, 1) := by decide +kernel
theorem dd_M_test_95 : decode bb_M_test 95 = .ok (.getfield 47, 3) := by decide +kernel
theorem dd_M_test_98 : decode bb_M_test 98 = .ok (.aload_n 0, 1) := by decide +kernel
theorem dd_M_test_99 : decode bb_M_test 99 = .ok (.getfield 104, 3) := by decide +kernel
theorem dd_M_test_102 : decode bb_M_test 102 = .ok (.iload_n 3, 1) := by decide +kernel
theorem dd_M_test_103 : decode bb_M_test 103 = .ok (.iastore, 1) := by decide +kernel
theorem dd_M_test_104 : decode bb_M_test 104 = .ok (.aload_n 0, 1) := by decide +kernel
theorem dd_M_test_105 : decode bb_M_test 105 = .ok (.getfield 50, 3) := by decide +kernel
theorem dd_M_test_108 : decode bb_M_test 108 = .ok (.aload_n 0, 1) := by decide +kernel
theorem dd_M_test_109 : decode bb_M_test 109 = .ok (.getfield 104, 3) := by decide +kernel
theorem dd_M_test_112 : decode bb_M_test 112 = .ok (.iload 4, 2) := by decide +kernel
theorem dd_M_test_114 : decode bb_M_test 114 = .ok (.iastore, 1) := by decide +kernel
theorem dd_M_test_115 : decode bb_M_test 115 = .ok (.aload_n 0, 1) := by decide +kernel
theorem dd_M_test_116 : decode bb_M_test 116 = .ok (.getfield 53, 3) := by decide +kernel
theorem dd_M_test_119 : decode bb_M_test 119 = .ok (.aload_n 0, 1) := by decide +kernel
theorem dd_M_test_120 : decode bb_M_test 120 = .ok (.getfield 104, 3) := by decide +kernel
theorem dd_M_test_123 : decode bb_M_test 123 = .ok (.iload 5, 2) := by decide +kernel
theorem dd_M_test_125 : decode bb_M_test 125 = .ok (.iastore, 1) := by decide +kernel
theorem dd_M_test_126 : decode bb_M_test 126 = .ok (.aload_n 0, 1) := by decide +kernel
theorem dd_M_test_127 : decode bb_M_test 127 = .ok (.dup, 1) := by decide +kernel
theorem dd_M_test_128 : decode bb_M_test 128 = .ok (.getfield 104, 3) := by decide +kernel
theorem dd_M_test_131 : decode bb_M_test 131 = .ok (.iconst 1, 1) := by decide +kernel
theorem dd_M_test_132 : decode bb_M_test 132 = .ok (.iadd, 1) := by decide +kernel
theorem dd_M_test_133 : decode bb_M_test 133 = .ok (.putfield 104, 3) := by decide +kernel
theorem dd_M_test_136 : decode bb_M_test 136 = .ok (.aload_n 0, 1) := by decide +kernel
theorem dd_M_test_137 : decode bb_M_test 137 = .ok (.getfield 104, 3) := by decide +kernel
theorem dd_M_test_140 : decode bb_M_test 140 = .ok (.iconst 1, 1) := by decide +kernel
theorem dd_M_test_141 : decode bb_M_test 141 = .ok (.isub, 1) := by decide +kernel
theorem dd_M_test_142 : decode bb_M_test 142 = .ok (.ireturn, 1) := by decide +kernel
theorem dd_M_counts_0 : decode bb_M_counts 0 = .ok (.iconst (-1), 1) := by decide +kernel
theorem dd_M_counts_1 : decode bb_M_counts 1 = .ok (.istore_n 2, 1) := by decide +kernel
theorem dd_M_counts_2 : decode bb_M_counts 2 = .ok (.iconst 0, 1) := by decide +kernel
theorem dd_M_counts_3 : decode bb_M_counts 3 = .ok (.istore_n 3, 1) := by decide +kernel
theorem dd_M_counts_4 : decode bb_M_counts 4 = .ok (.iload_n 3, 1) := by decide +kernel
theorem dd_M_counts_5 : decode bb_M_counts 5 = .ok (.aload_n 0, 1) := by decide +kernel
theorem dd_M_counts_6 : decode bb_M_counts 6 = .ok (.getfield 104, 3) := by decide +kernel
theorem dd_M_counts_9 : decode bb_M_counts 9 = .ok (.if_icmp .ge 40, 3) := by decide +kernel
theorem dd_M_counts_12 : decode bb_M_counts 12 = .ok (.aload_n 0, 1) := by decide +kernel
theorem dd_M_counts_13 : decode bb_M_counts 13 = .ok (.getfield 41, 3) := by decide +kernel
theorem dd_M_counts_16 : decode bb_M_counts 16 = .ok (.iload_n 3, 1) := by decide +kernel
theorem dd_M_counts_17 : decode bb_M_counts 17 = .ok (.iaload, 1) := by decide +kernel
theorem dd_M_counts_18 : decode bb_M_counts 18 = .ok (.iload_n 1, 1) := by decide +kernel
theorem dd_M_counts_19 : decode bb_M_counts 19 = .ok (.if_icmp .ne 24, 3) := by decide +kernel
theorem dd_M_counts_22 : decode bb_M_counts 22 = .ok (.iload_n 2, 1) := by decide +kernel
theorem dd_M_counts_23 : decode bb_M_counts 23 = .ok (.ifCond .lt 18, 3) := by decide +kernel
theorem dd_M_counts_26 : decode bb_M_counts 26 = .ok (.aload_n 0, 1) := by decide +kernel
theorem dd_M_counts_27 : decode bb_M_counts 27 = .ok (.getfield 44, 3) := by decide +kernel
theorem dd_M_counts_30 : decode bb_M_counts 30 = .ok (.iload_n 3, 1) := by decide +kernel
theorem dd_M_counts_31 : decode bb_M_counts 31 = .ok (.iaload, 1) := by decide +kernel
theorem dd_M_counts_32 : decode bb_M_counts 32 = .ok (.aload_n 0, 1) := by decide +kernel
theorem dd_M_counts_33 : decode bb_M_counts 33 = .ok (.getfield 44, 3) := by decide +kernel
theorem dd_M_counts_36 : decode bb_M_counts 36 = .ok (.iload_n 2, 1) := by decide +kernel
theorem dd_M_counts_37 : decode bb_M_counts 37 = .ok (.iaload, 1) := by decide +kernel
theorem dd_M_counts_38 : decode bb_M_counts 38 = .ok (.if_icmp .lt 5, 3) := by decide +kernel
theorem dd_M_counts_41 : decode bb_M_counts 41 = .ok (.iload_n 3, 1) := by decide +kernel
theorem dd_M_counts_42 : decode bb_M_counts 42 = .ok (.istore_n 2, 1) := by decide +kernel
theorem dd_M_counts_43 : decode bb_M_counts 43 = .ok (.iinc 3 1, 3) := by decide +kernel
theorem dd_M_counts_46 : decode bb_M_counts 46 = .ok (.goto (-42), 3) := by decide +kernel
theorem dd_M_counts_49 : decode bb_M_counts 49 = .ok (.iload_n 2, 1) := by decide +kernel
theorem dd_M_counts_50 : decode bb_M_counts 50 = .ok (.ireturn, 1) := by decide +kernel
theorem dd_M_canTell_0 : decode bb_M_canTell 0 = .ok (.iload_n 2, 1) := by decide +kernel
theorem dd_M_canTell_1 : decode bb_M_canTell 1 = .ok (.aload_n 0, 1) := by decide +kernel
theorem dd_M_canTell_2 : decode bb_M_canTell 2 = .ok (.getfield 47, 3) := by decide +kernel
theorem dd_M_canTell_5 : decode bb_M_canTell 5 = .ok (.iload_n 1, 1) := by decide +kernel
theorem dd_M_canTell_6 : decode bb_M_canTell 6 = .ok (.iaload, 1) := by decide +kernel
theorem dd_M_canTell_7 : decode bb_M_canTell 7 = .ok (.if_icmp .ge 18, 3) := by decide +kernel
theorem dd_M_canTell_10 : decode bb_M_canTell 10 = .ok (.aload_n 0, 1) := by decide +kernel
theorem dd_M_canTell_11 : decode bb_M_canTell 11 = .ok (.getfield 47, 3) := by decide +kernel
theorem dd_M_canTell_14 : decode bb_M_canTell 14 = .ok (.iload_n 1, 1) := by decide +kernel
theorem dd_M_canTell_15 : decode bb_M_canTell 15 = .ok (.iaload, 1) := by decide +kernel
theorem dd_M_canTell_16 : decode bb_M_canTell 16 = .ok (.aload_n 0, 1) := by decide +kernel
theorem dd_M_canTell_17 : decode bb_M_canTell 17 = .ok (.getfield 53, 3) := by decide +kernel
theorem dd_M_canTell_20 : decode bb_M_canTell 20 = .ok (.iload_n 1, 1) := by decide +kernel
theorem dd_M_canTell_21 : decode bb_M_canTell 21 = .ok (.iaload, 1) := by decide +kernel
theorem dd_M_canTell_22 : decode bb_M_canTell 22 = .ok (.if_icmp .le 7, 3) := by decide +kernel
theorem dd_M_canTell_25 : decode bb_M_canTell 25 = .ok (.iconst 1, 1) := by decide +kernel
theorem dd_M_canTell_26 : decode bb_M_canTell 26 = .ok (.goto 4, 3) := by decide +kernel
theorem dd_M_canTell_29 : decode bb_M_canTell 29 = .ok (.iconst 0, 1) := by decide +kernel
theorem dd_M_canTell_30 : decode bb_M_canTell 30 = .ok (.ireturn, 1) := by decide +kernel
theorem dd_M_up_0 : decode bb_M_up 0 = .ok (.iload_n 2, 1) := by decide +kernel
theorem dd_M_up_1 : decode bb_M_up 1 = .ok (.aload_n 0, 1) := by decide +kernel
theorem dd_M_up_2 : decode bb_M_up 2 = .ok (.getfield 47, 3) := by decide +kernel
theorem dd_M_up_5 : decode bb_M_up 5 = .ok (.iload_n 1, 1) := by decide +kernel
theorem dd_M_up_6 : decode bb_M_up 6 = .ok (.iaload, 1) := by decide +kernel
theorem dd_M_up_7 : decode bb_M_up 7 = .ok (.if_icmp .lt 7, 3) := by decide +kernel
theorem dd_M_up_10 : decode bb_M_up 10 = .ok (.iconst 0, 1) := by decide +kernel
theorem dd_M_up_11 : decode bb_M_up 11 = .ok (.goto 18, 3) := by decide +kernel
theorem dd_M_up_14 : decode bb_M_up 14 = .ok (.aload_n 0, 1) := by decide +kernel
theorem dd_M_up_15 : decode bb_M_up 15 = .ok (.getfield 50, 3) := by decide +kernel
theorem dd_M_up_18 : decode bb_M_up 18 = .ok (.iload_n 1, 1) := by decide +kernel
theorem dd_M_up_19 : decode bb_M_up 19 = .ok (.iaload, 1) := by decide +kernel
theorem dd_M_up_20 : decode bb_M_up 20 = .ok (.aload_n 0, 1) := by decide +kernel
theorem dd_M_up_21 : decode bb_M_up 21 = .ok (.getfield 47, 3) := by decide +kernel
theorem dd_M_up_24 : decode bb_M_up 24 = .ok (.iload_n 1, 1) := by decide +kernel
theorem dd_M_up_25 : decode bb_M_up 25 = .ok (.iaload, 1) := by decide +kernel
theorem dd_M_up_26 : decode bb_M_up 26 = .ok (.iload_n 2, 1) := by decide +kernel
theorem dd_M_up_27 : decode bb_M_up 27 = .ok (.isub, 1) := by decide +kernel
theorem dd_M_up_28 : decode bb_M_up 28 = .ok (.imul, 1) := by decide +kernel
theorem dd_M_up_29 : decode bb_M_up 29 = .ok (.ireturn, 1) := by decide +kernel
theorem dd_M_down_0 : decode bb_M_down 0 = .ok (.iload_n 2, 1) := by decide +kernel
theorem dd_M_down_1 : decode bb_M_down 1 = .ok (.aload_n 0, 1) := by decide +kernel
theorem dd_M_down_2 : decode bb_M_down 2 = .ok (.getfield 47, 3) := by decide +kernel
theorem dd_M_down_5 : decode bb_M_down 5 = .ok (.iload_n 1, 1) := by decide +kernel
theorem dd_M_down_6 : decode bb_M_down 6 = .ok (.iaload, 1) := by decide +kernel
theorem dd_M_down_7 : decode bb_M_down 7 = .ok (.if_icmp .lt 7, 3) := by decide +kernel
theorem dd_M_down_10 : decode bb_M_down 10 = .ok (.iconst 1, 1) := by decide +kernel
theorem dd_M_down_11 : decode bb_M_down 11 = .ok (.goto 16, 3) := by decide +kernel
theorem dd_M_down_14 : decode bb_M_down 14 = .ok (.aload_n 0, 1) := by decide +kernel
theorem dd_M_down_15 : decode bb_M_down 15 = .ok (.getfield 47, 3) := by decide +kernel
theorem dd_M_down_18 : decode bb_M_down 18 = .ok (.iload_n 1, 1) := by decide +kernel
theorem dd_M_down_19 : decode bb_M_down 19 = .ok (.iaload, 1) := by decide +kernel
theorem dd_M_down_20 : decode bb_M_down 20 = .ok (.aload_n 0, 1) := by decide +kernel
theorem dd_M_down_21 : decode bb_M_down 21 = .ok (.getfield 53, 3) := by decide +kernel
theorem dd_M_down_24 : decode bb_M_down 24 = .ok (.iload_n 1, 1) := by decide +kernel
theorem dd_M_down_25 : decode bb_M_down 25 = .ok (.iaload, 1) := by decide +kernel
theorem dd_M_down_26 : decode bb_M_down 26 = .ok (.isub, 1) := by decide +kernel
theorem dd_M_down_27 : decode bb_M_down 27 = .ok (.ireturn, 1) := by decide +kernel
theorem dd_M_flow_0 : decode bb_M_flow 0 = .ok (.aload_n 0, 1) := by decide +kernel
theorem dd_M_flow_1 : decode bb_M_flow 1 = .ok (.iload_n 1, 1) := by decide +kernel
theorem dd_M_flow_2 : decode bb_M_flow 2 = .ok (.invokevirtual 95, 3) := by decide +kernel
theorem dd_M_flow_5 : decode bb_M_flow 5 = .ok (.ifCond .eq 11, 3) := by decide +kernel
theorem dd_M_flow_8 : decode bb_M_flow 8 = .ok (.aload_n 0, 1) := by decide +kernel
theorem dd_M_flow_9 : decode bb_M_flow 9 = .ok (.iload_n 1, 1) := by decide +kernel
theorem dd_M_flow_10 : decode bb_M_flow 10 = .ok (.invokevirtual 107, 3) := by decide +kernel
theorem dd_M_flow_13 : decode bb_M_flow 13 = .ok (.goto 4, 3) := by decide +kernel
theorem dd_M_flow_16 : decode bb_M_flow 16 = .ok (.iconst (-1), 1) := by decide +kernel
theorem dd_M_flow_17 : decode bb_M_flow 17 = .ok (.istore 4, 2) := by decide +kernel
theorem dd_M_flow_19 : decode bb_M_flow 19 = .ok (.aload_n 0, 1) := by decide +kernel
theorem dd_M_flow_20 : decode bb_M_flow 20 = .ok (.aload_n 0, 1) := by decide +kernel
theorem dd_M_flow_21 : decode bb_M_flow 21 = .ok (.iload_n 1, 1) := by decide +kernel
theorem dd_M_flow_22 : decode bb_M_flow 22 = .ok (.invokevirtual 95, 3) := by decide +kernel
theorem dd_M_flow_25 : decode bb_M_flow 25 = .ok (.ifCond .eq 16, 3) := by decide +kernel
theorem dd_M_flow_28 : decode bb_M_flow 28 = .ok (.iload_n 3, 1) := by decide +kernel
theorem dd_M_flow_29 : decode bb_M_flow 29 = .ok (.iconst 0, 1) := by decide +kernel
theorem dd_M_flow_30 : decode bb_M_flow 30 = .ok (.iconst 1, 1) := by decide +kernel
theorem dd_M_flow_31 : decode bb_M_flow 31 = .ok (.invokestatic 72, 3) := by decide +kernel
theorem dd_M_flow_34 : decode bb_M_flow 34 = .ok (.ifCond .eq 7, 3) := by decide +kernel
theorem dd_M_flow_37 : decode bb_M_flow 37 = .ok (.iconst 1, 1) := by decide +kernel
theorem dd_M_flow_38 : decode bb_M_flow 38 = .ok (.goto 4, 3) := by decide +kernel
theorem dd_M_flow_41 : decode bb_M_flow 41 = .ok (.iconst 0, 1) := by decide +kernel
theorem dd_M_flow_42 : decode bb_M_flow 42 = .ok (.iload_n 2, 1) := by decide +kernel
theorem dd_M_flow_43 : decode bb_M_flow 43 = .ok (.invokestatic 101, 3) := by decide +kernel
theorem dd_M_flow_46 : decode bb_M_flow 46 = .ok (.iload 4, 2) := by decide +kernel
theorem dd_M_flow_48 : decode bb_M_flow 48 = .ok (.ifCond .lt 7, 3) := by decide +kernel
theorem dd_M_flow_51 : decode bb_M_flow 51 = .ok (.iconst 1, 1) := by decide +kernel
theorem dd_M_flow_52 : decode bb_M_flow 52 = .ok (.goto 4, 3) := by decide +kernel
theorem dd_M_flow_55 : decode bb_M_flow 55 = .ok (.iconst 0, 1) := by decide +kernel
theorem dd_M_flow_56 : decode bb_M_flow 56 = .ok (.iload 4, 2) := by decide +kernel
theorem dd_M_flow_58 : decode bb_M_flow 58 = .ok (.ifCond .lt 17, 3) := by decide +kernel
theorem dd_M_flow_61 : decode bb_M_flow 61 = .ok (.aload_n 0, 1) := by decide +kernel
theorem dd_M_flow_62 : decode bb_M_flow 62 = .ok (.iload 4, 2) := by decide +kernel
theorem dd_M_flow_64 : decode bb_M_flow 64 = .ok (.iload_n 2, 1) := by decide +kernel
theorem dd_M_flow_65 : decode bb_M_flow 65 = .ok (.invokevirtual 111, 3) := by decide +kernel
theorem dd_M_flow_68 : decode bb_M_flow 68 = .ok (.ifCond .eq 7, 3) := by decide +kernel
theorem dd_M_flow_71 : decode bb_M_flow 71 = .ok (.iconst 1, 1) := by decide +kernel
theorem dd_M_flow_72 : decode bb_M_flow 72 = .ok (.goto 4, 3) := by decide +kernel
theorem dd_M_flow_75 : decode bb_M_flow 75 = .ok (.iconst 0, 1) := by decide +kernel
theorem dd_M_flow_76 : decode bb_M_flow 76 = .ok (.invokevirtual 83, 3) := by decide +kernel
theorem dd_M_flow_79 : decode bb_M_flow 79 = .ok (.ifCond .ne 5, 3) := by decide +kernel
theorem dd_M_flow_82 : decode bb_M_flow 82 = .ok (.iconst 0, 1) := by decide +kernel
theorem dd_M_flow_83 : decode bb_M_flow 83 = .ok (.ireturn, 1) := by decide +kernel
theorem dd_M_flow_84 : decode bb_M_flow 84 = .ok (.aload_n 0, 1) := by decide +kernel
theorem dd_M_flow_85 : decode bb_M_flow 85 = .ok (.iload 4, 2) := by decide +kernel
theorem dd_M_flow_87 : decode bb_M_flow 87 = .ok (.iload_n 2, 1) := by decide +kernel
theorem dd_M_flow_88 : decode bb_M_flow 88 = .ok (.invokevirtual 114, 3) := by decide +kernel
theorem dd_M_flow_91 : decode bb_M_flow 91 = .ok (.istore 5, 2) := by decide +kernel
theorem dd_M_flow_93 : decode bb_M_flow 93 = .ok (.aload_n 0, 1) := by decide +kernel
theorem dd_M_flow_94 : decode bb_M_flow 94 = .ok (.iload 4, 2) := by decide +kernel
theorem dd_M_flow_96 : decode bb_M_flow 96 = .ok (.iload_n 2, 1) := by decide +kernel
theorem dd_M_flow_97 : decode bb_M_flow 97 = .ok (.invokevirtual 118, 3) := by decide +kernel
theorem dd_M_flow_100 : decode bb_M_flow 100 = .ok (.istore 6, 2) := by decide +kernel
theorem dd_M_flow_102 : decode bb_M_flow 102 = .ok (.iload 6, 2) := by decide +kernel
theorem dd_M_flow_104 : decode bb_M_flow 104 = .ok (.ifCond .le 21, 3) := by decide +kernel
theorem dd_M_flow_107 : decode bb_M_flow 107 = .ok (.iload 5, 2) := by decide +kernel
theorem dd_M_flow_109 : decode bb_M_flow 109 = .ok (.iload 6, 2) := by decide +kernel
theorem dd_M_flow_111 : decode bb_M_flow 111 = .ok (.irem, 1) := by decide +kernel
theorem dd_M_flow_112 : decode bb_M_flow 112 = .ok (.istore 7, 2) := by decide +kernel
theorem dd_M_flow_114 : decode bb_M_flow 114 = .ok (.iload 6, 2) := by decide +kernel
theorem dd_M_flow_116 : decode bb_M_flow 116 = .ok (.istore 5, 2) := by decide +kernel
theorem dd_M_flow_118 : decode bb_M_flow 118 = .ok (.iload 7, 2) := by decide +kernel
theorem dd_M_flow_120 : decode bb_M_flow 120 = .ok (.istore 6, 2) := by decide +kernel
theorem dd_M_flow_122 : decode bb_M_flow 122 = .ok (.goto (-20), 3) := by decide +kernel
theorem dd_M_flow_125 : decode bb_M_flow 125 = .ok (.iload_n 3, 1) := by decide +kernel
theorem dd_M_flow_126 : decode bb_M_flow 126 = .ok (.ifCond .ne 13, 3) := by decide +kernel
theorem dd_M_flow_129 : decode bb_M_flow 129 = .ok (.aload_n 0, 1) := by decide +kernel
theorem dd_M_flow_130 : decode bb_M_flow 130 = .ok (.iload 4, 2) := by decide +kernel
theorem dd_M_flow_132 : decode bb_M_flow 132 = .ok (.iload_n 2, 1) := by decide +kernel
theorem dd_M_flow_133 : decode bb_M_flow 133 = .ok (.invokevirtual 118, 3) := by decide +kernel
theorem dd_M_flow_136 : decode bb_M_flow 136 = .ok (.goto 10, 3) := by decide +kernel
theorem dd_M_flow_139 : decode bb_M_flow 139 = .ok (.aload_n 0, 1) := by decide +kernel
theorem dd_M_flow_140 : decode bb_M_flow 140 = .ok (.iload 4, 2) := by decide +kernel
theorem dd_M_flow_142 : decode bb_M_flow 142 = .ok (.iload_n 2, 1) := by decide +kernel
theorem dd_M_flow_143 : decode bb_M_flow 143 = .ok (.invokevirtual 114, 3) := by decide +kernel
theorem dd_M_flow_146 : decode bb_M_flow 146 = .ok (.iload 5, 2) := by decide +kernel
theorem dd_M_flow_148 : decode bb_M_flow 148 = .ok (.idiv, 1) := by decide +kernel
theorem dd_M_flow_149 : decode bb_M_flow 149 = .ok (.ireturn, 1) := by decide +kernel
theorem dd_M_sort_0 : decode bb_M_sort 0 = .ok (.aload_n 0, 1) := by decide +kernel
theorem dd_M_sort_1 : decode bb_M_sort 1 = .ok (.iload_n 1, 1) := by decide +kernel
theorem dd_M_sort_2 : decode bb_M_sort 2 = .ok (.invokevirtual 95, 3) := by decide +kernel
theorem dd_M_sort_5 : decode bb_M_sort 5 = .ok (.ifCond .eq 11, 3) := by decide +kernel
theorem dd_M_sort_8 : decode bb_M_sort 8 = .ok (.aload_n 0, 1) := by decide +kernel
theorem dd_M_sort_9 : decode bb_M_sort 9 = .ok (.iload_n 1, 1) := by decide +kernel
theorem dd_M_sort_10 : decode bb_M_sort 10 = .ok (.invokevirtual 107, 3) := by decide +kernel
theorem dd_M_sort_13 : decode bb_M_sort 13 = .ok (.goto 4, 3) := by decide +kernel
theorem dd_M_sort_16 : decode bb_M_sort 16 = .ok (.iconst (-1), 1) := by decide +kernel
theorem dd_M_sort_17 : decode bb_M_sort 17 = .ok (.istore_n 2, 1) := by decide +kernel
theorem dd_M_sort_18 : decode bb_M_sort 18 = .ok (.aload_n 0, 1) := by decide +kernel
theorem dd_M_sort_19 : decode bb_M_sort 19 = .ok (.aload_n 0, 1) := by decide +kernel
theorem dd_M_sort_20 : decode bb_M_sort 20 = .ok (.iload_n 1, 1) := by decide +kernel
theorem dd_M_sort_21 : decode bb_M_sort 21 = .ok (.invokevirtual 95, 3) := by decide +kernel
theorem dd_M_sort_24 : decode bb_M_sort 24 = .ok (.iload_n 2, 1) := by decide +kernel
theorem dd_M_sort_25 : decode bb_M_sort 25 = .ok (.ifCond .lt 7, 3) := by decide +kernel
theorem dd_M_sort_28 : decode bb_M_sort 28 = .ok (.iconst 1, 1) := by decide +kernel
theorem dd_M_sort_29 : decode bb_M_sort 29 = .ok (.goto 4, 3) := by decide +kernel
theorem dd_M_sort_32 : decode bb_M_sort 32 = .ok (.iconst 0, 1) := by decide +kernel
theorem dd_M_sort_33 : decode bb_M_sort 33 = .ok (.iload_n 2, 1) := by decide +kernel
theorem dd_M_sort_34 : decode bb_M_sort 34 = .ok (.ifCond .lt 18, 3) := by decide +kernel
theorem dd_M_sort_37 : decode bb_M_sort 37 = .ok (.aload_n 0, 1) := by decide +kernel
theorem dd_M_sort_38 : decode bb_M_sort 38 = .ok (.iload_n 2, 1) := by decide +kernel
theorem dd_M_sort_39 : decode bb_M_sort 39 = .ok (.sipush 200, 3) := by decide +kernel
theorem dd_M_sort_42 : decode bb_M_sort 42 = .ok (.invokevirtual 111, 3) := by decide +kernel
theorem dd_M_sort_45 : decode bb_M_sort 45 = .ok (.ifCond .eq 7, 3) := by decide +kernel
theorem dd_M_sort_48 : decode bb_M_sort 48 = .ok (.iconst 1, 1) := by decide +kernel
theorem dd_M_sort_49 : decode bb_M_sort 49 = .ok (.goto 4, 3) := by decide +kernel
theorem dd_M_sort_52 : decode bb_M_sort 52 = .ok (.iconst 0, 1) := by decide +kernel
theorem dd_M_sort_53 : decode bb_M_sort 53 = .ok (.iconst 1, 1) := by decide +kernel
theorem dd_M_sort_54 : decode bb_M_sort 54 = .ok (.invokevirtual 83, 3) := by decide +kernel
theorem dd_M_sort_57 : decode bb_M_sort 57 = .ok (.ifCond .ne 5, 3) := by decide +kernel
theorem dd_M_sort_60 : decode bb_M_sort 60 = .ok (.iconst 0, 1) := by decide +kernel
theorem dd_M_sort_61 : decode bb_M_sort 61 = .ok (.ireturn, 1) := by decide +kernel
theorem dd_M_sort_62 : decode bb_M_sort 62 = .ok (.aload_n 0, 1) := by decide +kernel
theorem dd_M_sort_63 : decode bb_M_sort 63 = .ok (.iload_n 2, 1) := by decide +kernel
theorem dd_M_sort_64 : decode bb_M_sort 64 = .ok (.sipush 200, 3) := by decide +kernel
theorem dd_M_sort_67 : decode bb_M_sort 67 = .ok (.invokevirtual 118, 3) := by decide +kernel
theorem dd_M_sort_70 : decode bb_M_sort 70 = .ok (.aload_n 0, 1) := by decide +kernel
theorem dd_M_sort_71 : decode bb_M_sort 71 = .ok (.iload_n 2, 1) := by decide +kernel
theorem dd_M_sort_72 : decode bb_M_sort 72 = .ok (.sipush 200, 3) := by decide +kernel
theorem dd_M_sort_75 : decode bb_M_sort 75 = .ok (.invokevirtual 114, 3) := by decide +kernel
theorem dd_M_sort_78 : decode bb_M_sort 78 = .ok (.idiv, 1) := by decide +kernel
theorem dd_M_sort_79 : decode bb_M_sort 79 = .ok (.istore_n 3, 1) := by decide +kernel
theorem dd_M_sort_80 : decode bb_M_sort 80 = .ok (.iload_n 3, 1) := by decide +kernel
theorem dd_M_sort_81 : decode bb_M_sort 81 = .ok (.sipush 500, 3) := by decide +kernel
theorem dd_M_sort_84 : decode bb_M_sort 84 = .ok (.if_icmp .ge 7, 3) := by decide +kernel
theorem dd_M_sort_87 : decode bb_M_sort 87 = .ok (.iconst 0, 1) := by decide +kernel
theorem dd_M_sort_88 : decode bb_M_sort 88 = .ok (.goto 26, 3) := by decide +kernel
theorem dd_M_sort_91 : decode bb_M_sort 91 = .ok (.iload_n 3, 1) := by decide +kernel
theorem dd_M_sort_92 : decode bb_M_sort 92 = .ok (.sipush 1000, 3) := by decide +kernel
theorem dd_M_sort_95 : decode bb_M_sort 95 = .ok (.if_icmp .ge 7, 3) := by decide +kernel
theorem dd_M_sort_98 : decode bb_M_sort 98 = .ok (.iconst 1, 1) := by decide +kernel
theorem dd_M_sort_99 : decode bb_M_sort 99 = .ok (.goto 15, 3) := by decide +kernel
theorem dd_M_sort_102 : decode bb_M_sort 102 = .ok (.iload_n 3, 1) := by decide +kernel
theorem dd_M_sort_103 : decode bb_M_sort 103 = .ok (.sipush 1500, 3) := by decide +kernel
theorem dd_M_sort_106 : decode bb_M_sort 106 = .ok (.if_icmp .ge 7, 3) := by decide +kernel
theorem dd_M_sort_109 : decode bb_M_sort 109 = .ok (.iconst 2, 1) := by decide +kernel
theorem dd_M_sort_110 : decode bb_M_sort 110 = .ok (.goto 4, 3) := by decide +kernel
theorem dd_M_sort_113 : decode bb_M_sort 113 = .ok (.iconst 3, 1) := by decide +kernel
theorem dd_M_sort_114 : decode bb_M_sort 114 = .ok (.ireturn, 1) := by decide +kernel
theorem dd_M_defect_0 : decode bb_M_defect 0 = .ok (.aload_n 0, 1) := by decide +kernel
theorem dd_M_defect_1 : decode bb_M_defect 1 = .ok (.aload_n 0, 1) := by decide +kernel
theorem dd_M_defect_2 : decode bb_M_defect 2 = .ok (.iload_n 1, 1) := by decide +kernel
theorem dd_M_defect_3 : decode bb_M_defect 3 = .ok (.invokevirtual 95, 3) := by decide +kernel
theorem dd_M_defect_6 : decode bb_M_defect 6 = .ok (.iload_n 2, 1) := by decide +kernel
theorem dd_M_defect_7 : decode bb_M_defect 7 = .ok (.iconst 0, 1) := by decide +kernel
theorem dd_M_defect_8 : decode bb_M_defect 8 = .ok (.iconst 2, 1) := by decide +kernel
theorem dd_M_defect_9 : decode bb_M_defect 9 = .ok (.invokestatic 72, 3) := by decide +kernel
theorem dd_M_defect_12 : decode bb_M_defect 12 = .ok (.iconst 1, 1) := by decide +kernel
theorem dd_M_defect_13 : decode bb_M_defect 13 = .ok (.iconst 1, 1) := by decide +kernel
theorem dd_M_defect_14 : decode bb_M_defect 14 = .ok (.invokevirtual 83, 3) := by decide +kernel
theorem dd_M_defect_17 : decode bb_M_defect 17 = .ok (.ifCond .eq 10, 3) := by decide +kernel
theorem dd_M_defect_20 : decode bb_M_defect 20 = .ok (.aload_n 0, 1) := by decide +kernel
theorem dd_M_defect_21 : decode bb_M_defect 21 = .ok (.getfield 22, 3) := by decide +kernel
theorem dd_M_defect_24 : decode bb_M_defect 24 = .ok (.iload_n 1, 1) := by decide +kernel
theorem dd_M_defect_25 : decode bb_M_defect 25 = .ok (.iload_n 2, 1) := by decide +kernel
theorem dd_M_defect_26 : decode bb_M_defect 26 = .ok (.iastore, 1) := by decide +kernel
theorem dd_M_defect_27 : decode bb_M_defect 27 = .ok (.return_, 1) := by decide +kernel
theorem dd_M_works_0 : decode bb_M_works 0 = .ok (.aload_n 0, 1) := by decide +kernel
theorem dd_M_works_1 : decode bb_M_works 1 = .ok (.iload_n 1, 1) := by decide +kernel
theorem dd_M_works_2 : decode bb_M_works 2 = .ok (.invokevirtual 95, 3) := by decide +kernel
theorem dd_M_works_5 : decode bb_M_works 5 = .ok (.istore 4, 2) := by decide +kernel
theorem dd_M_works_7 : decode bb_M_works 7 = .ok (.iconst 1, 1) := by decide +kernel
theorem dd_M_works_8 : decode bb_M_works 8 = .ok (.istore 5, 2) := by decide +kernel
theorem dd_M_works_10 : decode bb_M_works 10 = .ok (.iconst 0, 1) := by decide +kernel
theorem dd_M_works_11 : decode bb_M_works 11 = .ok (.istore 6, 2) := by decide +kernel
theorem dd_M_works_13 : decode bb_M_works 13 = .ok (.iload 4, 2) := by decide +kernel
theorem dd_M_works_15 : decode bb_M_works 15 = .ok (.ifCond .eq 53, 3) := by decide +kernel
theorem dd_M_works_18 : decode bb_M_works 18 = .ok (.iload 6, 2) := by decide +kernel
theorem dd_M_works_20 : decode bb_M_works 20 = .ok (.aload_n 0, 1) := by decide +kernel
theorem dd_M_works_21 : decode bb_M_works 21 = .ok (.getfield 25, 3) := by decide +kernel
theorem dd_M_works_24 : decode bb_M_works 24 = .ok (.iload_n 1, 1) := by decide +kernel
theorem dd_M_works_25 : decode bb_M_works 25 = .ok (.iaload, 1) := by decide +kernel
theorem dd_M_works_26 : decode bb_M_works 26 = .ok (.if_icmp .ge 42, 3) := by decide +kernel
theorem dd_M_works_29 : decode bb_M_works 29 = .ok (.iload_n 2, 1) := by decide +kernel
theorem dd_M_works_30 : decode bb_M_works 30 = .ok (.aload_n 0, 1) := by decide +kernel
theorem dd_M_works_31 : decode bb_M_works 31 = .ok (.getfield 31, 3) := by decide +kernel
theorem dd_M_works_34 : decode bb_M_works 34 = .ok (.iconst 3, 1) := by decide +kernel
theorem dd_M_works_35 : decode bb_M_works 35 = .ok (.iload_n 1, 1) := by decide +kernel
theorem dd_M_works_36 : decode bb_M_works 36 = .ok (.imul, 1) := by decide +kernel
theorem dd_M_works_37 : decode bb_M_works 37 = .ok (.iload 6, 2) := by decide +kernel
theorem dd_M_works_39 : decode bb_M_works 39 = .ok (.iadd, 1) := by decide +kernel
theorem dd_M_works_40 : decode bb_M_works 40 = .ok (.iaload, 1) := by decide +kernel
theorem dd_M_works_41 : decode bb_M_works 41 = .ok (.if_icmp .gt 21, 3) := by decide +kernel
theorem dd_M_works_44 : decode bb_M_works 44 = .ok (.aload_n 0, 1) := by decide +kernel
theorem dd_M_works_45 : decode bb_M_works 45 = .ok (.getfield 28, 3) := by decide +kernel
theorem dd_M_works_48 : decode bb_M_works 48 = .ok (.iconst 3, 1) := by decide +kernel
theorem dd_M_works_49 : decode bb_M_works 49 = .ok (.iload_n 1, 1) := by decide +kernel
theorem dd_M_works_50 : decode bb_M_works 50 = .ok (.imul, 1) := by decide +kernel
theorem dd_M_works_51 : decode bb_M_works 51 = .ok (.iload 6, 2) := by decide +kernel
theorem dd_M_works_53 : decode bb_M_works 53 = .ok (.iadd, 1) := by decide +kernel
theorem dd_M_works_54 : decode bb_M_works 54 = .ok (.iaload, 1) := by decide +kernel
theorem dd_M_works_55 : decode bb_M_works 55 = .ok (.iload_n 3, 1) := by decide +kernel
theorem dd_M_works_56 : decode bb_M_works 56 = .ok (.if_icmp .gt 6, 3) := by decide +kernel
theorem dd_M_works_59 : decode bb_M_works 59 = .ok (.iconst 0, 1) := by decide +kernel
theorem dd_M_works_60 : decode bb_M_works 60 = .ok (.istore 5, 2) := by decide +kernel
theorem dd_M_works_62 : decode bb_M_works 62 = .ok (.iinc 6 1, 3) := by decide +kernel
theorem dd_M_works_65 : decode bb_M_works 65 = .ok (.goto (-52), 3) := by decide +kernel
theorem dd_M_works_68 : decode bb_M_works 68 = .ok (.aload_n 0, 1) := by decide +kernel
theorem dd_M_works_69 : decode bb_M_works 69 = .ok (.iload 4, 2) := by decide +kernel
theorem dd_M_works_71 : decode bb_M_works 71 = .ok (.iload_n 2, 1) := by decide +kernel
theorem dd_M_works_72 : decode bb_M_works 72 = .ok (.invokestatic 98, 3) := by decide +kernel
theorem dd_M_works_75 : decode bb_M_works 75 = .ok (.ifCond .eq 19, 3) := by decide +kernel
theorem dd_M_works_78 : decode bb_M_works 78 = .ok (.iload_n 3, 1) := by decide +kernel
theorem dd_M_works_79 : decode bb_M_works 79 = .ok (.invokestatic 98, 3) := by decide +kernel
theorem dd_M_works_82 : decode bb_M_works 82 = .ok (.ifCond .eq 12, 3) := by decide +kernel
theorem dd_M_works_85 : decode bb_M_works 85 = .ok (.iload_n 2, 1) := by decide +kernel
theorem dd_M_works_86 : decode bb_M_works 86 = .ok (.iload_n 3, 1) := by decide +kernel
theorem dd_M_works_87 : decode bb_M_works 87 = .ok (.if_icmp .gt 7, 3) := by decide +kernel
theorem dd_M_works_90 : decode bb_M_works 90 = .ok (.iconst 1, 1) := by decide +kernel
theorem dd_M_works_91 : decode bb_M_works 91 = .ok (.goto 4, 3) := by decide +kernel
theorem dd_M_works_94 : decode bb_M_works 94 = .ok (.iconst 0, 1) := by decide +kernel
theorem dd_M_works_95 : decode bb_M_works 95 = .ok (.iload 5, 2) := by decide +kernel
theorem dd_M_works_97 : decode bb_M_works 97 = .ok (.iload 4, 2) := by decide +kernel
theorem dd_M_works_99 : decode bb_M_works 99 = .ok (.ifCond .eq 17, 3) := by decide +kernel
theorem dd_M_works_102 : decode bb_M_works 102 = .ok (.aload_n 0, 1) := by decide +kernel
theorem dd_M_works_103 : decode bb_M_works 103 = .ok (.getfield 25, 3) := by decide +kernel
theorem dd_M_works_106 : decode bb_M_works 106 = .ok (.iload_n 1, 1) := by decide +kernel
theorem dd_M_works_107 : decode bb_M_works 107 = .ok (.iaload, 1) := by decide +kernel
theorem dd_M_works_108 : decode bb_M_works 108 = .ok (.iconst 3, 1) := by decide +kernel
theorem dd_M_works_109 : decode bb_M_works 109 = .ok (.if_icmp .ge 7, 3) := by decide +kernel
theorem dd_M_works_112 : decode bb_M_works 112 = .ok (.iconst 1, 1) := by decide +kernel
theorem dd_M_works_113 : decode bb_M_works 113 = .ok (.goto 4, 3) := by decide +kernel
theorem dd_M_works_116 : decode bb_M_works 116 = .ok (.iconst 0, 1) := by decide +kernel
theorem dd_M_works_117 : decode bb_M_works 117 = .ok (.invokevirtual 83, 3) := by decide +kernel
theorem dd_M_works_120 : decode bb_M_works 120 = .ok (.ifCond .ne 4, 3) := by decide +kernel
theorem dd_M_works_123 : decode bb_M_works 123 = .ok (.return_, 1) := by decide +kernel
theorem dd_M_works_124 : decode bb_M_works 124 = .ok (.aload_n 0, 1) := by decide +kernel
theorem dd_M_works_125 : decode bb_M_works 125 = .ok (.getfield 28, 3) := by decide +kernel
theorem dd_M_works_128 : decode bb_M_works 128 = .ok (.iconst 3, 1) := by decide +kernel
theorem dd_M_works_129 : decode bb_M_works 129 = .ok (.iload_n 1, 1) := by decide +kernel
theorem dd_M_works_130 : decode bb_M_works 130 = .ok (.imul, 1) := by decide +kernel
theorem dd_M_works_131 : decode bb_M_works 131 = .ok (.aload_n 0, 1) := by decide +kernel
theorem dd_M_works_132 : decode bb_M_works 132 = .ok (.getfield 25, 3) := by decide +kernel
theorem dd_M_works_135 : decode bb_M_works 135 = .ok (.iload_n 1, 1) := by decide +kernel
theorem dd_M_works_136 : decode bb_M_works 136 = .ok (.iaload, 1) := by decide +kernel
theorem dd_M_works_137 : decode bb_M_works 137 = .ok (.iadd, 1) := by decide +kernel
theorem dd_M_works_138 : decode bb_M_works 138 = .ok (.iload_n 2, 1) := by decide +kernel
theorem dd_M_works_139 : decode bb_M_works 139 = .ok (.iastore, 1) := by decide +kernel
theorem dd_M_works_140 : decode bb_M_works 140 = .ok (.aload_n 0, 1) := by decide +kernel
theorem dd_M_works_141 : decode bb_M_works 141 = .ok (.getfield 31, 3) := by decide +kernel
theorem dd_M_works_144 : decode bb_M_works 144 = .ok (.iconst 3, 1) := by decide +kernel
theorem dd_M_works_145 : decode bb_M_works 145 = .ok (.iload_n 1, 1) := by decide +kernel
theorem dd_M_works_146 : decode bb_M_works 146 = .ok (.imul, 1) := by decide +kernel
theorem dd_M_works_147 : decode bb_M_works 147 = .ok (.aload_n 0, 1) := by decide +kernel
theorem dd_M_works_148 : decode bb_M_works 148 = .ok (.getfield 25, 3) := by decide +kernel
theorem dd_M_works_151 : decode bb_M_works 151 = .ok (.iload_n 1, 1) := by decide +kernel
theorem dd_M_works_152 : decode bb_M_works 152 = .ok (.iaload, 1) := by decide +kernel
theorem dd_M_works_153 : decode bb_M_works 153 = .ok (.iadd, 1) := by decide +kernel
theorem dd_M_works_154 : decode bb_M_works 154 = .ok (.iload_n 3, 1) := by decide +kernel
theorem dd_M_works_155 : decode bb_M_works 155 = .ok (.iastore, 1) := by decide +kernel
theorem dd_M_works_156 : decode bb_M_works 156 = .ok (.aload_n 0, 1) := by decide +kernel
theorem dd_M_works_157 : decode bb_M_works 157 = .ok (.getfield 25, 3) := by decide +kernel
theorem dd_M_works_160 : decode bb_M_works 160 = .ok (.iload_n 1, 1) := by decide +kernel
theorem dd_M_works_161 : decode bb_M_works 161 = .ok (.dup2, 1) := by decide +kernel
theorem dd_M_works_162 : decode bb_M_works 162 = .ok (.iaload, 1) := by decide +kernel
theorem dd_M_works_163 : decode bb_M_works 163 = .ok (.iconst 1, 1) := by decide +kernel
theorem dd_M_works_164 : decode bb_M_works 164 = .ok (.iadd, 1) := by decide +kernel
theorem dd_M_works_165 : decode bb_M_works 165 = .ok (.iastore, 1) := by decide +kernel
theorem dd_M_works_166 : decode bb_M_works 166 = .ok (.return_, 1) := by decide +kernel
theorem dd_M_season_0 : decode bb_M_season 0 = .ok (.aload_n 0, 1) := by decide +kernel
theorem dd_M_season_1 : decode bb_M_season 1 = .ok (.aload_n 0, 1) := by decide +kernel
theorem dd_M_season_2 : decode bb_M_season 2 = .ok (.iload_n 1, 1) := by decide +kernel
theorem dd_M_season_3 : decode bb_M_season 3 = .ok (.invokevirtual 95, 3) := by decide +kernel
theorem dd_M_season_6 : decode bb_M_season 6 = .ok (.iload_n 2, 1) := by decide +kernel
theorem dd_M_season_7 : decode bb_M_season 7 = .ok (.iconst 0, 1) := by decide +kernel
theorem dd_M_season_8 : decode bb_M_season 8 = .ok (.bipush 11, 2) := by decide +kernel
theorem dd_M_season_10 : decode bb_M_season 10 = .ok (.invokestatic 72, 3) := by decide +kernel
theorem dd_M_season_13 : decode bb_M_season 13 = .ok (.aload_n 0, 1) := by decide +kernel
theorem dd_M_season_14 : decode bb_M_season 14 = .ok (.iload_n 1, 1) := by decide +kernel
theorem dd_M_season_15 : decode bb_M_season 15 = .ok (.invokevirtual 95, 3) := by decide +kernel
theorem dd_M_season_18 : decode bb_M_season 18 = .ok (.ifCond .eq 17, 3) := by decide +kernel
theorem dd_M_season_21 : decode bb_M_season 21 = .ok (.aload_n 0, 1) := by decide +kernel
theorem dd_M_season_22 : decode bb_M_season 22 = .ok (.getfield 19, 3) := by decide +kernel
theorem dd_M_season_25 : decode bb_M_season 25 = .ok (.iload_n 1, 1) := by decide +kernel
theorem dd_M_season_26 : decode bb_M_season 26 = .ok (.iaload, 1) := by decide +kernel
theorem dd_M_season_27 : decode bb_M_season 27 = .ok (.iconst 2, 1) := by decide +kernel
theorem dd_M_season_28 : decode bb_M_season 28 = .ok (.if_icmp .ne 7, 3) := by decide +kernel
theorem dd_M_season_31 : decode bb_M_season 31 = .ok (.iconst 1, 1) := by decide +kernel
theorem dd_M_season_32 : decode bb_M_season 32 = .ok (.goto 4, 3) := by decide +kernel
theorem dd_M_season_35 : decode bb_M_season 35 = .ok (.iconst 0, 1) := by decide +kernel
theorem dd_M_season_36 : decode bb_M_season 36 = .ok (.iconst 1, 1) := by decide +kernel
theorem dd_M_season_37 : decode bb_M_season 37 = .ok (.invokevirtual 83, 3) := by decide +kernel
theorem dd_M_season_40 : decode bb_M_season 40 = .ok (.ifCond .eq 15, 3) := by decide +kernel
theorem dd_M_season_43 : decode bb_M_season 43 = .ok (.aload_n 0, 1) := by decide +kernel
theorem dd_M_season_44 : decode bb_M_season 44 = .ok (.getfield 34, 3) := by decide +kernel
theorem dd_M_season_47 : decode bb_M_season 47 = .ok (.bipush 12, 2) := by decide +kernel
theorem dd_M_season_49 : decode bb_M_season 49 = .ok (.iload_n 1, 1) := by decide +kernel
theorem dd_M_season_50 : decode bb_M_season 50 = .ok (.imul, 1) := by decide +kernel
theorem dd_M_season_51 : decode bb_M_season 51 = .ok (.iload_n 2, 1) := by decide +kernel
theorem dd_M_season_52 : decode bb_M_season 52 = .ok (.iadd, 1) := by decide +kernel
theorem dd_M_season_53 : decode bb_M_season 53 = .ok (.iload_n 3, 1) := by decide +kernel
theorem dd_M_season_54 : decode bb_M_season 54 = .ok (.bastore, 1) := by decide +kernel
theorem dd_M_season_55 : decode bb_M_season 55 = .ok (.return_, 1) := by decide +kernel
theorem dd_M_isUsable_0 : decode bb_M_isUsable 0 = .ok (.aload_n 0, 1) := by decide +kernel
theorem dd_M_isUsable_1 : decode bb_M_isUsable 1 = .ok (.getfield 22, 3) := by decide +kernel
theorem dd_M_isUsable_4 : decode bb_M_isUsable 4 = .ok (.iload_n 1, 1) := by decide +kernel
theorem dd_M_isUsable_5 : decode bb_M_isUsable 5 = .ok (.iaload, 1) := by decide +kernel
theorem dd_M_isUsable_6 : decode bb_M_isUsable 6 = .ok (.iconst 2, 1) := by decide +kernel
theorem dd_M_isUsable_7 : decode bb_M_isUsable 7 = .ok (.if_icmp .eq 51, 3) := by decide +kernel
theorem dd_M_isUsable_10 : decode bb_M_isUsable 10 = .ok (.aload_n 0, 1) := by decide +kernel
theorem dd_M_isUsable_11 : decode bb_M_isUsable 11 = .ok (.getfield 19, 3) := by decide +kernel
theorem dd_M_isUsable_14 : decode bb_M_isUsable 14 = .ok (.iload_n 1, 1) := by decide +kernel
theorem dd_M_isUsable_15 : decode bb_M_isUsable 15 = .ok (.iaload, 1) := by decide +kernel
theorem dd_M_isUsable_16 : decode bb_M_isUsable 16 = .ok (.iconst 1, 1) := by decide +kernel
theorem dd_M_isUsable_17 : decode bb_M_isUsable 17 = .ok (.if_icmp .ne 10, 3) := by decide +kernel
theorem dd_M_isUsable_20 : decode bb_M_isUsable 20 = .ok (.aload_n 0, 1) := by decide +kernel
theorem dd_M_isUsable_21 : decode bb_M_isUsable 21 = .ok (.getfield 91, 3) := by decide +kernel
theorem dd_M_isUsable_24 : decode bb_M_isUsable 24 = .ok (.ifCond .eq 34, 3) := by decide +kernel
theorem dd_M_isUsable_27 : decode bb_M_isUsable 27 = .ok (.aload_n 0, 1) := by decide +kernel
theorem dd_M_isUsable_28 : decode bb_M_isUsable 28 = .ok (.getfield 19, 3) := by decide +kernel
theorem dd_M_isUsable_31 : decode bb_M_isUsable 31 = .ok (.iload_n 1, 1) := by decide +kernel
theorem dd_M_isUsable_32 : decode bb_M_isUsable 32 = .ok (.iaload, 1) := by decide +kernel
theorem dd_M_isUsable_33 : decode bb_M_isUsable 33 = .ok (.iconst 2, 1) := by decide +kernel
theorem dd_M_isUsable_34 : decode bb_M_isUsable 34 = .ok (.if_icmp .ne 26, 3) := by decide +kernel
theorem dd_M_isUsable_37 : decode bb_M_isUsable 37 = .ok (.aload_n 0, 1) := by decide +kernel
theorem dd_M_isUsable_38 : decode bb_M_isUsable 38 = .ok (.getfield 34, 3) := by decide +kernel
theorem dd_M_isUsable_41 : decode bb_M_isUsable 41 = .ok (.bipush 12, 2) := by decide +kernel
theorem dd_M_isUsable_43 : decode bb_M_isUsable 43 = .ok (.iload_n 1, 1) := by decide +kernel
theorem dd_M_isUsable_44 : decode bb_M_isUsable 44 = .ok (.imul, 1) := by decide +kernel
theorem dd_M_isUsable_45 : decode bb_M_isUsable 45 = .ok (.iload_n 2, 1) := by decide +kernel
theorem dd_M_isUsable_46 : decode bb_M_isUsable 46 = .ok (.sipush 360, 3) := by decide +kernel
theorem dd_M_isUsable_49 : decode bb_M_isUsable 49 = .ok (.irem, 1) := by decide +kernel
theorem dd_M_isUsable_50 : decode bb_M_isUsable 50 = .ok (.bipush 30, 2) := by decide +kernel
theorem dd_M_isUsable_52 : decode bb_M_isUsable 52 = .ok (.idiv, 1) := by decide +kernel
theorem dd_M_isUsable_53 : decode bb_M_isUsable 53 = .ok (.iadd, 1) := by decide +kernel
theorem dd_M_isUsable_54 : decode bb_M_isUsable 54 = .ok (.baload, 1) := by decide +kernel
theorem dd_M_isUsable_55 : decode bb_M_isUsable 55 = .ok (.ifCond .eq 5, 3) := by decide +kernel
theorem dd_M_isUsable_58 : decode bb_M_isUsable 58 = .ok (.iconst 0, 1) := by decide +kernel
theorem dd_M_isUsable_59 : decode bb_M_isUsable 59 = .ok (.ireturn, 1) := by decide +kernel
theorem dd_M_isUsable_60 : decode bb_M_isUsable 60 = .ok (.iconst 0, 1) := by decide +kernel
theorem dd_M_isUsable_61 : decode bb_M_isUsable 61 = .ok (.istore_n 3, 1) := by decide +kernel
theorem dd_M_isUsable_62 : decode bb_M_isUsable 62 = .ok (.iload_n 3, 1) := by decide +kernel
theorem dd_M_isUsable_63 : decode bb_M_isUsable 63 = .ok (.aload_n 0, 1) := by decide +kernel
theorem dd_M_isUsable_64 : decode bb_M_isUsable 64 = .ok (.getfield 25, 3) := by decide +kernel
theorem dd_M_isUsable_67 : decode bb_M_isUsable 67 = .ok (.iload_n 1, 1) := by decide +kernel
theorem dd_M_isUsable_68 : decode bb_M_isUsable 68 = .ok (.iaload, 1) := by decide +kernel
theorem dd_M_isUsable_69 : decode bb_M_isUsable 69 = .ok (.if_icmp .ge 38, 3) := by decide +kernel
theorem dd_M_isUsable_72 : decode bb_M_isUsable 72 = .ok (.iload_n 2, 1) := by decide +kernel
theorem dd_M_isUsable_73 : decode bb_M_isUsable 73 = .ok (.aload_n 0, 1) := by decide +kernel
theorem dd_M_isUsable_74 : decode bb_M_isUsable 74 = .ok (.getfield 28, 3) := by decide +kernel
theorem dd_M_isUsable_77 : decode bb_M_isUsable 77 = .ok (.iconst 3, 1) := by decide +kernel
theorem dd_M_isUsable_78 : decode bb_M_isUsable 78 = .ok (.iload_n 1, 1) := by decide +kernel
theorem dd_M_isUsable_79 : decode bb_M_isUsable 79 = .ok (.imul, 1) := by decide +kernel
theorem dd_M_isUsable_80 : decode bb_M_isUsable 80 = .ok (.iload_n 3, 1) := by decide +kernel
theorem dd_M_isUsable_81 : decode bb_M_isUsable 81 = .ok (.iadd, 1) := by decide +kernel
theorem dd_M_isUsable_82 : decode bb_M_isUsable 82 = .ok (.iaload, 1) := by decide +kernel
theorem dd_M_isUsable_83 : decode bb_M_isUsable 83 = .ok (.aload_n 0, 1) := by decide +kernel
theorem dd_M_isUsable_84 : decode bb_M_isUsable 84 = .ok (.getfield 31, 3) := by decide +kernel
theorem dd_M_isUsable_87 : decode bb_M_isUsable 87 = .ok (.iconst 3, 1) := by decide +kernel
theorem dd_M_isUsable_88 : decode bb_M_isUsable 88 = .ok (.iload_n 1, 1) := by decide +kernel
theorem dd_M_isUsable_89 : decode bb_M_isUsable 89 = .ok (.imul, 1) := by decide +kernel
theorem dd_M_isUsable_90 : decode bb_M_isUsable 90 = .ok (.iload_n 3, 1) := by decide +kernel
theorem dd_M_isUsable_91 : decode bb_M_isUsable 91 = .ok (.iadd, 1) := by decide +kernel
theorem dd_M_isUsable_92 : decode bb_M_isUsable 92 = .ok (.iaload, 1) := by decide +kernel
theorem dd_M_isUsable_93 : decode bb_M_isUsable 93 = .ok (.invokestatic 72, 3) := by decide +kernel
theorem dd_M_isUsable_96 : decode bb_M_isUsable 96 = .ok (.ifCond .eq 5, 3) := by decide +kernel
theorem dd_M_isUsable_99 : decode bb_M_isUsable 99 = .ok (.iconst 0, 1) := by decide +kernel
theorem dd_M_isUsable_100 : decode bb_M_isUsable 100 = .ok (.ireturn, 1) := by decide +kernel
theorem dd_M_isUsable_101 : decode bb_M_isUsable 101 = .ok (.iinc 3 1, 3) := by decide +kernel
theorem dd_M_isUsable_104 : decode bb_M_isUsable 104 = .ok (.goto (-42), 3) := by decide +kernel
theorem dd_M_isUsable_107 : decode bb_M_isUsable 107 = .ok (.iconst 1, 1) := by decide +kernel
theorem dd_M_isUsable_108 : decode bb_M_isUsable 108 = .ok (.ireturn, 1) := by decide +kernel
theorem dd_M_usable_0 : decode bb_M_usable 0 = .ok (.aload_n 0, 1) := by decide +kernel
theorem dd_M_usable_1 : decode bb_M_usable 1 = .ok (.aload_n 0, 1) := by decide +kernel
theorem dd_M_usable_2 : decode bb_M_usable 2 = .ok (.iload_n 1, 1) := by decide +kernel
theorem dd_M_usable_3 : decode bb_M_usable 3 = .ok (.invokevirtual 95, 3) := by decide +kernel
theorem dd_M_usable_6 : decode bb_M_usable 6 = .ok (.iload_n 2, 1) := by decide +kernel
theorem dd_M_usable_7 : decode bb_M_usable 7 = .ok (.invokestatic 98, 3) := by decide +kernel
theorem dd_M_usable_10 : decode bb_M_usable 10 = .ok (.iconst 1, 1) := by decide +kernel
theorem dd_M_usable_11 : decode bb_M_usable 11 = .ok (.iconst 1, 1) := by decide +kernel
theorem dd_M_usable_12 : decode bb_M_usable 12 = .ok (.invokevirtual 83, 3) := by decide +kernel
theorem dd_M_usable_15 : decode bb_M_usable 15 = .ok (.ifCond .eq 16, 3) := by decide +kernel
theorem dd_M_usable_18 : decode bb_M_usable 18 = .ok (.aload_n 0, 1) := by decide +kernel
theorem dd_M_usable_19 : decode bb_M_usable 19 = .ok (.iload_n 1, 1) := by decide +kernel
theorem dd_M_usable_20 : decode bb_M_usable 20 = .ok (.iload_n 2, 1) := by decide +kernel
theorem dd_M_usable_21 : decode bb_M_usable 21 = .ok (.invokevirtual 121, 3) := by decide +kernel
theorem dd_M_usable_24 : decode bb_M_usable 24 = .ok (.ifCond .eq 7, 3) := by decide +kernel
theorem dd_M_usable_27 : decode bb_M_usable 27 = .ok (.iconst 1, 1) := by decide +kernel
theorem dd_M_usable_28 : decode bb_M_usable 28 = .ok (.goto 4, 3) := by decide +kernel
theorem dd_M_usable_31 : decode bb_M_usable 31 = .ok (.iconst 0, 1) := by decide +kernel
theorem dd_M_usable_32 : decode bb_M_usable 32 = .ok (.ireturn, 1) := by decide +kernel
theorem dd_M_size_0 : decode bb_M_size 0 = .ok (.iload_n 0, 1) := by decide +kernel
theorem dd_M_size_1 : decode bb_M_size 1 = .ok (.ifCond .ge 8, 3) := by decide +kernel
theorem dd_M_size_4 : decode bb_M_size 4 = .ok (.iload_n 0, 1) := by decide +kernel
theorem dd_M_size_5 : decode bb_M_size 5 = .ok (.ineg, 1) := by decide +kernel
theorem dd_M_size_6 : decode bb_M_size 6 = .ok (.goto 4, 3) := by decide +kernel
theorem dd_M_size_9 : decode bb_M_size 9 = .ok (.iload_n 0, 1) := by decide +kernel
theorem dd_M_size_10 : decode bb_M_size 10 = .ok (.ireturn, 1) := by decide +kernel
theorem dd_M_hose_0 : decode bb_M_hose 0 = .ok (.iload_n 1, 1) := by decide +kernel
theorem dd_M_hose_1 : decode bb_M_hose 1 = .ok (.aload_n 0, 1) := by decide +kernel
theorem dd_M_hose_2 : decode bb_M_hose 2 = .ok (.getfield 7, 3) := by decide +kernel
theorem dd_M_hose_5 : decode bb_M_hose 5 = .ok (.iload_n 3, 1) := by decide +kernel
theorem dd_M_hose_6 : decode bb_M_hose 6 = .ok (.iaload, 1) := by decide +kernel
theorem dd_M_hose_7 : decode bb_M_hose 7 = .ok (.isub, 1) := by decide +kernel
theorem dd_M_hose_8 : decode bb_M_hose 8 = .ok (.invokestatic 124, 3) := by decide +kernel
theorem dd_M_hose_11 : decode bb_M_hose 11 = .ok (.iload_n 2, 1) := by decide +kernel
theorem dd_M_hose_12 : decode bb_M_hose 12 = .ok (.aload_n 0, 1) := by decide +kernel
theorem dd_M_hose_13 : decode bb_M_hose 13 = .ok (.getfield 13, 3) := by decide +kernel
theorem dd_M_hose_16 : decode bb_M_hose 16 = .ok (.iload_n 3, 1) := by decide +kernel
theorem dd_M_hose_17 : decode bb_M_hose 17 = .ok (.iaload, 1) := by decide +kernel
theorem dd_M_hose_18 : decode bb_M_hose 18 = .ok (.isub, 1) := by decide +kernel
theorem dd_M_hose_19 : decode bb_M_hose 19 = .ok (.invokestatic 124, 3) := by decide +kernel
theorem dd_M_hose_22 : decode bb_M_hose 22 = .ok (.iadd, 1) := by decide +kernel
theorem dd_M_hose_23 : decode bb_M_hose 23 = .ok (.ireturn, 1) := by decide +kernel
theorem dd_M_near_0 : decode bb_M_near 0 = .ok (.aload_n 0, 1) := by decide +kernel
theorem dd_M_near_1 : decode bb_M_near 1 = .ok (.iload_n 1, 1) := by decide +kernel
theorem dd_M_near_2 : decode bb_M_near 2 = .ok (.iload_n 2, 1) := by decide +kernel
theorem dd_M_near_3 : decode bb_M_near 3 = .ok (.invokestatic 79, 3) := by decide +kernel
theorem dd_M_near_6 : decode bb_M_near 6 = .ok (.ifCond .eq 19, 3) := by decide +kernel
theorem dd_M_near_9 : decode bb_M_near 9 = .ok (.iload_n 3, 1) := by decide +kernel
theorem dd_M_near_10 : decode bb_M_near 10 = .ok (.invokestatic 98, 3) := by decide +kernel
theorem dd_M_near_13 : decode bb_M_near 13 = .ok (.ifCond .eq 12, 3) := by decide +kernel
theorem dd_M_near_16 : decode bb_M_near 16 = .ok (.iload 4, 2) := by decide +kernel
theorem dd_M_near_18 : decode bb_M_near 18 = .ok (.ifCond .lt 7, 3) := by decide +kernel
theorem dd_M_near_21 : decode bb_M_near 21 = .ok (.iconst 1, 1) := by decide +kernel
theorem dd_M_near_22 : decode bb_M_near 22 = .ok (.goto 4, 3) := by decide +kernel
theorem dd_M_near_25 : decode bb_M_near 25 = .ok (.iconst 0, 1) := by decide +kernel
theorem dd_M_near_26 : decode bb_M_near 26 = .ok (.iconst 1, 1) := by decide +kernel
theorem dd_M_near_27 : decode bb_M_near 27 = .ok (.iconst 1, 1) := by decide +kernel
theorem dd_M_near_28 : decode bb_M_near 28 = .ok (.iconst 1, 1) := by decide +kernel
theorem dd_M_near_29 : decode bb_M_near 29 = .ok (.invokevirtual 83, 3) := by decide +kernel
theorem dd_M_near_32 : decode bb_M_near 32 = .ok (.ifCond .ne 5, 3) := by decide +kernel
theorem dd_M_near_35 : decode bb_M_near 35 = .ok (.iconst 0, 1) := by decide +kernel
theorem dd_M_near_36 : decode bb_M_near 36 = .ok (.ireturn, 1) := by decide +kernel
theorem dd_M_near_37 : decode bb_M_near 37 = .ok (.iconst (-1), 1) := by decide +kernel
theorem dd_M_near_38 : decode bb_M_near 38 = .ok (.istore 5, 2) := by decide +kernel
theorem dd_M_near_40 : decode bb_M_near 40 = .ok (.iconst 0, 1) := by decide +kernel
theorem dd_M_near_41 : decode bb_M_near 41 = .ok (.istore 6, 2) := by decide +kernel
theorem dd_M_near_43 : decode bb_M_near 43 = .ok (.iload 6, 2) := by decide +kernel
theorem dd_M_near_45 : decode bb_M_near 45 = .ok (.iload 4, 2) := by decide +kernel
theorem dd_M_near_47 : decode bb_M_near 47 = .ok (.if_icmp .gt 144, 3) := by decide +kernel
theorem dd_M_near_50 : decode bb_M_near 50 = .ok (.iconst (-1), 1) := by decide +kernel
theorem dd_M_near_51 : decode bb_M_near 51 = .ok (.istore 7, 2) := by decide +kernel
theorem dd_M_near_53 : decode bb_M_near 53 = .ok (.iconst 0, 1) := by decide +kernel
theorem dd_M_near_54 : decode bb_M_near 54 = .ok (.istore 8, 2) := by decide +kernel
theorem dd_M_near_56 : decode bb_M_near 56 = .ok (.iload 8, 2) := by decide +kernel
theorem dd_M_near_58 : decode bb_M_near 58 = .ok (.aload_n 0, 1) := by decide +kernel
theorem dd_M_near_59 : decode bb_M_near 59 = .ok (.getfield 69, 3) := by decide +kernel
theorem dd_M_near_62 : decode bb_M_near 62 = .ok (.if_icmp .ge 112, 3) := by decide +kernel
theorem dd_M_near_65 : decode bb_M_near 65 = .ok (.aload_n 0, 1) := by decide +kernel
theorem dd_M_near_66 : decode bb_M_near 66 = .ok (.iload 8, 2) := by decide +kernel
theorem dd_M_near_68 : decode bb_M_near 68 = .ok (.iload_n 3, 1) := by decide +kernel
theorem dd_M_near_69 : decode bb_M_near 69 = .ok (.invokevirtual 121, 3) := by decide +kernel
theorem dd_M_near_72 : decode bb_M_near 72 = .ok (.ifCond .ne 6, 3) := by decide +kernel
theorem dd_M_near_75 : decode bb_M_near 75 = .ok (.goto 93, 3) := by decide +kernel
theorem dd_M_near_78 : decode bb_M_near 78 = .ok (.iload 5, 2) := by decide +kernel
theorem dd_M_near_80 : decode bb_M_near 80 = .ok (.ifCond .lt 48, 3) := by decide +kernel
theorem dd_M_near_83 : decode bb_M_near 83 = .ok (.aload_n 0, 1) := by decide +kernel
theorem dd_M_near_84 : decode bb_M_near 84 = .ok (.iload_n 1, 1) := by decide +kernel
theorem dd_M_near_85 : decode bb_M_near 85 = .ok (.iload_n 2, 1) := by decide +kernel
theorem dd_M_near_86 : decode bb_M_near 86 = .ok (.iload 8, 2) := by decide +kernel
theorem dd_M_near_88 : decode bb_M_near 88 = .ok (.invokevirtual 127, 3) := by decide +kernel
theorem dd_M_near_91 : decode bb_M_near 91 = .ok (.aload_n 0, 1) := by decide +kernel
theorem dd_M_near_92 : decode bb_M_near 92 = .ok (.iload_n 1, 1) := by decide +kernel
theorem dd_M_near_93 : decode bb_M_near 93 = .ok (.iload_n 2, 1) := by decide +kernel
theorem dd_M_near_94 : decode bb_M_near 94 = .ok (.iload 5, 2) := by decide +kernel
theorem dd_M_near_96 : decode bb_M_near 96 = .ok (.invokevirtual 127, 3) := by decide +kernel
theorem dd_M_near_99 : decode bb_M_near 99 = .ok (.if_icmp .gt 29, 3) := by decide +kernel
theorem dd_M_near_102 : decode bb_M_near 102 = .ok (.aload_n 0, 1) := by decide +kernel
theorem dd_M_near_103 : decode bb_M_near 103 = .ok (.iload_n 1, 1) := by decide +kernel
theorem dd_M_near_104 : decode bb_M_near 104 = .ok (.iload_n 2, 1) := by decide +kernel
theorem dd_M_near_105 : decode bb_M_near 105 = .ok (.iload 8, 2) := by decide +kernel
theorem dd_M_near_107 : decode bb_M_near 107 = .ok (.invokevirtual 127, 3) := by decide +kernel
theorem dd_M_near_110 : decode bb_M_near 110 = .ok (.aload_n 0, 1) := by decide +kernel
theorem dd_M_near_111 : decode bb_M_near 111 = .ok (.iload_n 1, 1) := by decide +kernel
theorem dd_M_near_112 : decode bb_M_near 112 = .ok (.iload_n 2, 1) := by decide +kernel
theorem dd_M_near_113 : decode bb_M_near 113 = .ok (.iload 5, 2) := by decide +kernel
theorem dd_M_near_115 : decode bb_M_near 115 = .ok (.invokevirtual 127, 3) := by decide +kernel
theorem dd_M_near_118 : decode bb_M_near 118 = .ok (.if_icmp .ne 14, 3) := by decide +kernel
theorem dd_M_near_121 : decode bb_M_near 121 = .ok (.iload 8, 2) := by decide +kernel
theorem dd_M_near_123 : decode bb_M_near 123 = .ok (.iload 5, 2) := by decide +kernel
theorem dd_M_near_125 : decode bb_M_near 125 = .ok (.if_icmp .le 7, 3) := by decide +kernel
theorem dd_M_near_128 : decode bb_M_near 128 = .ok (.iconst 1, 1) := by decide +kernel
theorem dd_M_near_129 : decode bb_M_near 129 = .ok (.goto 4, 3) := by decide +kernel
theorem dd_M_near_132 : decode bb_M_near 132 = .ok (.iconst 0, 1) := by decide +kernel
theorem dd_M_near_133 : decode bb_M_near 133 = .ok (.istore 9, 2) := by decide +kernel
theorem dd_M_near_135 : decode bb_M_near 135 = .ok (.iload 9, 2) := by decide +kernel
theorem dd_M_near_137 : decode bb_M_near 137 = .ok (.ifCond .eq 31, 3) := by decide +kernel
theorem dd_M_near_140 : decode bb_M_near 140 = .ok (.iload 7, 2) := by decide +kernel
theorem dd_M_near_142 : decode bb_M_near 142 = .ok (.ifCond .lt 22, 3) := by decide +kernel
theorem dd_M_near_145 : decode bb_M_near 145 = .ok (.aload_n 0, 1) := by decide +kernel
theorem dd_M_near_146 : decode bb_M_near 146 = .ok (.iload_n 1, 1) := by decide +kernel
theorem dd_M_near_147 : decode bb_M_near 147 = .ok (.iload_n 2, 1) := by decide +kernel
theorem dd_M_near_148 : decode bb_M_near 148 = .ok (.iload 8, 2) := by decide +kernel
theorem dd_M_near_150 : decode bb_M_near 150 = .ok (.invokevirtual 127, 3) := by decide +kernel
theorem dd_M_near_153 : decode bb_M_near 153 = .ok (.aload_n 0, 1) := by decide +kernel
theorem dd_M_near_154 : decode bb_M_near 154 = .ok (.iload_n 1, 1) := by decide +kernel
theorem dd_M_near_155 : decode bb_M_near 155 = .ok (.iload_n 2, 1) := by decide +kernel
theorem dd_M_near_156 : decode bb_M_near 156 = .ok (.iload 7, 2) := by decide +kernel
theorem dd_M_near_158 : decode bb_M_near 158 = .ok (.invokevirtual 127, 3) := by decide +kernel
theorem dd_M_near_161 : decode bb_M_near 161 = .ok (.if_icmp .ge 7, 3) := by decide +kernel
theorem dd_M_near_164 : decode bb_M_near 164 = .ok (.iload 8, 2) := by decide +kernel
theorem dd_M_near_166 : decode bb_M_near 166 = .ok (.istore 7, 2) := by decide +kernel
theorem dd_M_near_168 : decode bb_M_near 168 = .ok (.iinc 8 1, 3) := by decide +kernel
theorem dd_M_near_171 : decode bb_M_near 171 = .ok (.goto (-115), 3) := by decide +kernel
theorem dd_M_near_174 : decode bb_M_near 174 = .ok (.iload 7, 2) := by decide +kernel
theorem dd_M_near_176 : decode bb_M_near 176 = .ok (.ifCond .ge 5, 3) := by decide +kernel
theorem dd_M_near_179 : decode bb_M_near 179 = .ok (.iconst (-1), 1) := by decide +kernel
theorem dd_M_near_180 : decode bb_M_near 180 = .ok (.ireturn, 1) := by decide +kernel
theorem dd_M_near_181 : decode bb_M_near 181 = .ok (.iload 7, 2) := by decide +kernel
theorem dd_M_near_183 : decode bb_M_near 183 = .ok (.istore 5, 2) := by decide +kernel
theorem dd_M_near_185 : decode bb_M_near 185 = .ok (.iinc 6 1, 3) := by decide +kernel
theorem dd_M_near_188 : decode bb_M_near 188 = .ok (.goto (-145), 3) := by decide +kernel
theorem dd_M_near_191 : decode bb_M_near 191 = .ok (.iload 5, 2) := by decide +kernel
theorem dd_M_near_193 : decode bb_M_near 193 = .ok (.ireturn, 1) := by decide +kernel
theorem dd_M_whole_0 : decode bb_M_whole 0 = .ok (.aload_n 0, 1) := by decide +kernel
theorem dd_M_whole_1 : decode bb_M_whole 1 = .ok (.aload_n 0, 1) := by decide +kernel
theorem dd_M_whole_2 : decode bb_M_whole 2 = .ok (.iload_n 1, 1) := by decide +kernel
theorem dd_M_whole_3 : decode bb_M_whole 3 = .ok (.invokevirtual 107, 3) := by decide +kernel
theorem dd_M_whole_6 : decode bb_M_whole 6 = .ok (.iload_n 2, 1) := by decide +kernel
theorem dd_M_whole_7 : decode bb_M_whole 7 = .ok (.invokevirtual 118, 3) := by decide +kernel
theorem dd_M_whole_10 : decode bb_M_whole 10 = .ok (.aload_n 0, 1) := by decide +kernel
theorem dd_M_whole_11 : decode bb_M_whole 11 = .ok (.aload_n 0, 1) := by decide +kernel
theorem dd_M_whole_12 : decode bb_M_whole 12 = .ok (.iload_n 1, 1) := by decide +kernel
theorem dd_M_whole_13 : decode bb_M_whole 13 = .ok (.invokevirtual 107, 3) := by decide +kernel
theorem dd_M_whole_16 : decode bb_M_whole 16 = .ok (.iload_n 2, 1) := by decide +kernel
theorem dd_M_whole_17 : decode bb_M_whole 17 = .ok (.invokevirtual 114, 3) := by decide +kernel
theorem dd_M_whole_20 : decode bb_M_whole 20 = .ok (.idiv, 1) := by decide +kernel
theorem dd_M_whole_21 : decode bb_M_whole 21 = .ok (.ireturn, 1) := by decide +kernel
theorem dd_M_both_0 : decode bb_M_both 0 = .ok (.aload_n 0, 1) := by decide +kernel
theorem dd_M_both_1 : decode bb_M_both 1 = .ok (.iload_n 1, 1) := by decide +kernel
theorem dd_M_both_2 : decode bb_M_both 2 = .ok (.invokevirtual 95, 3) := by decide +kernel
theorem dd_M_both_5 : decode bb_M_both 5 = .ok (.ifCond .eq 20, 3) := by decide +kernel
theorem dd_M_both_8 : decode bb_M_both 8 = .ok (.aload_n 0, 1) := by decide +kernel
theorem dd_M_both_9 : decode bb_M_both 9 = .ok (.iload_n 2, 1) := by decide +kernel
theorem dd_M_both_10 : decode bb_M_both 10 = .ok (.invokevirtual 95, 3) := by decide +kernel
theorem dd_M_both_13 : decode bb_M_both 13 = .ok (.ifCond .eq 12, 3) := by decide +kernel
theorem dd_M_both_16 : decode bb_M_both 16 = .ok (.iload_n 1, 1) := by decide +kernel
theorem dd_M_both_17 : decode bb_M_both 17 = .ok (.iload_n 2, 1) := by decide +kernel
theorem dd_M_both_18 : decode bb_M_both 18 = .ok (.if_icmp .eq 7, 3) := by decide +kernel
theorem dd_M_both_21 : decode bb_M_both 21 = .ok (.iconst 1, 1) := by decide +kernel
theorem dd_M_both_22 : decode bb_M_both 22 = .ok (.goto 4, 3) := by decide +kernel
theorem dd_M_both_25 : decode bb_M_both 25 = .ok (.iconst 0, 1) := by decide +kernel
theorem dd_M_both_26 : decode bb_M_both 26 = .ok (.istore 4, 2) := by decide +kernel
theorem dd_M_both_28 : decode bb_M_both 28 = .ok (.iload 4, 2) := by decide +kernel
theorem dd_M_both_30 : decode bb_M_both 30 = .ok (.ifCond .eq 23, 3) := by decide +kernel
theorem dd_M_both_33 : decode bb_M_both 33 = .ok (.aload_n 0, 1) := by decide +kernel
theorem dd_M_both_34 : decode bb_M_both 34 = .ok (.iload_n 1, 1) := by decide +kernel
theorem dd_M_both_35 : decode bb_M_both 35 = .ok (.invokevirtual 107, 3) := by decide +kernel
theorem dd_M_both_38 : decode bb_M_both 38 = .ok (.ifCond .lt 15, 3) := by decide +kernel
theorem dd_M_both_41 : decode bb_M_both 41 = .ok (.aload_n 0, 1) := by decide +kernel
theorem dd_M_both_42 : decode bb_M_both 42 = .ok (.iload_n 2, 1) := by decide +kernel
theorem dd_M_both_43 : decode bb_M_both 43 = .ok (.invokevirtual 107, 3) := by decide +kernel
theorem dd_M_both_46 : decode bb_M_both 46 = .ok (.ifCond .lt 7, 3) := by decide +kernel
theorem dd_M_both_49 : decode bb_M_both 49 = .ok (.iconst 1, 1) := by decide +kernel
theorem dd_M_both_50 : decode bb_M_both 50 = .ok (.goto 4, 3) := by decide +kernel
theorem dd_M_both_53 : decode bb_M_both 53 = .ok (.iconst 0, 1) := by decide +kernel
theorem dd_M_both_54 : decode bb_M_both 54 = .ok (.istore 5, 2) := by decide +kernel
theorem dd_M_both_56 : decode bb_M_both 56 = .ok (.aload_n 0, 1) := by decide +kernel
theorem dd_M_both_57 : decode bb_M_both 57 = .ok (.iload 4, 2) := by decide +kernel
theorem dd_M_both_59 : decode bb_M_both 59 = .ok (.iload_n 3, 1) := by decide +kernel
theorem dd_M_both_60 : decode bb_M_both 60 = .ok (.invokestatic 101, 3) := by decide +kernel
theorem dd_M_both_63 : decode bb_M_both 63 = .ok (.iload 5, 2) := by decide +kernel
theorem dd_M_both_65 : decode bb_M_both 65 = .ok (.iload 5, 2) := by decide +kernel
theorem dd_M_both_67 : decode bb_M_both 67 = .ok (.ifCond .eq 33, 3) := by decide +kernel
theorem dd_M_both_70 : decode bb_M_both 70 = .ok (.aload_n 0, 1) := by decide +kernel
theorem dd_M_both_71 : decode bb_M_both 71 = .ok (.aload_n 0, 1) := by decide +kernel
theorem dd_M_both_72 : decode bb_M_both 72 = .ok (.iload_n 1, 1) := by decide +kernel
theorem dd_M_both_73 : decode bb_M_both 73 = .ok (.invokevirtual 107, 3) := by decide +kernel
theorem dd_M_both_76 : decode bb_M_both 76 = .ok (.iload_n 3, 1) := by decide +kernel
theorem dd_M_both_77 : decode bb_M_both 77 = .ok (.invokevirtual 111, 3) := by decide +kernel
theorem dd_M_both_80 : decode bb_M_both 80 = .ok (.ifCond .eq 20, 3) := by decide +kernel
theorem dd_M_both_83 : decode bb_M_both 83 = .ok (.aload_n 0, 1) := by decide +kernel
theorem dd_M_both_84 : decode bb_M_both 84 = .ok (.aload_n 0, 1) := by decide +kernel
theorem dd_M_both_85 : decode bb_M_both 85 = .ok (.iload_n 2, 1) := by decide +kernel
theorem dd_M_both_86 : decode bb_M_both 86 = .ok (.invokevirtual 107, 3) := by decide +kernel
theorem dd_M_both_89 : decode bb_M_both 89 = .ok (.iload_n 3, 1) := by decide +kernel
theorem dd_M_both_90 : decode bb_M_both 90 = .ok (.invokevirtual 111, 3) := by decide +kernel
theorem dd_M_both_93 : decode bb_M_both 93 = .ok (.ifCond .eq 7, 3) := by decide +kernel
theorem dd_M_both_96 : decode bb_M_both 96 = .ok (.iconst 1, 1) := by decide +kernel
theorem dd_M_both_97 : decode bb_M_both 97 = .ok (.goto 4, 3) := by decide +kernel
theorem dd_M_both_100 : decode bb_M_both 100 = .ok (.iconst 0, 1) := by decide +kernel
theorem dd_M_both_101 : decode bb_M_both 101 = .ok (.invokevirtual 83, 3) := by decide +kernel
theorem dd_M_both_104 : decode bb_M_both 104 = .ok (.ifCond .ne 5, 3) := by decide +kernel
theorem dd_M_both_107 : decode bb_M_both 107 = .ok (.iconst 0, 1) := by decide +kernel
theorem dd_M_both_108 : decode bb_M_both 108 = .ok (.ireturn, 1) := by decide +kernel
theorem dd_M_both_109 : decode bb_M_both 109 = .ok (.aload_n 0, 1) := by decide +kernel
theorem dd_M_both_110 : decode bb_M_both 110 = .ok (.iload_n 1, 1) := by decide +kernel
theorem dd_M_both_111 : decode bb_M_both 111 = .ok (.iload_n 3, 1) := by decide +kernel
theorem dd_M_both_112 : decode bb_M_both 112 = .ok (.invokevirtual 131, 3) := by decide +kernel
theorem dd_M_both_115 : decode bb_M_both 115 = .ok (.aload_n 0, 1) := by decide +kernel
theorem dd_M_both_116 : decode bb_M_both 116 = .ok (.iload_n 2, 1) := by decide +kernel
theorem dd_M_both_117 : decode bb_M_both 117 = .ok (.iload_n 3, 1) := by decide +kernel
theorem dd_M_both_118 : decode bb_M_both 118 = .ok (.invokevirtual 131, 3) := by decide +kernel
theorem dd_M_both_121 : decode bb_M_both 121 = .ok (.iadd, 1) := by decide +kernel
theorem dd_M_both_122 : decode bb_M_both 122 = .ok (.istore 6, 2) := by decide +kernel
theorem dd_M_both_124 : decode bb_M_both 124 = .ok (.aload_n 0, 1) := by decide +kernel
theorem dd_M_both_125 : decode bb_M_both 125 = .ok (.getfield 16, 3) := by decide +kernel
theorem dd_M_both_128 : decode bb_M_both 128 = .ok (.iload_n 1, 1) := by decide +kernel
theorem dd_M_both_129 : decode bb_M_both 129 = .ok (.iaload, 1) := by decide +kernel
theorem dd_M_both_130 : decode bb_M_both 130 = .ok (.aload_n 0, 1) := by decide +kernel
theorem dd_M_both_131 : decode bb_M_both 131 = .ok (.getfield 16, 3) := by decide +kernel
theorem dd_M_both_134 : decode bb_M_both 134 = .ok (.iload_n 2, 1) := by decide +kernel
theorem dd_M_both_135 : decode bb_M_both 135 = .ok (.iaload, 1) := by decide +kernel
theorem dd_M_both_136 : decode bb_M_both 136 = .ok (.if_icmp .eq 6, 3) := by decide +kernel
theorem dd_M_both_139 : decode bb_M_both 139 = .ok (.iload 6, 2) := by decide +kernel
theorem dd_M_both_141 : decode bb_M_both 141 = .ok (.ireturn, 1) := by decide +kernel
theorem dd_M_both_142 : decode bb_M_both 142 = .ok (.iconst 3, 1) := by decide +kernel
theorem dd_M_both_143 : decode bb_M_both 143 = .ok (.iload 6, 2) := by decide +kernel
theorem dd_M_both_145 : decode bb_M_both 145 = .ok (.imul, 1) := by decide +kernel
theorem dd_M_both_146 : decode bb_M_both 146 = .ok (.iconst 4, 1) := by decide +kernel
theorem dd_M_both_147 : decode bb_M_both 147 = .ok (.idiv, 1) := by decide +kernel
theorem dd_M_both_148 : decode bb_M_both 148 = .ok (.istore 7, 2) := by decide +kernel
theorem dd_M_both_150 : decode bb_M_both 150 = .ok (.iload 7, 2) := by decide +kernel
theorem dd_M_both_152 : decode bb_M_both 152 = .ok (.aload_n 0, 1) := by decide +kernel
theorem dd_M_both_153 : decode bb_M_both 153 = .ok (.getfield 38, 3) := by decide +kernel
theorem dd_M_both_156 : decode bb_M_both 156 = .ok (.aload_n 0, 1) := by decide +kernel
theorem dd_M_both_157 : decode bb_M_both 157 = .ok (.getfield 16, 3) := by decide +kernel
theorem dd_M_both_160 : decode bb_M_both 160 = .ok (.iload_n 1, 1) := by decide +kernel
theorem dd_M_both_161 : decode bb_M_both 161 = .ok (.iaload, 1) := by decide +kernel
theorem dd_M_both_162 : decode bb_M_both 162 = .ok (.iaload, 1) := by decide +kernel
theorem dd_M_both_163 : decode bb_M_both 163 = .ok (.if_icmp .le 17, 3) := by decide +kernel
theorem dd_M_both_166 : decode bb_M_both 166 = .ok (.aload_n 0, 1) := by decide +kernel
theorem dd_M_both_167 : decode bb_M_both 167 = .ok (.getfield 38, 3) := by decide +kernel
theorem dd_M_both_170 : decode bb_M_both 170 = .ok (.aload_n 0, 1) := by decide +kernel
theorem dd_M_both_171 : decode bb_M_both 171 = .ok (.getfield 16, 3) := by decide +kernel
theorem dd_M_both_174 : decode bb_M_both 174 = .ok (.iload_n 1, 1) := by decide +kernel
theorem dd_M_both_175 : decode bb_M_both 175 = .ok (.iaload, 1) := by decide +kernel
theorem dd_M_both_176 : decode bb_M_both 176 = .ok (.iaload, 1) := by decide +kernel
theorem dd_M_both_177 : decode bb_M_both 177 = .ok (.goto 5, 3) := by decide +kernel
theorem dd_M_both_180 : decode bb_M_both 180 = .ok (.iload 7, 2) := by decide +kernel
theorem dd_M_both_182 : decode bb_M_both 182 = .ok (.ireturn, 1) := by decide +kernel
theorem dd_M_supply_0 : decode bb_M_supply 0 = .ok (.aload_n 0, 1) := by decide +kernel
theorem dd_M_supply_1 : decode bb_M_supply 1 = .ok (.iload_n 1, 1) := by decide +kernel
theorem dd_M_supply_2 : decode bb_M_supply 2 = .ok (.iload_n 2, 1) := by decide +kernel
theorem dd_M_supply_3 : decode bb_M_supply 3 = .ok (.invokestatic 79, 3) := by decide +kernel
theorem dd_M_supply_6 : decode bb_M_supply 6 = .ok (.ifCond .eq 33, 3) := by decide +kernel
theorem dd_M_supply_9 : decode bb_M_supply 9 = .ok (.iload_n 3, 1) := by decide +kernel
theorem dd_M_supply_10 : decode bb_M_supply 10 = .ok (.invokestatic 98, 3) := by decide +kernel
theorem dd_M_supply_13 : decode bb_M_supply 13 = .ok (.ifCond .eq 26, 3) := by decide +kernel
theorem dd_M_supply_16 : decode bb_M_supply 16 = .ok (.iload 4, 2) := by decide +kernel
theorem dd_M_supply_18 : decode bb_M_supply 18 = .ok (.invokestatic 101, 3) := by decide +kernel
theorem dd_M_supply_21 : decode bb_M_supply 21 = .ok (.ifCond .eq 18, 3) := by decide +kernel
theorem dd_M_supply_24 : decode bb_M_supply 24 = .ok (.iload 5, 2) := by decide +kernel
theorem dd_M_supply_26 : decode bb_M_supply 26 = .ok (.iconst 0, 1) := by decide +kernel
theorem dd_M_supply_27 : decode bb_M_supply 27 = .ok (.ldc 134, 2) := by decide +kernel
theorem dd_M_supply_29 : decode bb_M_supply 29 = .ok (.invokestatic 72, 3) := by decide +kernel
theorem dd_M_supply_32 : decode bb_M_supply 32 = .ok (.ifCond .eq 7, 3) := by decide +kernel
theorem dd_M_supply_35 : decode bb_M_supply 35 = .ok (.iconst 1, 1) := by decide +kernel
theorem dd_M_supply_36 : decode bb_M_supply 36 = .ok (.goto 4, 3) := by decide +kernel
theorem dd_M_supply_39 : decode bb_M_supply 39 = .ok (.iconst 0, 1) := by decide +kernel
theorem dd_M_supply_40 : decode bb_M_supply 40 = .ok (.iconst 1, 1) := by decide +kernel
theorem dd_M_supply_41 : decode bb_M_supply 41 = .ok (.iconst 1, 1) := by decide +kernel
theorem dd_M_supply_42 : decode bb_M_supply 42 = .ok (.iconst 1, 1) := by decide +kernel
theorem dd_M_supply_43 : decode bb_M_supply 43 = .ok (.invokevirtual 83, 3) := by decide +kernel
theorem dd_M_supply_46 : decode bb_M_supply 46 = .ok (.ifCond .ne 5, 3) := by decide +kernel
theorem dd_M_supply_49 : decode bb_M_supply 49 = .ok (.iconst 0, 1) := by decide +kernel
theorem dd_M_supply_50 : decode bb_M_supply 50 = .ok (.ireturn, 1) := by decide +kernel
theorem dd_M_supply_51 : decode bb_M_supply 51 = .ok (.iconst 0, 1) := by decide +kernel
theorem dd_M_supply_52 : decode bb_M_supply 52 = .ok (.istore 6, 2) := by decide +kernel
theorem dd_M_supply_54 : decode bb_M_supply 54 = .ok (.iconst 0, 1) := by decide +kernel
theorem dd_M_supply_55 : decode bb_M_supply 55 = .ok (.istore 7, 2) := by decide +kernel
theorem dd_M_supply_57 : decode bb_M_supply 57 = .ok (.iload 7, 2) := by decide +kernel
theorem dd_M_supply_59 : decode bb_M_supply 59 = .ok (.bipush 20, 2) := by decide +kernel
theorem dd_M_supply_61 : decode bb_M_supply 61 = .ok (.if_icmp .ge 134, 3) := by decide +kernel
theorem dd_M_supply_64 : decode bb_M_supply 64 = .ok (.iconst 0, 1) := by decide +kernel
theorem dd_M_supply_65 : decode bb_M_supply 65 = .ok (.istore 8, 2) := by decide +kernel
theorem dd_M_supply_67 : decode bb_M_supply 67 = .ok (.iconst 0, 1) := by decide +kernel
theorem dd_M_supply_68 : decode bb_M_supply 68 = .ok (.istore 9, 2) := by decide +kernel
theorem dd_M_supply_70 : decode bb_M_supply 70 = .ok (.iload 9, 2) := by decide +kernel
theorem dd_M_supply_72 : decode bb_M_supply 72 = .ok (.aload_n 0, 1) := by decide +kernel
theorem dd_M_supply_73 : decode bb_M_supply 73 = .ok (.getfield 69, 3) := by decide +kernel
theorem dd_M_supply_76 : decode bb_M_supply 76 = .ok (.if_icmp .ge 84, 3) := by decide +kernel
theorem dd_M_supply_79 : decode bb_M_supply 79 = .ok (.aload_n 0, 1) := by decide +kernel
theorem dd_M_supply_80 : decode bb_M_supply 80 = .ok (.getfield 16, 3) := by decide +kernel
theorem dd_M_supply_83 : decode bb_M_supply 83 = .ok (.iload 9, 2) := by decide +kernel
theorem dd_M_supply_85 : decode bb_M_supply 85 = .ok (.iaload, 1) := by decide +kernel
theorem dd_M_supply_86 : decode bb_M_supply 86 = .ok (.iload 7, 2) := by decide +kernel
theorem dd_M_supply_88 : decode bb_M_supply 88 = .ok (.if_icmp .ne 66, 3) := by decide +kernel
theorem dd_M_supply_91 : decode bb_M_supply 91 = .ok (.aload_n 0, 1) := by decide +kernel
theorem dd_M_supply_92 : decode bb_M_supply 92 = .ok (.iload 9, 2) := by decide +kernel
theorem dd_M_supply_94 : decode bb_M_supply 94 = .ok (.iload_n 3, 1) := by decide +kernel
theorem dd_M_supply_95 : decode bb_M_supply 95 = .ok (.invokevirtual 121, 3) := by decide +kernel
theorem dd_M_supply_98 : decode bb_M_supply 98 = .ok (.ifCond .eq 56, 3) := by decide +kernel
theorem dd_M_supply_101 : decode bb_M_supply 101 = .ok (.aload_n 0, 1) := by decide +kernel
theorem dd_M_supply_102 : decode bb_M_supply 102 = .ok (.iload_n 1, 1) := by decide +kernel
theorem dd_M_supply_103 : decode bb_M_supply 103 = .ok (.iload_n 2, 1) := by decide +kernel
theorem dd_M_supply_104 : decode bb_M_supply 104 = .ok (.iload 9, 2) := by decide +kernel
theorem dd_M_supply_106 : decode bb_M_supply 106 = .ok (.invokevirtual 127, 3) := by decide +kernel
theorem dd_M_supply_109 : decode bb_M_supply 109 = .ok (.iload 5, 2) := by decide +kernel
theorem dd_M_supply_111 : decode bb_M_supply 111 = .ok (.if_icmp .gt 43, 3) := by decide +kernel
theorem dd_M_supply_114 : decode bb_M_supply 114 = .ok (.aload_n 0, 1) := by decide +kernel
theorem dd_M_supply_115 : decode bb_M_supply 115 = .ok (.iload 9, 2) := by decide +kernel
theorem dd_M_supply_117 : decode bb_M_supply 117 = .ok (.invokevirtual 107, 3) := by decide +kernel
theorem dd_M_supply_120 : decode bb_M_supply 120 = .ok (.ifCond .lt 34, 3) := by decide +kernel
theorem dd_M_supply_123 : decode bb_M_supply 123 = .ok (.aload_n 0, 1) := by decide +kernel
theorem dd_M_supply_124 : decode bb_M_supply 124 = .ok (.aload_n 0, 1) := by decide +kernel
theorem dd_M_supply_125 : decode bb_M_supply 125 = .ok (.iload 9, 2) := by decide +kernel
theorem dd_M_supply_127 : decode bb_M_supply 127 = .ok (.invokevirtual 107, 3) := by decide +kernel
theorem dd_M_supply_130 : decode bb_M_supply 130 = .ok (.iload 4, 2) := by decide +kernel
theorem dd_M_supply_132 : decode bb_M_supply 132 = .ok (.invokevirtual 111, 3) := by decide +kernel
theorem dd_M_supply_135 : decode bb_M_supply 135 = .ok (.ifCond .ne 6, 3) := by decide +kernel
theorem dd_M_supply_138 : decode bb_M_supply 138 = .ok (.goto 16, 3) := by decide +kernel
theorem dd_M_supply_141 : decode bb_M_supply 141 = .ok (.iload 8, 2) := by decide +kernel
theorem dd_M_supply_143 : decode bb_M_supply 143 = .ok (.aload_n 0, 1) := by decide +kernel
theorem dd_M_supply_144 : decode bb_M_supply 144 = .ok (.iload 9, 2) := by decide +kernel
theorem dd_M_supply_146 : decode bb_M_supply 146 = .ok (.iload 4, 2) := by decide +kernel
theorem dd_M_supply_148 : decode bb_M_supply 148 = .ok (.invokevirtual 131, 3) := by decide +kernel
theorem dd_M_supply_151 : decode bb_M_supply 151 = .ok (.iadd, 1) := by decide +kernel
theorem dd_M_supply_152 : decode bb_M_supply 152 = .ok (.istore 8, 2) := by decide +kernel
theorem dd_M_supply_154 : decode bb_M_supply 154 = .ok (.iinc 9 1, 3) := by decide +kernel
theorem dd_M_supply_157 : decode bb_M_supply 157 = .ok (.goto (-87), 3) := by decide +kernel
theorem dd_M_supply_160 : decode bb_M_supply 160 = .ok (.iload 6, 2) := by decide +kernel
theorem dd_M_supply_162 : decode bb_M_supply 162 = .ok (.iload 8, 2) := by decide +kernel
theorem dd_M_supply_164 : decode bb_M_supply 164 = .ok (.aload_n 0, 1) := by decide +kernel
theorem dd_M_supply_165 : decode bb_M_supply 165 = .ok (.getfield 38, 3) := by decide +kernel
theorem dd_M_supply_168 : decode bb_M_supply 168 = .ok (.iload 7, 2) := by decide +kernel
theorem dd_M_supply_170 : decode bb_M_supply 170 = .ok (.iaload, 1) := by decide +kernel
theorem dd_M_supply_171 : decode bb_M_supply 171 = .ok (.if_icmp .le 13, 3) := by decide +kernel
theorem dd_M_supply_174 : decode bb_M_supply 174 = .ok (.aload_n 0, 1) := by decide +kernel
theorem dd_M_supply_175 : decode bb_M_supply 175 = .ok (.getfield 38, 3) := by decide +kernel
theorem dd_M_supply_178 : decode bb_M_supply 178 = .ok (.iload 7, 2) := by decide +kernel
theorem dd_M_supply_180 : decode bb_M_supply 180 = .ok (.iaload, 1) := by decide +kernel
theorem dd_M_supply_181 : decode bb_M_supply 181 = .ok (.goto 5, 3) := by decide +kernel
theorem dd_M_supply_184 : decode bb_M_supply 184 = .ok (.iload 8, 2) := by decide +kernel
theorem dd_M_supply_186 : decode bb_M_supply 186 = .ok (.iadd, 1) := by decide +kernel
theorem dd_M_supply_187 : decode bb_M_supply 187 = .ok (.istore 6, 2) := by decide +kernel
theorem dd_M_supply_189 : decode bb_M_supply 189 = .ok (.iinc 7 1, 3) := by decide +kernel
theorem dd_M_supply_192 : decode bb_M_supply 192 = .ok (.goto (-135), 3) := by decide +kernel
theorem dd_M_supply_195 : decode bb_M_supply 195 = .ok (.iload 6, 2) := by decide +kernel
theorem dd_M_supply_197 : decode bb_M_supply 197 = .ok (.ireturn, 1) := by decide +kernel
theorem dd_M_metres_0 : decode bb_M_metres 0 = .ok (.iconst 0, 1) := by decide +kernel
theorem dd_M_metres_1 : decode bb_M_metres 1 = .ok (.istore_n 2, 1) := by decide +kernel
theorem dd_M_metres_2 : decode bb_M_metres 2 = .ok (.iconst 0, 1) := by decide +kernel
theorem dd_M_metres_3 : decode bb_M_metres 3 = .ok (.istore_n 3, 1) := by decide +kernel
theorem dd_M_metres_4 : decode bb_M_metres 4 = .ok (.iconst 0, 1) := by decide +kernel
theorem dd_M_metres_5 : decode bb_M_metres 5 = .ok (.istore 4, 2) := by decide +kernel
theorem dd_M_metres_7 : decode bb_M_metres 7 = .ok (.iconst 0, 1) := by decide +kernel
theorem dd_M_metres_8 : decode bb_M_metres 8 = .ok (.istore 5, 2) := by decide +kernel
theorem dd_M_metres_10 : decode bb_M_metres 10 = .ok (.iload 5, 2) := by decide +kernel
theorem dd_M_metres_12 : decode bb_M_metres 12 = .ok (.iload_n 1, 1) := by decide +kernel
theorem dd_M_metres_13 : decode bb_M_metres 13 = .ok (.if_icmp .ge 53, 3) := by decide +kernel
theorem dd_M_metres_16 : decode bb_M_metres 16 = .ok (.iload_n 2, 1) := by decide +kernel
theorem dd_M_metres_17 : decode bb_M_metres 17 = .ok (.aload_n 0, 1) := by decide +kernel
theorem dd_M_metres_18 : decode bb_M_metres 18 = .ok (.iload_n 3, 1) := by decide +kernel
theorem dd_M_metres_19 : decode bb_M_metres 19 = .ok (.iload 4, 2) := by decide +kernel
theorem dd_M_metres_21 : decode bb_M_metres 21 = .ok (.aload_n 0, 1) := by decide +kernel
theorem dd_M_metres_22 : decode bb_M_metres 22 = .ok (.getfield 59, 3) := by decide +kernel
theorem dd_M_metres_25 : decode bb_M_metres 25 = .ok (.iload 5, 2) := by decide +kernel
theorem dd_M_metres_27 : decode bb_M_metres 27 = .ok (.iaload, 1) := by decide +kernel
theorem dd_M_metres_28 : decode bb_M_metres 28 = .ok (.invokevirtual 127, 3) := by decide +kernel
theorem dd_M_metres_31 : decode bb_M_metres 31 = .ok (.iadd, 1) := by decide +kernel
theorem dd_M_metres_32 : decode bb_M_metres 32 = .ok (.istore_n 2, 1) := by decide +kernel
theorem dd_M_metres_33 : decode bb_M_metres 33 = .ok (.aload_n 0, 1) := by decide +kernel
theorem dd_M_metres_34 : decode bb_M_metres 34 = .ok (.getfield 7, 3) := by decide +kernel
theorem dd_M_metres_37 : decode bb_M_metres 37 = .ok (.aload_n 0, 1) := by decide +kernel
theorem dd_M_metres_38 : decode bb_M_metres 38 = .ok (.getfield 59, 3) := by decide +kernel
theorem dd_M_metres_41 : decode bb_M_metres 41 = .ok (.iload 5, 2) := by decide +kernel
theorem dd_M_metres_43 : decode bb_M_metres 43 = .ok (.iaload, 1) := by decide +kernel
theorem dd_M_metres_44 : decode bb_M_metres 44 = .ok (.iaload, 1) := by decide +kernel
theorem dd_M_metres_45 : decode bb_M_metres 45 = .ok (.istore_n 3, 1) := by decide +kernel
theorem dd_M_metres_46 : decode bb_M_metres 46 = .ok (.aload_n 0, 1) := by decide +kernel
theorem dd_M_metres_47 : decode bb_M_metres 47 = .ok (.getfield 13, 3) := by decide +kernel
theorem dd_M_metres_50 : decode bb_M_metres 50 = .ok (.aload_n 0, 1) := by decide +kernel
theorem dd_M_metres_51 : decode bb_M_metres 51 = .ok (.getfield 59, 3) := by decide +kernel
theorem dd_M_metres_54 : decode bb_M_metres 54 = .ok (.iload 5, 2) := by decide +kernel
theorem dd_M_metres_56 : decode bb_M_metres 56 = .ok (.iaload, 1) := by decide +kernel
theorem dd_M_metres_57 : decode bb_M_metres 57 = .ok (.iaload, 1) := by decide +kernel
theorem dd_M_metres_58 : decode bb_M_metres 58 = .ok (.istore 4, 2) := by decide +kernel
theorem dd_M_metres_60 : decode bb_M_metres 60 = .ok (.iinc 5 1, 3) := by decide +kernel
theorem dd_M_metres_63 : decode bb_M_metres 63 = .ok (.goto (-53), 3) := by decide +kernel
theorem dd_M_metres_66 : decode bb_M_metres 66 = .ok (.iload_n 2, 1) := by decide +kernel
theorem dd_M_metres_67 : decode bb_M_metres 67 = .ok (.iload_n 3, 1) := by decide +kernel
theorem dd_M_metres_68 : decode bb_M_metres 68 = .ok (.invokestatic 124, 3) := by decide +kernel
theorem dd_M_metres_71 : decode bb_M_metres 71 = .ok (.iadd, 1) := by decide +kernel
theorem dd_M_metres_72 : decode bb_M_metres 72 = .ok (.iload 4, 2) := by decide +kernel
theorem dd_M_metres_74 : decode bb_M_metres 74 = .ok (.invokestatic 124, 3) := by decide +kernel
theorem dd_M_metres_77 : decode bb_M_metres 77 = .ok (.iadd, 1) := by decide +kernel
theorem dd_M_metres_78 : decode bb_M_metres 78 = .ok (.ireturn, 1) := by decide +kernel
theorem dd_M_arranges_0 : decode bb_M_arranges 0 = .ok (.iload_n 2, 1) := by decide +kernel
theorem dd_M_arranges_1 : decode bb_M_arranges 1 = .ok (.istore_n 3, 1) := by decide +kernel
theorem dd_M_arranges_2 : decode bb_M_arranges 2 = .ok (.iconst 0, 1) := by decide +kernel
theorem dd_M_arranges_3 : decode bb_M_arranges 3 = .ok (.istore 4, 2) := by decide +kernel
theorem dd_M_arranges_5 : decode bb_M_arranges 5 = .ok (.iload_n 1, 1) := by decide +kernel
theorem dd_M_arranges_6 : decode bb_M_arranges 6 = .ok (.iconst 1, 1) := by decide +kernel
theorem dd_M_arranges_7 : decode bb_M_arranges 7 = .ok (.isub, 1) := by decide +kernel
theorem dd_M_arranges_8 : decode bb_M_arranges 8 = .ok (.istore 5, 2) := by decide +kernel
theorem dd_M_arranges_10 : decode bb_M_arranges 10 = .ok (.iload 5, 2) := by decide +kernel
theorem dd_M_arranges_12 : decode bb_M_arranges 12 = .ok (.ifCond .lt 62, 3) := by decide +kernel
theorem dd_M_arranges_15 : decode bb_M_arranges 15 = .ok (.iload_n 3, 1) := by decide +kernel
theorem dd_M_arranges_16 : decode bb_M_arranges 16 = .ok (.bipush 6, 2) := by decide +kernel
theorem dd_M_arranges_18 : decode bb_M_arranges 18 = .ok (.irem, 1) := by decide +kernel
theorem dd_M_arranges_19 : decode bb_M_arranges 19 = .ok (.istore 6, 2) := by decide +kernel
theorem dd_M_arranges_21 : decode bb_M_arranges 21 = .ok (.iload_n 3, 1) := by decide +kernel
theorem dd_M_arranges_22 : decode bb_M_arranges 22 = .ok (.bipush 6, 2) := by decide +kernel
theorem dd_M_arranges_24 : decode bb_M_arranges 24 = .ok (.idiv, 1) := by decide +kernel
theorem dd_M_arranges_25 : decode bb_M_arranges 25 = .ok (.istore_n 3, 1) := by decide +kernel
theorem dd_M_arranges_26 : decode bb_M_arranges 26 = .ok (.iload 6, 2) := by decide +kernel
theorem dd_M_arranges_28 : decode bb_M_arranges 28 = .ok (.iload_n 1, 1) := by decide +kernel
theorem dd_M_arranges_29 : decode bb_M_arranges 29 = .ok (.if_icmp .ge 14, 3) := by decide +kernel
theorem dd_M_arranges_32 : decode bb_M_arranges 32 = .ok (.iload 4, 2) := by decide +kernel
theorem dd_M_arranges_34 : decode bb_M_arranges 34 = .ok (.iload 6, 2) := by decide +kernel
theorem dd_M_arranges_36 : decode bb_M_arranges 36 = .ok (.ishr, 1) := by decide +kernel
theorem dd_M_arranges_37 : decode bb_M_arranges 37 = .ok (.iconst 1, 1) := by decide +kernel
theorem dd_M_arranges_38 : decode bb_M_arranges 38 = .ok (.iand, 1) := by decide +kernel
theorem dd_M_arranges_39 : decode bb_M_arranges 39 = .ok (.iconst 1, 1) := by decide +kernel
theorem dd_M_arranges_40 : decode bb_M_arranges 40 = .ok (.if_icmp .ne 5, 3) := by decide +kernel
theorem dd_M_arranges_43 : decode bb_M_arranges 43 = .ok (.iconst 0, 1) := by decide +kernel
theorem dd_M_arranges_44 : decode bb_M_arranges 44 = .ok (.ireturn, 1) := by decide +kernel
theorem dd_M_arranges_45 : decode bb_M_arranges 45 = .ok (.iload 4, 2) := by decide +kernel
theorem dd_M_arranges_47 : decode bb_M_arranges 47 = .ok (.iconst 1, 1) := by decide +kernel
theorem dd_M_arranges_48 : decode bb_M_arranges 48 = .ok (.iload 6, 2) := by decide +kernel
theorem dd_M_arranges_50 : decode bb_M_arranges 50 = .ok (.ishl, 1) := by decide +kernel
theorem dd_M_arranges_51 : decode bb_M_arranges 51 = .ok (.ior, 1) := by decide +kernel
theorem dd_M_arranges_52 : decode bb_M_arranges 52 = .ok (.istore 4, 2) := by decide +kernel
theorem dd_M_arranges_54 : decode bb_M_arranges 54 = .ok (.aload_n 0, 1) := by decide +kernel
theorem dd_M_arranges_55 : decode bb_M_arranges 55 = .ok (.getfield 59, 3) := by decide +kernel
theorem dd_M_arranges_58 : decode bb_M_arranges 58 = .ok (.iload 5, 2) := by decide +kernel
theorem dd_M_arranges_60 : decode bb_M_arranges 60 = .ok (.aload_n 0, 1) := by decide +kernel
theorem dd_M_arranges_61 : decode bb_M_arranges 61 = .ok (.getfield 56, 3) := by decide +kernel
theorem dd_M_arranges_64 : decode bb_M_arranges 64 = .ok (.iload 6, 2) := by decide +kernel
theorem dd_M_arranges_66 : decode bb_M_arranges 66 = .ok (.iaload, 1) := by decide +kernel
theorem dd_M_arranges_67 : decode bb_M_arranges 67 = .ok (.iastore, 1) := by decide +kernel
theorem dd_M_arranges_68 : decode bb_M_arranges 68 = .ok (.iinc 5 (-1), 3) := by decide +kernel
theorem dd_M_arranges_71 : decode bb_M_arranges 71 = .ok (.goto (-61), 3) := by decide +kernel
theorem dd_M_arranges_74 : decode bb_M_arranges 74 = .ok (.iconst 1, 1) := by decide +kernel
theorem dd_M_arranges_75 : decode bb_M_arranges 75 = .ok (.ireturn, 1) := by decide +kernel
theorem dd_M_isAhead_0 : decode bb_M_isAhead 0 = .ok (.iconst 0, 1) := by decide +kernel
theorem dd_M_isAhead_1 : decode bb_M_isAhead 1 = .ok (.istore_n 2, 1) := by decide +kernel
theorem dd_M_isAhead_2 : decode bb_M_isAhead 2 = .ok (.iload_n 2, 1) := by decide +kernel
theorem dd_M_isAhead_3 : decode bb_M_isAhead 3 = .ok (.iload_n 1, 1) := by decide +kernel
theorem dd_M_isAhead_4 : decode bb_M_isAhead 4 = .ok (.if_icmp .ge 45, 3) := by decide +kernel
theorem dd_M_isAhead_7 : decode bb_M_isAhead 7 = .ok (.aload_n 0, 1) := by decide +kernel
theorem dd_M_isAhead_8 : decode bb_M_isAhead 8 = .ok (.getfield 59, 3) := by decide +kernel
theorem dd_M_isAhead_11 : decode bb_M_isAhead 11 = .ok (.iload_n 2, 1) := by decide +kernel
theorem dd_M_isAhead_12 : decode bb_M_isAhead 12 = .ok (.iaload, 1) := by decide +kernel
theorem dd_M_isAhead_13 : decode bb_M_isAhead 13 = .ok (.aload_n 0, 1) := by decide +kernel
theorem dd_M_isAhead_14 : decode bb_M_isAhead 14 = .ok (.getfield 62, 3) := by decide +kernel
theorem dd_M_isAhead_17 : decode bb_M_isAhead 17 = .ok (.iload_n 2, 1) := by decide +kernel
theorem dd_M_isAhead_18 : decode bb_M_isAhead 18 = .ok (.iaload, 1) := by decide +kernel
theorem dd_M_isAhead_19 : decode bb_M_isAhead 19 = .ok (.if_icmp .eq 24, 3) := by decide +kernel
theorem dd_M_isAhead_22 : decode bb_M_isAhead 22 = .ok (.aload_n 0, 1) := by decide +kernel
theorem dd_M_isAhead_23 : decode bb_M_isAhead 23 = .ok (.getfield 59, 3) := by decide +kernel
theorem dd_M_isAhead_26 : decode bb_M_isAhead 26 = .ok (.iload_n 2, 1) := by decide +kernel
theorem dd_M_isAhead_27 : decode bb_M_isAhead 27 = .ok (.iaload, 1) := by decide +kernel
theorem dd_M_isAhead_28 : decode bb_M_isAhead 28 = .ok (.aload_n 0, 1) := by decide +kernel
theorem dd_M_isAhead_29 : decode bb_M_isAhead 29 = .ok (.getfield 62, 3) := by decide +kernel
theorem dd_M_isAhead_32 : decode bb_M_isAhead 32 = .ok (.iload_n 2, 1) := by decide +kernel
theorem dd_M_isAhead_33 : decode bb_M_isAhead 33 = .ok (.iaload, 1) := by decide +kernel
theorem dd_M_isAhead_34 : decode bb_M_isAhead 34 = .ok (.if_icmp .ge 7, 3) := by decide +kernel
theorem dd_M_isAhead_37 : decode bb_M_isAhead 37 = .ok (.iconst 1, 1) := by decide +kernel
theorem dd_M_isAhead_38 : decode bb_M_isAhead 38 = .ok (.goto 4, 3) := by decide +kernel
theorem dd_M_isAhead_41 : decode bb_M_isAhead 41 = .ok (.iconst 0, 1) := by decide +kernel
theorem dd_M_isAhead_42 : decode bb_M_isAhead 42 = .ok (.ireturn, 1) := by decide +kernel
theorem dd_M_isAhead_43 : decode bb_M_isAhead 43 = .ok (.iinc 2 1, 3) := by decide +kernel
theorem dd_M_isAhead_46 : decode bb_M_isAhead 46 = .ok (.goto (-44), 3) := by decide +kernel
theorem dd_M_isAhead_49 : decode bb_M_isAhead 49 = .ok (.iconst 0, 1) := by decide +kernel
theorem dd_M_isAhead_50 : decode bb_M_isAhead 50 = .ok (.ireturn, 1) := by decide +kernel
theorem dd_M_round_0 : decode bb_M_round 0 = .ok (.iconst 1, 1) := by decide +kernel
theorem dd_M_round_1 : decode bb_M_round 1 = .ok (.istore 4, 2) := by decide +kernel
theorem dd_M_round_3 : decode bb_M_round 3 = .ok (.iconst 1, 1) := by decide +kernel
theorem dd_M_round_4 : decode bb_M_round 4 = .ok (.istore 5, 2) := by decide +kernel
theorem dd_M_round_6 : decode bb_M_round 6 = .ok (.iconst 0, 1) := by decide +kernel
theorem dd_M_round_7 : decode bb_M_round 7 = .ok (.istore 6, 2) := by decide +kernel
theorem dd_M_round_9 : decode bb_M_round 9 = .ok (.iload 6, 2) := by decide +kernel
theorem dd_M_round_11 : decode bb_M_round 11 = .ok (.bipush 6, 2) := by decide +kernel
theorem dd_M_round_13 : decode bb_M_round 13 = .ok (.if_icmp .ge 75, 3) := by decide +kernel
theorem dd_M_round_16 : decode bb_M_round 16 = .ok (.iload 6, 2) := by decide +kernel
theorem dd_M_round_18 : decode bb_M_round 18 = .ok (.iload_n 3, 1) := by decide +kernel
theorem dd_M_round_19 : decode bb_M_round 19 = .ok (.if_icmp .ge 69, 3) := by decide +kernel
theorem dd_M_round_22 : decode bb_M_round 22 = .ok (.lload_n 1, 1) := by decide +kernel
theorem dd_M_round_23 : decode bb_M_round 23 = .ok (.bipush 6, 2) := by decide +kernel
theorem dd_M_round_25 : decode bb_M_round 25 = .ok (.iload 6, 2) := by decide +kernel
theorem dd_M_round_27 : decode bb_M_round 27 = .ok (.imul, 1) := by decide +kernel
theorem dd_M_round_28 : decode bb_M_round 28 = .ok (.lshr, 1) := by decide +kernel
theorem dd_M_round_29 : decode bb_M_round 29 = .ok (.l2i, 1) := by decide +kernel
theorem dd_M_round_30 : decode bb_M_round 30 = .ok (.bipush 63, 2) := by decide +kernel
theorem dd_M_round_32 : decode bb_M_round 32 = .ok (.iand, 1) := by decide +kernel
theorem dd_M_round_33 : decode bb_M_round 33 = .ok (.istore 7, 2) := by decide +kernel
theorem dd_M_round_35 : decode bb_M_round 35 = .ok (.aload_n 0, 1) := by decide +kernel
theorem dd_M_round_36 : decode bb_M_round 36 = .ok (.iload 7, 2) := by decide +kernel
theorem dd_M_round_38 : decode bb_M_round 38 = .ok (.invokevirtual 95, 3) := by decide +kernel
theorem dd_M_round_41 : decode bb_M_round 41 = .ok (.ifCond .ne 6, 3) := by decide +kernel
theorem dd_M_round_44 : decode bb_M_round 44 = .ok (.iconst 0, 1) := by decide +kernel
theorem dd_M_round_45 : decode bb_M_round 45 = .ok (.istore 4, 2) := by decide +kernel
theorem dd_M_round_47 : decode bb_M_round 47 = .ok (.iconst 0, 1) := by decide +kernel
theorem dd_M_round_48 : decode bb_M_round 48 = .ok (.istore 8, 2) := by decide +kernel
theorem dd_M_round_50 : decode bb_M_round 50 = .ok (.iload 8, 2) := by decide +kernel
theorem dd_M_round_52 : decode bb_M_round 52 = .ok (.iload 6, 2) := by decide +kernel
theorem dd_M_round_54 : decode bb_M_round 54 = .ok (.if_icmp .ge 28, 3) := by decide +kernel
theorem dd_M_round_57 : decode bb_M_round 57 = .ok (.lload_n 1, 1) := by decide +kernel
theorem dd_M_round_58 : decode bb_M_round 58 = .ok (.bipush 6, 2) := by decide +kernel
theorem dd_M_round_60 : decode bb_M_round 60 = .ok (.iload 8, 2) := by decide +kernel
theorem dd_M_round_62 : decode bb_M_round 62 = .ok (.imul, 1) := by decide +kernel
theorem dd_M_round_63 : decode bb_M_round 63 = .ok (.lshr, 1) := by decide +kernel
theorem dd_M_round_64 : decode bb_M_round 64 = .ok (.l2i, 1) := by decide +kernel
theorem dd_M_round_65 : decode bb_M_round 65 = .ok (.bipush 63, 2) := by decide +kernel
theorem dd_M_round_67 : decode bb_M_round 67 = .ok (.iand, 1) := by decide +kernel
theorem dd_M_round_68 : decode bb_M_round 68 = .ok (.iload 7, 2) := by decide +kernel
theorem dd_M_round_70 : decode bb_M_round 70 = .ok (.if_icmp .ne 6, 3) := by decide +kernel
theorem dd_M_round_73 : decode bb_M_round 73 = .ok (.iconst 0, 1) := by decide +kernel
theorem dd_M_round_74 : decode bb_M_round 74 = .ok (.istore 5, 2) := by decide +kernel
theorem dd_M_round_76 : decode bb_M_round 76 = .ok (.iinc 8 1, 3) := by decide +kernel
theorem dd_M_round_79 : decode bb_M_round 79 = .ok (.goto (-29), 3) := by decide +kernel
theorem dd_M_round_82 : decode bb_M_round 82 = .ok (.iinc 6 1, 3) := by decide +kernel
theorem dd_M_round_85 : decode bb_M_round 85 = .ok (.goto (-76), 3) := by decide +kernel
theorem dd_M_round_88 : decode bb_M_round 88 = .ok (.aload_n 0, 1) := by decide +kernel
theorem dd_M_round_89 : decode bb_M_round 89 = .ok (.iload 4, 2) := by decide +kernel
theorem dd_M_round_91 : decode bb_M_round 91 = .ok (.iload_n 3, 1) := by decide +kernel
theorem dd_M_round_92 : decode bb_M_round 92 = .ok (.iconst 0, 1) := by decide +kernel
theorem dd_M_round_93 : decode bb_M_round 93 = .ok (.bipush 6, 2) := by decide +kernel
theorem dd_M_round_95 : decode bb_M_round 95 = .ok (.invokestatic 72, 3) := by decide +kernel
theorem dd_M_round_98 : decode bb_M_round 98 = .ok (.ifCond .eq 12, 3) := by decide +kernel
theorem dd_M_round_101 : decode bb_M_round 101 = .ok (.iload 5, 2) := by decide +kernel
theorem dd_M_round_103 : decode bb_M_round 103 = .ok (.ifCond .eq 7, 3) := by decide +kernel
theorem dd_M_round_106 : decode bb_M_round 106 = .ok (.iconst 1, 1) := by decide +kernel
theorem dd_M_round_107 : decode bb_M_round 107 = .ok (.goto 4, 3) := by decide +kernel
theorem dd_M_round_110 : decode bb_M_round 110 = .ok (.iconst 0, 1) := by decide +kernel
theorem dd_M_round_111 : decode bb_M_round 111 = .ok (.iconst 1, 1) := by decide +kernel
theorem dd_M_round_112 : decode bb_M_round 112 = .ok (.iconst 1, 1) := by decide +kernel
theorem dd_M_round_113 : decode bb_M_round 113 = .ok (.invokevirtual 83, 3) := by decide +kernel
theorem dd_M_round_116 : decode bb_M_round 116 = .ok (.ifCond .ne 5, 3) := by decide +kernel
theorem dd_M_round_119 : decode bb_M_round 119 = .ok (.iconst 0, 1) := by decide +kernel
theorem dd_M_round_120 : decode bb_M_round 120 = .ok (.ireturn, 1) := by decide +kernel
theorem dd_M_round_121 : decode bb_M_round 121 = .ok (.aload_n 0, 1) := by decide +kernel
theorem dd_M_round_122 : decode bb_M_round 122 = .ok (.iload_n 3, 1) := by decide +kernel
theorem dd_M_round_123 : decode bb_M_round 123 = .ok (.putfield 135, 3) := by decide +kernel
theorem dd_M_round_126 : decode bb_M_round 126 = .ok (.iconst 0, 1) := by decide +kernel
theorem dd_M_round_127 : decode bb_M_round 127 = .ok (.istore 6, 2) := by decide +kernel
theorem dd_M_round_129 : decode bb_M_round 129 = .ok (.iload 6, 2) := by decide +kernel
theorem dd_M_round_131 : decode bb_M_round 131 = .ok (.iload_n 3, 1) := by decide +kernel
theorem dd_M_round_132 : decode bb_M_round 132 = .ok (.if_icmp .ge 27, 3) := by decide +kernel
theorem dd_M_round_135 : decode bb_M_round 135 = .ok (.aload_n 0, 1) := by decide +kernel
theorem dd_M_round_136 : decode bb_M_round 136 = .ok (.getfield 56, 3) := by decide +kernel
theorem dd_M_round_139 : decode bb_M_round 139 = .ok (.iload 6, 2) := by decide +kernel
theorem dd_M_round_141 : decode bb_M_round 141 = .ok (.lload_n 1, 1) := by decide +kernel
theorem dd_M_round_142 : decode bb_M_round 142 = .ok (.bipush 6, 2) := by decide +kernel
theorem dd_M_round_144 : decode bb_M_round 144 = .ok (.iload 6, 2) := by decide +kernel
theorem dd_M_round_146 : decode bb_M_round 146 = .ok (.imul, 1) := by decide +kernel
theorem dd_M_round_147 : decode bb_M_round 147 = .ok (.lshr, 1) := by decide +kernel
theorem dd_M_round_148 : decode bb_M_round 148 = .ok (.l2i, 1) := by decide +kernel
theorem dd_M_round_149 : decode bb_M_round 149 = .ok (.bipush 63, 2) := by decide +kernel
theorem dd_M_round_151 : decode bb_M_round 151 = .ok (.iand, 1) := by decide +kernel
theorem dd_M_round_152 : decode bb_M_round 152 = .ok (.iastore, 1) := by decide +kernel
theorem dd_M_round_153 : decode bb_M_round 153 = .ok (.iinc 6 1, 3) := by decide +kernel
theorem dd_M_round_156 : decode bb_M_round 156 = .ok (.goto (-27), 3) := by decide +kernel
theorem dd_M_round_159 : decode bb_M_round 159 = .ok (.iconst 1, 1) := by decide +kernel
theorem dd_M_round_160 : decode bb_M_round 160 = .ok (.istore 6, 2) := by decide +kernel
theorem dd_M_round_162 : decode bb_M_round 162 = .ok (.iconst 0, 1) := by decide +kernel
theorem dd_M_round_163 : decode bb_M_round 163 = .ok (.istore 7, 2) := by decide +kernel
theorem dd_M_round_165 : decode bb_M_round 165 = .ok (.iload 7, 2) := by decide +kernel
theorem dd_M_round_167 : decode bb_M_round 167 = .ok (.iload_n 3, 1) := by decide +kernel
theorem dd_M_round_168 : decode bb_M_round 168 = .ok (.if_icmp .ge 16, 3) := by decide +kernel
theorem dd_M_round_171 : decode bb_M_round 171 = .ok (.bipush 6, 2) := by decide +kernel
theorem dd_M_round_173 : decode bb_M_round 173 = .ok (.iload 6, 2) := by decide +kernel
theorem dd_M_round_175 : decode bb_M_round 175 = .ok (.imul, 1) := by decide +kernel
theorem dd_M_round_176 : decode bb_M_round 176 = .ok (.istore 6, 2) := by decide +kernel
theorem dd_M_round_178 : decode bb_M_round 178 = .ok (.iinc 7 1, 3) := by decide +kernel
theorem dd_M_round_181 : decode bb_M_round 181 = .ok (.goto (-16), 3) := by decide +kernel
theorem dd_M_round_184 : decode bb_M_round 184 = .ok (.iconst (-1), 1) := by decide +kernel
theorem dd_M_round_185 : decode bb_M_round 185 = .ok (.istore 7, 2) := by decide +kernel
theorem dd_M_round_187 : decode bb_M_round 187 = .ok (.iconst 0, 1) := by decide +kernel
theorem dd_M_round_188 : decode bb_M_round 188 = .ok (.istore 8, 2) := by decide +kernel
theorem dd_M_round_190 : decode bb_M_round 190 = .ok (.iload 8, 2) := by decide +kernel
theorem dd_M_round_192 : decode bb_M_round 192 = .ok (.iload 6, 2) := by decide +kernel
theorem dd_M_round_194 : decode bb_M_round 194 = .ok (.if_icmp .ge 92, 3) := by decide +kernel
theorem dd_M_round_197 : decode bb_M_round 197 = .ok (.aload_n 0, 1) := by decide +kernel
theorem dd_M_round_198 : decode bb_M_round 198 = .ok (.iload_n 3, 1) := by decide +kernel
theorem dd_M_round_199 : decode bb_M_round 199 = .ok (.iload 8, 2) := by decide +kernel
theorem dd_M_round_201 : decode bb_M_round 201 = .ok (.invokevirtual 138, 3) := by decide +kernel
theorem dd_M_round_204 : decode bb_M_round 204 = .ok (.ifCond .ne 6, 3) := by decide +kernel
theorem dd_M_round_207 : decode bb_M_round 207 = .ok (.goto 73, 3) := by decide +kernel
theorem dd_M_round_210 : decode bb_M_round 210 = .ok (.aload_n 0, 1) := by decide +kernel
theorem dd_M_round_211 : decode bb_M_round 211 = .ok (.iload_n 3, 1) := by decide +kernel
theorem dd_M_round_212 : decode bb_M_round 212 = .ok (.invokevirtual 141, 3) := by decide +kernel
theorem dd_M_round_215 : decode bb_M_round 215 = .ok (.istore 9, 2) := by decide +kernel
theorem dd_M_round_217 : decode bb_M_round 217 = .ok (.iload 7, 2) := by decide +kernel
theorem dd_M_round_219 : decode bb_M_round 219 = .ok (.ifCond .lt 28, 3) := by decide +kernel
theorem dd_M_round_222 : decode bb_M_round 222 = .ok (.iload 9, 2) := by decide +kernel
theorem dd_M_round_224 : decode bb_M_round 224 = .ok (.iload 7, 2) := by decide +kernel
theorem dd_M_round_226 : decode bb_M_round 226 = .ok (.if_icmp .gt 54, 3) := by decide +kernel
theorem dd_M_round_229 : decode bb_M_round 229 = .ok (.iload 9, 2) := by decide +kernel
theorem dd_M_round_231 : decode bb_M_round 231 = .ok (.iload 7, 2) := by decide +kernel
theorem dd_M_round_233 : decode bb_M_round 233 = .ok (.if_icmp .ne 14, 3) := by decide +kernel
theorem dd_M_round_236 : decode bb_M_round 236 = .ok (.aload_n 0, 1) := by decide +kernel
theorem dd_M_round_237 : decode bb_M_round 237 = .ok (.iload_n 3, 1) := by decide +kernel
theorem dd_M_round_238 : decode bb_M_round 238 = .ok (.invokevirtual 144, 3) := by decide +kernel
theorem dd_M_round_241 : decode bb_M_round 241 = .ok (.ifCond .ne 6, 3) := by decide +kernel
theorem dd_M_round_244 : decode bb_M_round 244 = .ok (.goto 36, 3) := by decide +kernel
theorem dd_M_round_247 : decode bb_M_round 247 = .ok (.iload 9, 2) := by decide +kernel
theorem dd_M_round_249 : decode bb_M_round 249 = .ok (.istore 7, 2) := by decide +kernel
theorem dd_M_round_251 : decode bb_M_round 251 = .ok (.iconst 0, 1) := by decide +kernel
theorem dd_M_round_252 : decode bb_M_round 252 = .ok (.istore 10, 2) := by decide +kernel
theorem dd_M_round_254 : decode bb_M_round 254 = .ok (.iload 10, 2) := by decide +kernel
theorem dd_M_round_256 : decode bb_M_round 256 = .ok (.iload_n 3, 1) := by decide +kernel
theorem dd_M_round_257 : decode bb_M_round 257 = .ok (.if_icmp .ge 23, 3) := by decide +kernel
theorem dd_M_round_260 : decode bb_M_round 260 = .ok (.aload_n 0, 1) := by decide +kernel
theorem dd_M_round_261 : decode bb_M_round 261 = .ok (.getfield 62, 3) := by decide +kernel
theorem dd_M_round_264 : decode bb_M_round 264 = .ok (.iload 10, 2) := by decide +kernel
theorem dd_M_round_266 : decode bb_M_round 266 = .ok (.aload_n 0, 1) := by decide +kernel
theorem dd_M_round_267 : decode bb_M_round 267 = .ok (.getfield 59, 3) := by decide +kernel
theorem dd_M_round_270 : decode bb_M_round 270 = .ok (.iload 10, 2) := by decide +kernel
theorem dd_M_round_272 : decode bb_M_round 272 = .ok (.iaload, 1) := by decide +kernel
theorem dd_M_round_273 : decode bb_M_round 273 = .ok (.iastore, 1) := by decide +kernel
theorem dd_M_round_274 : decode bb_M_round 274 = .ok (.iinc 10 1, 3) := by decide +kernel
theorem dd_M_round_277 : decode bb_M_round 277 = .ok (.goto (-23), 3) := by decide +kernel
theorem dd_M_round_280 : decode bb_M_round 280 = .ok (.iinc 8 1, 3) := by decide +kernel
theorem dd_M_round_283 : decode bb_M_round 283 = .ok (.goto (-93), 3) := by decide +kernel
theorem dd_M_round_286 : decode bb_M_round 286 = .ok (.iload 7, 2) := by decide +kernel
theorem dd_M_round_288 : decode bb_M_round 288 = .ok (.ireturn, 1) := by decide +kernel
theorem dd_M_stop_0 : decode bb_M_stop 0 = .ok (.aload_n 0, 1) := by decide +kernel
theorem dd_M_stop_1 : decode bb_M_stop 1 = .ok (.iload_n 1, 1) := by decide +kernel
theorem dd_M_stop_2 : decode bb_M_stop 2 = .ok (.ifCond .lt 7, 3) := by decide +kernel
theorem dd_M_stop_5 : decode bb_M_stop 5 = .ok (.iconst 1, 1) := by decide +kernel
theorem dd_M_stop_6 : decode bb_M_stop 6 = .ok (.goto 4, 3) := by decide +kernel
theorem dd_M_stop_9 : decode bb_M_stop 9 = .ok (.iconst 0, 1) := by decide +kernel
theorem dd_M_stop_10 : decode bb_M_stop 10 = .ok (.iconst 1, 1) := by decide +kernel
theorem dd_M_stop_11 : decode bb_M_stop 11 = .ok (.iconst 1, 1) := by decide +kernel
theorem dd_M_stop_12 : decode bb_M_stop 12 = .ok (.iconst 1, 1) := by decide +kernel
theorem dd_M_stop_13 : decode bb_M_stop 13 = .ok (.invokevirtual 83, 3) := by decide +kernel
theorem dd_M_stop_16 : decode bb_M_stop 16 = .ok (.ifCond .ne 5, 3) := by decide +kernel
theorem dd_M_stop_19 : decode bb_M_stop 19 = .ok (.iconst 0, 1) := by decide +kernel
theorem dd_M_stop_20 : decode bb_M_stop 20 = .ok (.ireturn, 1) := by decide +kernel
theorem dd_M_stop_21 : decode bb_M_stop 21 = .ok (.iload_n 1, 1) := by decide +kernel
theorem dd_M_stop_22 : decode bb_M_stop 22 = .ok (.aload_n 0, 1) := by decide +kernel
theorem dd_M_stop_23 : decode bb_M_stop 23 = .ok (.getfield 135, 3) := by decide +kernel
theorem dd_M_stop_26 : decode bb_M_stop 26 = .ok (.if_icmp .ge 12, 3) := by decide +kernel
theorem dd_M_stop_29 : decode bb_M_stop 29 = .ok (.aload_n 0, 1) := by decide +kernel
theorem dd_M_stop_30 : decode bb_M_stop 30 = .ok (.getfield 62, 3) := by decide +kernel
theorem dd_M_stop_33 : decode bb_M_stop 33 = .ok (.iload_n 1, 1) := by decide +kernel
theorem dd_M_stop_34 : decode bb_M_stop 34 = .ok (.iaload, 1) := by decide +kernel
theorem dd_M_stop_35 : decode bb_M_stop 35 = .ok (.goto 4, 3) := by decide +kernel
theorem dd_M_stop_38 : decode bb_M_stop 38 = .ok (.iconst (-1), 1) := by decide +kernel
theorem dd_M_stop_39 : decode bb_M_stop 39 = .ok (.ireturn, 1) := by decide +kernel
theorem dd_M_late_0 : decode bb_M_late 0 = .ok (.aload_n 0, 1) := by decide +kernel
theorem dd_M_late_1 : decode bb_M_late 1 = .ok (.iload_n 1, 1) := by decide +kernel
theorem dd_M_late_2 : decode bb_M_late 2 = .ok (.invokevirtual 107, 3) := by decide +kernel
theorem dd_M_late_5 : decode bb_M_late 5 = .ok (.istore 4, 2) := by decide +kernel
theorem dd_M_late_7 : decode bb_M_late 7 = .ok (.iload 4, 2) := by decide +kernel
theorem dd_M_late_9 : decode bb_M_late 9 = .ok (.ifCond .ge 5, 3) := by decide +kernel
theorem dd_M_late_12 : decode bb_M_late 12 = .ok (.iconst 0, 1) := by decide +kernel
theorem dd_M_late_13 : decode bb_M_late 13 = .ok (.ireturn, 1) := by decide +kernel
theorem dd_M_late_14 : decode bb_M_late 14 = .ok (.iload_n 2, 1) := by decide +kernel
theorem dd_M_late_15 : decode bb_M_late 15 = .ok (.aload_n 0, 1) := by decide +kernel
theorem dd_M_late_16 : decode bb_M_late 16 = .ok (.getfield 44, 3) := by decide +kernel
theorem dd_M_late_19 : decode bb_M_late 19 = .ok (.iload 4, 2) := by decide +kernel
theorem dd_M_late_21 : decode bb_M_late 21 = .ok (.iaload, 1) := by decide +kernel
theorem dd_M_late_22 : decode bb_M_late 22 = .ok (.isub, 1) := by decide +kernel
theorem dd_M_late_23 : decode bb_M_late 23 = .ok (.iload_n 3, 1) := by decide +kernel
theorem dd_M_late_24 : decode bb_M_late 24 = .ok (.if_icmp .le 15, 3) := by decide +kernel
theorem dd_M_late_27 : decode bb_M_late 27 = .ok (.iconst 1, 1) := by decide +kernel
theorem dd_M_late_28 : decode bb_M_late 28 = .ok (.aload_n 0, 1) := by decide +kernel
theorem dd_M_late_29 : decode bb_M_late 29 = .ok (.getfield 44, 3) := by decide +kernel
theorem dd_M_late_32 : decode bb_M_late 32 = .ok (.iload 4, 2) := by decide +kernel
theorem dd_M_late_34 : decode bb_M_late 34 = .ok (.iaload, 1) := by decide +kernel
theorem dd_M_late_35 : decode bb_M_late 35 = .ok (.iadd, 1) := by decide +kernel
theorem dd_M_late_36 : decode bb_M_late 36 = .ok (.goto 4, 3) := by decide +kernel
theorem dd_M_late_39 : decode bb_M_late 39 = .ok (.iconst (-1), 1) := by decide +kernel
theorem dd_M_late_40 : decode bb_M_late 40 = .ok (.ireturn, 1) := by decide +kernel
theorem dd_M_overdue_0 : decode bb_M_overdue 0 = .ok (.aload_n 0, 1) := by decide +kernel
theorem dd_M_overdue_1 : decode bb_M_overdue 1 = .ok (.iload_n 1, 1) := by decide +kernel
theorem dd_M_overdue_2 : decode bb_M_overdue 2 = .ok (.invokestatic 98, 3) := by decide +kernel
theorem dd_M_overdue_5 : decode bb_M_overdue 5 = .ok (.ifCond .eq 22, 3) := by decide +kernel
theorem dd_M_overdue_8 : decode bb_M_overdue 8 = .ok (.iload_n 2, 1) := by decide +kernel
theorem dd_M_overdue_9 : decode bb_M_overdue 9 = .ok (.iconst 0, 1) := by decide +kernel
theorem dd_M_overdue_10 : decode bb_M_overdue 10 = .ok (.sipush 9999, 3) := by decide +kernel
theorem dd_M_overdue_13 : decode bb_M_overdue 13 = .ok (.invokestatic 72, 3) := by decide +kernel
theorem dd_M_overdue_16 : decode bb_M_overdue 16 = .ok (.ifCond .eq 11, 3) := by decide +kernel
theorem dd_M_overdue_19 : decode bb_M_overdue 19 = .ok (.iload_n 3, 1) := by decide +kernel
theorem dd_M_overdue_20 : decode bb_M_overdue 20 = .ok (.ifCond .lt 7, 3) := by decide +kernel
theorem dd_M_overdue_23 : decode bb_M_overdue 23 = .ok (.iconst 1, 1) := by decide +kernel
theorem dd_M_overdue_24 : decode bb_M_overdue 24 = .ok (.goto 4, 3) := by decide +kernel
theorem dd_M_overdue_27 : decode bb_M_overdue 27 = .ok (.iconst 0, 1) := by decide +kernel
theorem dd_M_overdue_28 : decode bb_M_overdue 28 = .ok (.iconst 1, 1) := by decide +kernel
theorem dd_M_overdue_29 : decode bb_M_overdue 29 = .ok (.iconst 1, 1) := by decide +kernel
theorem dd_M_overdue_30 : decode bb_M_overdue 30 = .ok (.iconst 1, 1) := by decide +kernel
theorem dd_M_overdue_31 : decode bb_M_overdue 31 = .ok (.invokevirtual 83, 3) := by decide +kernel
theorem dd_M_overdue_34 : decode bb_M_overdue 34 = .ok (.ifCond .ne 5, 3) := by decide +kernel
theorem dd_M_overdue_37 : decode bb_M_overdue 37 = .ok (.iconst 0, 1) := by decide +kernel
theorem dd_M_overdue_38 : decode bb_M_overdue 38 = .ok (.ireturn, 1) := by decide +kernel
theorem dd_M_overdue_39 : decode bb_M_overdue 39 = .ok (.iconst (-1), 1) := by decide +kernel
theorem dd_M_overdue_40 : decode bb_M_overdue 40 = .ok (.istore 4, 2) := by decide +kernel
theorem dd_M_overdue_42 : decode bb_M_overdue 42 = .ok (.iconst 0, 1) := by decide +kernel
theorem dd_M_overdue_43 : decode bb_M_overdue 43 = .ok (.istore 5, 2) := by decide +kernel
theorem dd_M_overdue_45 : decode bb_M_overdue 45 = .ok (.iload 5, 2) := by decide +kernel
theorem dd_M_overdue_47 : decode bb_M_overdue 47 = .ok (.iload_n 3, 1) := by decide +kernel
theorem dd_M_overdue_48 : decode bb_M_overdue 48 = .ok (.if_icmp .gt 131, 3) := by decide +kernel
theorem dd_M_overdue_51 : decode bb_M_overdue 51 = .ok (.iconst (-1), 1) := by decide +kernel
theorem dd_M_overdue_52 : decode bb_M_overdue 52 = .ok (.istore 6, 2) := by decide +kernel
theorem dd_M_overdue_54 : decode bb_M_overdue 54 = .ok (.iconst 0, 1) := by decide +kernel
theorem dd_M_overdue_55 : decode bb_M_overdue 55 = .ok (.istore 7, 2) := by decide +kernel
theorem dd_M_overdue_57 : decode bb_M_overdue 57 = .ok (.iload 7, 2) := by decide +kernel
theorem dd_M_overdue_59 : decode bb_M_overdue 59 = .ok (.aload_n 0, 1) := by decide +kernel
theorem dd_M_overdue_60 : decode bb_M_overdue 60 = .ok (.getfield 69, 3) := by decide +kernel
theorem dd_M_overdue_63 : decode bb_M_overdue 63 = .ok (.if_icmp .ge 99, 3) := by decide +kernel
theorem dd_M_overdue_66 : decode bb_M_overdue 66 = .ok (.aload_n 0, 1) := by decide +kernel
theorem dd_M_overdue_67 : decode bb_M_overdue 67 = .ok (.iload 7, 2) := by decide +kernel
theorem dd_M_overdue_69 : decode bb_M_overdue 69 = .ok (.iload_n 1, 1) := by decide +kernel
theorem dd_M_overdue_70 : decode bb_M_overdue 70 = .ok (.iload_n 2, 1) := by decide +kernel
theorem dd_M_overdue_71 : decode bb_M_overdue 71 = .ok (.invokevirtual 147, 3) := by decide +kernel
theorem dd_M_overdue_74 : decode bb_M_overdue 74 = .ok (.istore 8, 2) := by decide +kernel
theorem dd_M_overdue_76 : decode bb_M_overdue 76 = .ok (.iload 8, 2) := by decide +kernel
theorem dd_M_overdue_78 : decode bb_M_overdue 78 = .ok (.ifCond .ge 6, 3) := by decide +kernel
theorem dd_M_overdue_81 : decode bb_M_overdue 81 = .ok (.goto 75, 3) := by decide +kernel
theorem dd_M_overdue_84 : decode bb_M_overdue 84 = .ok (.iload 4, 2) := by decide +kernel
theorem dd_M_overdue_86 : decode bb_M_overdue 86 = .ok (.ifCond .lt 36, 3) := by decide +kernel
theorem dd_M_overdue_89 : decode bb_M_overdue 89 = .ok (.iload 8, 2) := by decide +kernel
theorem dd_M_overdue_91 : decode bb_M_overdue 91 = .ok (.aload_n 0, 1) := by decide +kernel
theorem dd_M_overdue_92 : decode bb_M_overdue 92 = .ok (.iload 4, 2) := by decide +kernel
theorem dd_M_overdue_94 : decode bb_M_overdue 94 = .ok (.iload_n 1, 1) := by decide +kernel
theorem dd_M_overdue_95 : decode bb_M_overdue 95 = .ok (.iload_n 2, 1) := by decide +kernel
theorem dd_M_overdue_96 : decode bb_M_overdue 96 = .ok (.invokevirtual 147, 3) := by decide +kernel
theorem dd_M_overdue_99 : decode bb_M_overdue 99 = .ok (.if_icmp .gt 23, 3) := by decide +kernel
theorem dd_M_overdue_102 : decode bb_M_overdue 102 = .ok (.iload 8, 2) := by decide +kernel
theorem dd_M_overdue_104 : decode bb_M_overdue 104 = .ok (.aload_n 0, 1) := by decide +kernel
theorem dd_M_overdue_105 : decode bb_M_overdue 105 = .ok (.iload 4, 2) := by decide +kernel
theorem dd_M_overdue_107 : decode bb_M_overdue 107 = .ok (.iload_n 1, 1) := by decide +kernel
theorem dd_M_overdue_108 : decode bb_M_overdue 108 = .ok (.iload_n 2, 1) := by decide +kernel
theorem dd_M_overdue_109 : decode bb_M_overdue 109 = .ok (.invokevirtual 147, 3) := by decide +kernel
theorem dd_M_overdue_112 : decode bb_M_overdue 112 = .ok (.if_icmp .ne 14, 3) := by decide +kernel
theorem dd_M_overdue_115 : decode bb_M_overdue 115 = .ok (.iload 7, 2) := by decide +kernel
theorem dd_M_overdue_117 : decode bb_M_overdue 117 = .ok (.iload 4, 2) := by decide +kernel
theorem dd_M_overdue_119 : decode bb_M_overdue 119 = .ok (.if_icmp .le 7, 3) := by decide +kernel
theorem dd_M_overdue_122 : decode bb_M_overdue 122 = .ok (.iconst 1, 1) := by decide +kernel
theorem dd_M_overdue_123 : decode bb_M_overdue 123 = .ok (.goto 4, 3) := by decide +kernel
theorem dd_M_overdue_126 : decode bb_M_overdue 126 = .ok (.iconst 0, 1) := by decide +kernel
theorem dd_M_overdue_127 : decode bb_M_overdue 127 = .ok (.istore 9, 2) := by decide +kernel
theorem dd_M_overdue_129 : decode bb_M_overdue 129 = .ok (.iload 9, 2) := by decide +kernel
theorem dd_M_overdue_131 : decode bb_M_overdue 131 = .ok (.ifCond .eq 25, 3) := by decide +kernel
theorem dd_M_overdue_134 : decode bb_M_overdue 134 = .ok (.iload 6, 2) := by decide +kernel
theorem dd_M_overdue_136 : decode bb_M_overdue 136 = .ok (.ifCond .lt 16, 3) := by decide +kernel
theorem dd_M_overdue_139 : decode bb_M_overdue 139 = .ok (.iload 8, 2) := by decide +kernel
theorem dd_M_overdue_141 : decode bb_M_overdue 141 = .ok (.aload_n 0, 1) := by decide +kernel
theorem dd_M_overdue_142 : decode bb_M_overdue 142 = .ok (.iload 6, 2) := by decide +kernel
theorem dd_M_overdue_144 : decode bb_M_overdue 144 = .ok (.iload_n 1, 1) := by decide +kernel
theorem dd_M_overdue_145 : decode bb_M_overdue 145 = .ok (.iload_n 2, 1) := by decide +kernel
theorem dd_M_overdue_146 : decode bb_M_overdue 146 = .ok (.invokevirtual 147, 3) := by decide +kernel
theorem dd_M_overdue_149 : decode bb_M_overdue 149 = .ok (.if_icmp .ge 7, 3) := by decide +kernel
theorem dd_M_overdue_152 : decode bb_M_overdue 152 = .ok (.iload 7, 2) := by decide +kernel
theorem dd_M_overdue_154 : decode bb_M_overdue 154 = .ok (.istore 6, 2) := by decide +kernel
theorem dd_M_overdue_156 : decode bb_M_overdue 156 = .ok (.iinc 7 1, 3) := by decide +kernel
theorem dd_M_overdue_159 : decode bb_M_overdue 159 = .ok (.goto (-102), 3) := by decide +kernel
theorem dd_M_overdue_162 : decode bb_M_overdue 162 = .ok (.iload 6, 2) := by decide +kernel
theorem dd_M_overdue_164 : decode bb_M_overdue 164 = .ok (.ifCond .ge 5, 3) := by decide +kernel
theorem dd_M_overdue_167 : decode bb_M_overdue 167 = .ok (.iconst (-1), 1) := by decide +kernel
theorem dd_M_overdue_168 : decode bb_M_overdue 168 = .ok (.ireturn, 1) := by decide +kernel
theorem dd_M_overdue_169 : decode bb_M_overdue 169 = .ok (.iload 6, 2) := by decide +kernel
theorem dd_M_overdue_171 : decode bb_M_overdue 171 = .ok (.istore 4, 2) := by decide +kernel
theorem dd_M_overdue_173 : decode bb_M_overdue 173 = .ok (.iinc 5 1, 3) := by decide +kernel
theorem dd_M_overdue_176 : decode bb_M_overdue 176 = .ok (.goto (-131), 3) := by decide +kernel
theorem dd_M_overdue_179 : decode bb_M_overdue 179 = .ok (.iload 4, 2) := by decide +kernel
theorem dd_M_overdue_181 : decode bb_M_overdue 181 = .ok (.ireturn, 1) := by decide +kernel
theorem dd_M_testAt_0 : decode bb_M_testAt 0 = .ok (.aload_n 0, 1) := by decide +kernel
theorem dd_M_testAt_1 : decode bb_M_testAt 1 = .ok (.iload_n 1, 1) := by decide +kernel
theorem dd_M_testAt_2 : decode bb_M_testAt 2 = .ok (.iconst 0, 1) := by decide +kernel
theorem dd_M_testAt_3 : decode bb_M_testAt 3 = .ok (.aload_n 0, 1) := by decide +kernel
theorem dd_M_testAt_4 : decode bb_M_testAt 4 = .ok (.getfield 104, 3) := by decide +kernel
theorem dd_M_testAt_7 : decode bb_M_testAt 7 = .ok (.iconst 1, 1) := by decide +kernel
theorem dd_M_testAt_8 : decode bb_M_testAt 8 = .ok (.isub, 1) := by decide +kernel
theorem dd_M_testAt_9 : decode bb_M_testAt 9 = .ok (.invokestatic 72, 3) := by decide +kernel
theorem dd_M_testAt_12 : decode bb_M_testAt 12 = .ok (.ifCond .eq 16, 3) := by decide +kernel
theorem dd_M_testAt_15 : decode bb_M_testAt 15 = .ok (.iload_n 2, 1) := by decide +kernel
theorem dd_M_testAt_16 : decode bb_M_testAt 16 = .ok (.iconst 0, 1) := by decide +kernel
theorem dd_M_testAt_17 : decode bb_M_testAt 17 = .ok (.iconst 4, 1) := by decide +kernel
theorem dd_M_testAt_18 : decode bb_M_testAt 18 = .ok (.invokestatic 72, 3) := by decide +kernel
theorem dd_M_testAt_21 : decode bb_M_testAt 21 = .ok (.ifCond .eq 7, 3) := by decide +kernel
theorem dd_M_testAt_24 : decode bb_M_testAt 24 = .ok (.iconst 1, 1) := by decide +kernel
theorem dd_M_testAt_25 : decode bb_M_testAt 25 = .ok (.goto 4, 3) := by decide +kernel
theorem dd_M_testAt_28 : decode bb_M_testAt 28 = .ok (.iconst 0, 1) := by decide +kernel
theorem dd_M_testAt_29 : decode bb_M_testAt 29 = .ok (.iconst 1, 1) := by decide +kernel
theorem dd_M_testAt_30 : decode bb_M_testAt 30 = .ok (.iconst 1, 1) := by decide +kernel
theorem dd_M_testAt_31 : decode bb_M_testAt 31 = .ok (.iconst 1, 1) := by decide +kernel
theorem dd_M_testAt_32 : decode bb_M_testAt 32 = .ok (.invokevirtual 83, 3) := by decide +kernel
theorem dd_M_testAt_35 : decode bb_M_testAt 35 = .ok (.ifCond .ne 5, 3) := by decide +kernel
theorem dd_M_testAt_38 : decode bb_M_testAt 38 = .ok (.iconst 0, 1) := by decide +kernel
theorem dd_M_testAt_39 : decode bb_M_testAt 39 = .ok (.ireturn, 1) := by decide +kernel
theorem dd_M_testAt_40 : decode bb_M_testAt 40 = .ok (.iload_n 2, 1) := by decide +kernel
theorem dd_M_testAt_41 : decode bb_M_testAt 41 = .ok (.ifCond .ne 12, 3) := by decide +kernel
theorem dd_M_testAt_44 : decode bb_M_testAt 44 = .ok (.aload_n 0, 1) := by decide +kernel
theorem dd_M_testAt_45 : decode bb_M_testAt 45 = .ok (.getfield 41, 3) := by decide +kernel
theorem dd_M_testAt_48 : decode bb_M_testAt 48 = .ok (.iload_n 1, 1) := by decide +kernel
theorem dd_M_testAt_49 : decode bb_M_testAt 49 = .ok (.iaload, 1) := by decide +kernel
theorem dd_M_testAt_50 : decode bb_M_testAt 50 = .ok (.goto 51, 3) := by decide +kernel
theorem dd_M_testAt_53 : decode bb_M_testAt 53 = .ok (.iload_n 2, 1) := by decide +kernel
theorem dd_M_testAt_54 : decode bb_M_testAt 54 = .ok (.iconst 1, 1) := by decide +kernel
theorem dd_M_testAt_55 : decode bb_M_testAt 55 = .ok (.if_icmp .ne 12, 3) := by decide +kernel
theorem dd_M_testAt_58 : decode bb_M_testAt 58 = .ok (.aload_n 0, 1) := by decide +kernel
theorem dd_M_testAt_59 : decode bb_M_testAt 59 = .ok (.getfield 44, 3) := by decide +kernel
theorem dd_M_testAt_62 : decode bb_M_testAt 62 = .ok (.iload_n 1, 1) := by decide +kernel
theorem dd_M_testAt_63 : decode bb_M_testAt 63 = .ok (.iaload, 1) := by decide +kernel
theorem dd_M_testAt_64 : decode bb_M_testAt 64 = .ok (.goto 37, 3) := by decide +kernel
theorem dd_M_testAt_67 : decode bb_M_testAt 67 = .ok (.iload_n 2, 1) := by decide +kernel
theorem dd_M_testAt_68 : decode bb_M_testAt 68 = .ok (.iconst 2, 1) := by decide +kernel
theorem dd_M_testAt_69 : decode bb_M_testAt 69 = .ok (.if_icmp .ne 12, 3) := by decide +kernel
theorem dd_M_testAt_72 : decode bb_M_testAt 72 = .ok (.aload_n 0, 1) := by decide +kernel
theorem dd_M_testAt_73 : decode bb_M_testAt 73 = .ok (.getfield 47, 3) := by decide +kernel
theorem dd_M_testAt_76 : decode bb_M_testAt 76 = .ok (.iload_n 1, 1) := by decide +kernel
theorem dd_M_testAt_77 : decode bb_M_testAt 77 = .ok (.iaload, 1) := by decide +kernel
theorem dd_M_testAt_78 : decode bb_M_testAt 78 = .ok (.goto 23, 3) := by decide +kernel
theorem dd_M_testAt_81 : decode bb_M_testAt 81 = .ok (.iload_n 2, 1) := by decide +kernel
theorem dd_M_testAt_82 : decode bb_M_testAt 82 = .ok (.iconst 3, 1) := by decide +kernel
theorem dd_M_testAt_83 : decode bb_M_testAt 83 = .ok (.if_icmp .ne 12, 3) := by decide +kernel
theorem dd_M_testAt_86 : decode bb_M_testAt 86 = .ok (.aload_n 0, 1) := by decide +kernel
theorem dd_M_testAt_87 : decode bb_M_testAt 87 = .ok (.getfield 50, 3) := by decide +kernel
theorem dd_M_testAt_90 : decode bb_M_testAt 90 = .ok (.iload_n 1, 1) := by decide +kernel
theorem dd_M_testAt_91 : decode bb_M_testAt 91 = .ok (.iaload, 1) := by decide +kernel
theorem dd_M_testAt_92 : decode bb_M_testAt 92 = .ok (.goto 9, 3) := by decide +kernel
theorem dd_M_testAt_95 : decode bb_M_testAt 95 = .ok (.aload_n 0, 1) := by decide +kernel
theorem dd_M_testAt_96 : decode bb_M_testAt 96 = .ok (.getfield 53, 3) := by decide +kernel
theorem dd_M_testAt_99 : decode bb_M_testAt 99 = .ok (.iload_n 1, 1) := by decide +kernel
theorem dd_M_testAt_100 : decode bb_M_testAt 100 = .ok (.iaload, 1) := by decide +kernel
theorem dd_M_testAt_101 : decode bb_M_testAt 101 = .ok (.ireturn, 1) := by decide +kernel
theorem dd_M_hydrantAt_0 : decode bb_M_hydrantAt 0 = .ok (.aload_n 0, 1) := by decide +kernel
theorem dd_M_hydrantAt_1 : decode bb_M_hydrantAt 1 = .ok (.aload_n 0, 1) := by decide +kernel
theorem dd_M_hydrantAt_2 : decode bb_M_hydrantAt 2 = .ok (.iload_n 1, 1) := by decide +kernel
theorem dd_M_hydrantAt_3 : decode bb_M_hydrantAt 3 = .ok (.invokevirtual 95, 3) := by decide +kernel
theorem dd_M_hydrantAt_6 : decode bb_M_hydrantAt 6 = .ok (.ifCond .eq 16, 3) := by decide +kernel
theorem dd_M_hydrantAt_9 : decode bb_M_hydrantAt 9 = .ok (.iload_n 2, 1) := by decide +kernel
theorem dd_M_hydrantAt_10 : decode bb_M_hydrantAt 10 = .ok (.iconst 0, 1) := by decide +kernel
theorem dd_M_hydrantAt_11 : decode bb_M_hydrantAt 11 = .ok (.iconst 5, 1) := by decide +kernel
theorem dd_M_hydrantAt_12 : decode bb_M_hydrantAt 12 = .ok (.invokestatic 72, 3) := by decide +kernel
theorem dd_M_hydrantAt_15 : decode bb_M_hydrantAt 15 = .ok (.ifCond .eq 7, 3) := by decide +kernel
theorem dd_M_hydrantAt_18 : decode bb_M_hydrantAt 18 = .ok (.iconst 1, 1) := by decide +kernel
theorem dd_M_hydrantAt_19 : decode bb_M_hydrantAt 19 = .ok (.goto 4, 3) := by decide +kernel
theorem dd_M_hydrantAt_22 : decode bb_M_hydrantAt 22 = .ok (.iconst 0, 1) := by decide +kernel
theorem dd_M_hydrantAt_23 : decode bb_M_hydrantAt 23 = .ok (.iconst 1, 1) := by decide +kernel
theorem dd_M_hydrantAt_24 : decode bb_M_hydrantAt 24 = .ok (.iconst 1, 1) := by decide +kernel
theorem dd_M_hydrantAt_25 : decode bb_M_hydrantAt 25 = .ok (.iconst 1, 1) := by decide +kernel
theorem dd_M_hydrantAt_26 : decode bb_M_hydrantAt 26 = .ok (.invokevirtual 83, 3) := by decide +kernel
theorem dd_M_hydrantAt_29 : decode bb_M_hydrantAt 29 = .ok (.ifCond .ne 5, 3) := by decide +kernel
theorem dd_M_hydrantAt_32 : decode bb_M_hydrantAt 32 = .ok (.iconst 0, 1) := by decide +kernel
theorem dd_M_hydrantAt_33 : decode bb_M_hydrantAt 33 = .ok (.ireturn, 1) := by decide +kernel
theorem dd_M_hydrantAt_34 : decode bb_M_hydrantAt 34 = .ok (.iconst 0, 1) := by decide +kernel
theorem dd_M_hydrantAt_35 : decode bb_M_hydrantAt 35 = .ok (.istore_n 3, 1) := by decide +kernel
theorem dd_M_hydrantAt_36 : decode bb_M_hydrantAt 36 = .ok (.iconst 0, 1) := by decide +kernel
theorem dd_M_hydrantAt_37 : decode bb_M_hydrantAt 37 = .ok (.istore 4, 2) := by decide +kernel
theorem dd_M_hydrantAt_39 : decode bb_M_hydrantAt 39 = .ok (.iload 4, 2) := by decide +kernel
theorem dd_M_hydrantAt_41 : decode bb_M_hydrantAt 41 = .ok (.aload_n 0, 1) := by decide +kernel
theorem dd_M_hydrantAt_42 : decode bb_M_hydrantAt 42 = .ok (.getfield 104, 3) := by decide +kernel
theorem dd_M_hydrantAt_45 : decode bb_M_hydrantAt 45 = .ok (.if_icmp .ge 23, 3) := by decide +kernel
theorem dd_M_hydrantAt_48 : decode bb_M_hydrantAt 48 = .ok (.aload_n 0, 1) := by decide +kernel
theorem dd_M_hydrantAt_49 : decode bb_M_hydrantAt 49 = .ok (.getfield 41, 3) := by decide +kernel
theorem dd_M_hydrantAt_52 : decode bb_M_hydrantAt 52 = .ok (.iload 4, 2) := by decide +kernel
theorem dd_M_hydrantAt_54 : decode bb_M_hydrantAt 54 = .ok (.iaload, 1) := by decide +kernel
theorem dd_M_hydrantAt_55 : decode bb_M_hydrantAt 55 = .ok (.iload_n 1, 1) := by decide +kernel
theorem dd_M_hydrantAt_56 : decode bb_M_hydrantAt 56 = .ok (.if_icmp .ne 6, 3) := by decide +kernel
theorem dd_M_hydrantAt_59 : decode bb_M_hydrantAt 59 = .ok (.iinc 3 1, 3) := by decide +kernel
theorem dd_M_hydrantAt_62 : decode bb_M_hydrantAt 62 = .ok (.iinc 4 1, 3) := by decide +kernel
theorem dd_M_hydrantAt_65 : decode bb_M_hydrantAt 65 = .ok (.goto (-26), 3) := by decide +kernel
theorem dd_M_hydrantAt_68 : decode bb_M_hydrantAt 68 = .ok (.iload_n 2, 1) := by decide +kernel
theorem dd_M_hydrantAt_69 : decode bb_M_hydrantAt 69 = .ok (.ifCond .ne 12, 3) := by decide +kernel
theorem dd_M_hydrantAt_72 : decode bb_M_hydrantAt 72 = .ok (.aload_n 0, 1) := by decide +kernel
theorem dd_M_hydrantAt_73 : decode bb_M_hydrantAt 73 = .ok (.getfield 16, 3) := by decide +kernel
theorem dd_M_hydrantAt_76 : decode bb_M_hydrantAt 76 = .ok (.iload_n 1, 1) := by decide +kernel
theorem dd_M_hydrantAt_77 : decode bb_M_hydrantAt 77 = .ok (.iaload, 1) := by decide +kernel
theorem dd_M_hydrantAt_78 : decode bb_M_hydrantAt 78 = .ok (.goto 59, 3) := by decide +kernel
theorem dd_M_hydrantAt_81 : decode bb_M_hydrantAt 81 = .ok (.iload_n 2, 1) := by decide +kernel
theorem dd_M_hydrantAt_82 : decode bb_M_hydrantAt 82 = .ok (.iconst 1, 1) := by decide +kernel
theorem dd_M_hydrantAt_83 : decode bb_M_hydrantAt 83 = .ok (.if_icmp .ne 12, 3) := by decide +kernel
theorem dd_M_hydrantAt_86 : decode bb_M_hydrantAt 86 = .ok (.aload_n 0, 1) := by decide +kernel
theorem dd_M_hydrantAt_87 : decode bb_M_hydrantAt 87 = .ok (.getfield 19, 3) := by decide +kernel
theorem dd_M_hydrantAt_90 : decode bb_M_hydrantAt 90 = .ok (.iload_n 1, 1) := by decide +kernel
theorem dd_M_hydrantAt_91 : decode bb_M_hydrantAt 91 = .ok (.iaload, 1) := by decide +kernel
theorem dd_M_hydrantAt_92 : decode bb_M_hydrantAt 92 = .ok (.goto 45, 3) := by decide +kernel
theorem dd_M_hydrantAt_95 : decode bb_M_hydrantAt 95 = .ok (.iload_n 2, 1) := by decide +kernel
theorem dd_M_hydrantAt_96 : decode bb_M_hydrantAt 96 = .ok (.iconst 2, 1) := by decide +kernel
theorem dd_M_hydrantAt_97 : decode bb_M_hydrantAt 97 = .ok (.if_icmp .ne 12, 3) := by decide +kernel
theorem dd_M_hydrantAt_100 : decode bb_M_hydrantAt 100 = .ok (.aload_n 0, 1) := by decide +kernel
theorem dd_M_hydrantAt_101 : decode bb_M_hydrantAt 101 = .ok (.getfield 22, 3) := by decide +kernel
theorem dd_M_hydrantAt_104 : decode bb_M_hydrantAt 104 = .ok (.iload_n 1, 1) := by decide +kernel
theorem dd_M_hydrantAt_105 : decode bb_M_hydrantAt 105 = .ok (.iaload, 1) := by decide +kernel
theorem dd_M_hydrantAt_106 : decode bb_M_hydrantAt 106 = .ok (.goto 31, 3) := by decide +kernel
theorem dd_M_hydrantAt_109 : decode bb_M_hydrantAt 109 = .ok (.iload_n 2, 1) := by decide +kernel
theorem dd_M_hydrantAt_110 : decode bb_M_hydrantAt 110 = .ok (.iconst 3, 1) := by decide +kernel
theorem dd_M_hydrantAt_111 : decode bb_M_hydrantAt 111 = .ok (.if_icmp .ne 11, 3) := by decide +kernel
theorem dd_M_hydrantAt_114 : decode bb_M_hydrantAt 114 = .ok (.aload_n 0, 1) := by decide +kernel
theorem dd_M_hydrantAt_115 : decode bb_M_hydrantAt 115 = .ok (.iload_n 1, 1) := by decide +kernel
theorem dd_M_hydrantAt_116 : decode bb_M_hydrantAt 116 = .ok (.invokevirtual 107, 3) := by decide +kernel
theorem dd_M_hydrantAt_119 : decode bb_M_hydrantAt 119 = .ok (.goto 18, 3) := by decide +kernel
theorem dd_M_hydrantAt_122 : decode bb_M_hydrantAt 122 = .ok (.iload_n 2, 1) := by decide +kernel
theorem dd_M_hydrantAt_123 : decode bb_M_hydrantAt 123 = .ok (.iconst 4, 1) := by decide +kernel
theorem dd_M_hydrantAt_124 : decode bb_M_hydrantAt 124 = .ok (.if_icmp .ne 7, 3) := by decide +kernel
theorem dd_M_hydrantAt_127 : decode bb_M_hydrantAt 127 = .ok (.iload_n 3, 1) := by decide +kernel
theorem dd_M_hydrantAt_128 : decode bb_M_hydrantAt 128 = .ok (.goto 9, 3) := by decide +kernel
theorem dd_M_hydrantAt_131 : decode bb_M_hydrantAt 131 = .ok (.aload_n 0, 1) := by decide +kernel
theorem dd_M_hydrantAt_132 : decode bb_M_hydrantAt 132 = .ok (.getfield 25, 3) := by decide +kernel
theorem dd_M_hydrantAt_135 : decode bb_M_hydrantAt 135 = .ok (.iload_n 1, 1) := by decide +kernel
theorem dd_M_hydrantAt_136 : decode bb_M_hydrantAt 136 = .ok (.iaload, 1) := by decide +kernel
theorem dd_M_hydrantAt_137 : decode bb_M_hydrantAt 137 = .ok (.ireturn, 1) := by decide +kernel
theorem dd_L_hydrant_0 : decode bb_L_hydrant 0 = .ok (.aload 5, 2) := by decide +kernel
theorem dd_L_hydrant_2 : decode bb_L_hydrant 2 = .ok (.iconst 0, 1) := by decide +kernel
theorem dd_L_hydrant_3 : decode bb_L_hydrant 3 = .ok (.aload_n 0, 1) := by decide +kernel
theorem dd_L_hydrant_4 : decode bb_L_hydrant 4 = .ok (.iload_n 1, 1) := by decide +kernel
theorem dd_L_hydrant_5 : decode bb_L_hydrant 5 = .ok (.iload_n 2, 1) := by decide +kernel
theorem dd_L_hydrant_6 : decode bb_L_hydrant 6 = .ok (.iload_n 3, 1) := by decide +kernel
theorem dd_L_hydrant_7 : decode bb_L_hydrant 7 = .ok (.iload 4, 2) := by decide +kernel
theorem dd_L_hydrant_9 : decode bb_L_hydrant 9 = .ok (.invokevirtual 7, 3) := by decide +kernel
theorem dd_L_hydrant_12 : decode bb_L_hydrant 12 = .ok (.i2l, 1) := by decide +kernel
theorem dd_L_hydrant_13 : decode bb_L_hydrant 13 = .ok (.lastore, 1) := by decide +kernel
theorem dd_L_hydrant_14 : decode bb_L_hydrant 14 = .ok (.goto 15, 3) := by decide +kernel
theorem dd_L_hydrant_17 : decode bb_L_hydrant 17 = .ok (.astore 6, 2) := by decide +kernel
theorem dd_L_hydrant_19 : decode bb_L_hydrant 19 = .ok (.iconst 1, 1) := by decide +kernel
theorem dd_L_hydrant_20 : decode bb_L_hydrant 20 = .ok (.ireturn, 1) := by decide +kernel
theorem dd_L_hydrant_21 : decode bb_L_hydrant 21 = .ok (.astore 6, 2) := by decide +kernel
theorem dd_L_hydrant_23 : decode bb_L_hydrant 23 = .ok (.iconst 2, 1) := by decide +kernel
theorem dd_L_hydrant_24 : decode bb_L_hydrant 24 = .ok (.ireturn, 1) := by decide +kernel
theorem dd_L_hydrant_25 : decode bb_L_hydrant 25 = .ok (.astore 6, 2) := by decide +kernel
theorem dd_L_hydrant_27 : decode bb_L_hydrant 27 = .ok (.iconst 3, 1) := by decide +kernel
theorem dd_L_hydrant_28 : decode bb_L_hydrant 28 = .ok (.ireturn, 1) := by decide +kernel
theorem dd_L_hydrant_29 : decode bb_L_hydrant 29 = .ok (.iconst 0, 1) := by decide +kernel
theorem dd_L_hydrant_30 : decode bb_L_hydrant 30 = .ok (.ireturn, 1) := by decide +kernel
theorem dd_L_limit_0 : decode bb_L_limit 0 = .ok (.aload_n 0, 1) := by decide +kernel
theorem dd_L_limit_1 : decode bb_L_limit 1 = .ok (.iload_n 1, 1) := by decide +kernel
theorem dd_L_limit_2 : decode bb_L_limit 2 = .ok (.iload_n 2, 1) := by decide +kernel
theorem dd_L_limit_3 : decode bb_L_limit 3 = .ok (.invokevirtual 19, 3) := by decide +kernel
theorem dd_L_limit_6 : decode bb_L_limit 6 = .ok (.goto 9, 3) := by decide +kernel
theorem dd_L_limit_9 : decode bb_L_limit 9 = .ok (.astore_n 3, 1) := by decide +kernel
theorem dd_L_limit_10 : decode bb_L_limit 10 = .ok (.iconst 1, 1) := by decide +kernel
theorem dd_L_limit_11 : decode bb_L_limit 11 = .ok (.ireturn, 1) := by decide +kernel
theorem dd_L_limit_12 : decode bb_L_limit 12 = .ok (.astore_n 3, 1) := by decide +kernel
theorem dd_L_limit_13 : decode bb_L_limit 13 = .ok (.iconst 2, 1) := by decide +kernel
theorem dd_L_limit_14 : decode bb_L_limit 14 = .ok (.ireturn, 1) := by decide +kernel
theorem dd_L_limit_15 : decode bb_L_limit 15 = .ok (.iconst 0, 1) := by decide +kernel
theorem dd_L_limit_16 : decode bb_L_limit 16 = .ok (.ireturn, 1) := by decide +kernel
theorem dd_L_test_0 : decode bb_L_test 0 = .ok (.aload 6, 2) := by decide +kernel
theorem dd_L_test_2 : decode bb_L_test 2 = .ok (.iconst 0, 1) := by decide +kernel
theorem dd_L_test_3 : decode bb_L_test 3 = .ok (.aload_n 0, 1) := by decide +kernel
theorem dd_L_test_4 : decode bb_L_test 4 = .ok (.iload_n 1, 1) := by decide +kernel
theorem dd_L_test_5 : decode bb_L_test 5 = .ok (.iload_n 2, 1) := by decide +kernel
theorem dd_L_test_6 : decode bb_L_test 6 = .ok (.iload_n 3, 1) := by decide +kernel
theorem dd_L_test_7 : decode bb_L_test 7 = .ok (.iload 4, 2) := by decide +kernel
theorem dd_L_test_9 : decode bb_L_test 9 = .ok (.iload 5, 2) := by decide +kernel
theorem dd_L_test_11 : decode bb_L_test 11 = .ok (.invokevirtual 23, 3) := by decide +kernel
theorem dd_L_test_14 : decode bb_L_test 14 = .ok (.i2l, 1) := by decide +kernel
theorem dd_L_test_15 : decode bb_L_test 15 = .ok (.lastore, 1) := by decide +kernel
theorem dd_L_test_16 : decode bb_L_test 16 = .ok (.goto 19, 3) := by decide +kernel
theorem dd_L_test_19 : decode bb_L_test 19 = .ok (.astore 7, 2) := by decide +kernel
theorem dd_L_test_21 : decode bb_L_test 21 = .ok (.iconst 1, 1) := by decide +kernel
theorem dd_L_test_22 : decode bb_L_test 22 = .ok (.ireturn, 1) := by decide +kernel
theorem dd_L_test_23 : decode bb_L_test 23 = .ok (.astore 7, 2) := by decide +kernel
theorem dd_L_test_25 : decode bb_L_test 25 = .ok (.iconst 2, 1) := by decide +kernel
theorem dd_L_test_26 : decode bb_L_test 26 = .ok (.ireturn, 1) := by decide +kernel
theorem dd_L_test_27 : decode bb_L_test 27 = .ok (.astore 7, 2) := by decide +kernel
theorem dd_L_test_29 : decode bb_L_test 29 = .ok (.iconst 3, 1) := by decide +kernel
theorem dd_L_test_30 : decode bb_L_test 30 = .ok (.ireturn, 1) := by decide +kernel
theorem dd_L_test_31 : decode bb_L_test 31 = .ok (.astore 7, 2) := by decide +kernel
theorem dd_L_test_33 : decode bb_L_test 33 = .ok (.iconst 4, 1) := by decide +kernel
theorem dd_L_test_34 : decode bb_L_test 34 = .ok (.ireturn, 1) := by decide +kernel
theorem dd_L_test_35 : decode bb_L_test 35 = .ok (.iconst 0, 1) := by decide +kernel
theorem dd_L_test_36 : decode bb_L_test 36 = .ok (.ireturn, 1) := by decide +kernel
theorem dd_L_flow_0 : decode bb_L_flow 0 = .ok (.aload 4, 2) := by decide +kernel
theorem dd_L_flow_2 : decode bb_L_flow 2 = .ok (.iconst 0, 1) := by decide +kernel
theorem dd_L_flow_3 : decode bb_L_flow 3 = .ok (.aload_n 0, 1) := by decide +kernel
theorem dd_L_flow_4 : decode bb_L_flow 4 = .ok (.iload_n 1, 1) := by decide +kernel
theorem dd_L_flow_5 : decode bb_L_flow 5 = .ok (.iload_n 2, 1) := by decide +kernel
theorem dd_L_flow_6 : decode bb_L_flow 6 = .ok (.iload_n 3, 1) := by decide +kernel
theorem dd_L_flow_7 : decode bb_L_flow 7 = .ok (.invokevirtual 29, 3) := by decide +kernel
theorem dd_L_flow_10 : decode bb_L_flow 10 = .ok (.i2l, 1) := by decide +kernel
theorem dd_L_flow_11 : decode bb_L_flow 11 = .ok (.lastore, 1) := by decide +kernel
theorem dd_L_flow_12 : decode bb_L_flow 12 = .ok (.goto 19, 3) := by decide +kernel
theorem dd_L_flow_15 : decode bb_L_flow 15 = .ok (.astore 5, 2) := by decide +kernel
theorem dd_L_flow_17 : decode bb_L_flow 17 = .ok (.iconst 1, 1) := by decide +kernel
theorem dd_L_flow_18 : decode bb_L_flow 18 = .ok (.ireturn, 1) := by decide +kernel
theorem dd_L_flow_19 : decode bb_L_flow 19 = .ok (.astore 5, 2) := by decide +kernel
theorem dd_L_flow_21 : decode bb_L_flow 21 = .ok (.iconst 2, 1) := by decide +kernel
theorem dd_L_flow_22 : decode bb_L_flow 22 = .ok (.ireturn, 1) := by decide +kernel
theorem dd_L_flow_23 : decode bb_L_flow 23 = .ok (.astore 5, 2) := by decide +kernel
theorem dd_L_flow_25 : decode bb_L_flow 25 = .ok (.iconst 3, 1) := by decide +kernel
theorem dd_L_flow_26 : decode bb_L_flow 26 = .ok (.ireturn, 1) := by decide +kernel
theorem dd_L_flow_27 : decode bb_L_flow 27 = .ok (.astore 5, 2) := by decide +kernel
theorem dd_L_flow_29 : decode bb_L_flow 29 = .ok (.iconst 4, 1) := by decide +kernel
theorem dd_L_flow_30 : decode bb_L_flow 30 = .ok (.ireturn, 1) := by decide +kernel
theorem dd_L_flow_31 : decode bb_L_flow 31 = .ok (.iconst 0, 1) := by decide +kernel
theorem dd_L_flow_32 : decode bb_L_flow 32 = .ok (.ireturn, 1) := by decide +kernel
theorem dd_L_sort_0 : decode bb_L_sort 0 = .ok (.aload_n 2, 1) := by decide +kernel
theorem dd_L_sort_1 : decode bb_L_sort 1 = .ok (.iconst 0, 1) := by decide +kernel
theorem dd_L_sort_2 : decode bb_L_sort 2 = .ok (.aload_n 0, 1) := by decide +kernel
theorem dd_L_sort_3 : decode bb_L_sort 3 = .ok (.iload_n 1, 1) := by decide +kernel
theorem dd_L_sort_4 : decode bb_L_sort 4 = .ok (.invokevirtual 35, 3) := by decide +kernel
theorem dd_L_sort_7 : decode bb_L_sort 7 = .ok (.i2l, 1) := by decide +kernel
theorem dd_L_sort_8 : decode bb_L_sort 8 = .ok (.lastore, 1) := by decide +kernel
theorem dd_L_sort_9 : decode bb_L_sort 9 = .ok (.goto 12, 3) := by decide +kernel
theorem dd_L_sort_12 : decode bb_L_sort 12 = .ok (.astore_n 3, 1) := by decide +kernel
theorem dd_L_sort_13 : decode bb_L_sort 13 = .ok (.iconst 1, 1) := by decide +kernel
theorem dd_L_sort_14 : decode bb_L_sort 14 = .ok (.ireturn, 1) := by decide +kernel
theorem dd_L_sort_15 : decode bb_L_sort 15 = .ok (.astore_n 3, 1) := by decide +kernel
theorem dd_L_sort_16 : decode bb_L_sort 16 = .ok (.iconst 2, 1) := by decide +kernel
theorem dd_L_sort_17 : decode bb_L_sort 17 = .ok (.ireturn, 1) := by decide +kernel
theorem dd_L_sort_18 : decode bb_L_sort 18 = .ok (.astore_n 3, 1) := by decide +kernel
theorem dd_L_sort_19 : decode bb_L_sort 19 = .ok (.iconst 3, 1) := by decide +kernel
theorem dd_L_sort_20 : decode bb_L_sort 20 = .ok (.ireturn, 1) := by decide +kernel
theorem dd_L_sort_21 : decode bb_L_sort 21 = .ok (.iconst 0, 1) := by decide +kernel
theorem dd_L_sort_22 : decode bb_L_sort 22 = .ok (.ireturn, 1) := by decide +kernel
theorem dd_L_defect_0 : decode bb_L_defect 0 = .ok (.aload_n 0, 1) := by decide +kernel
theorem dd_L_defect_1 : decode bb_L_defect 1 = .ok (.iload_n 1, 1) := by decide +kernel
theorem dd_L_defect_2 : decode bb_L_defect 2 = .ok (.iload_n 2, 1) := by decide +kernel
theorem dd_L_defect_3 : decode bb_L_defect 3 = .ok (.invokevirtual 39, 3) := by decide +kernel
theorem dd_L_defect_6 : decode bb_L_defect 6 = .ok (.goto 9, 3) := by decide +kernel
theorem dd_L_defect_9 : decode bb_L_defect 9 = .ok (.astore_n 3, 1) := by decide +kernel
theorem dd_L_defect_10 : decode bb_L_defect 10 = .ok (.iconst 1, 1) := by decide +kernel
theorem dd_L_defect_11 : decode bb_L_defect 11 = .ok (.ireturn, 1) := by decide +kernel
theorem dd_L_defect_12 : decode bb_L_defect 12 = .ok (.astore_n 3, 1) := by decide +kernel
theorem dd_L_defect_13 : decode bb_L_defect 13 = .ok (.iconst 2, 1) := by decide +kernel
theorem dd_L_defect_14 : decode bb_L_defect 14 = .ok (.ireturn, 1) := by decide +kernel
theorem dd_L_defect_15 : decode bb_L_defect 15 = .ok (.iconst 0, 1) := by decide +kernel
theorem dd_L_defect_16 : decode bb_L_defect 16 = .ok (.ireturn, 1) := by decide +kernel
theorem dd_L_works_0 : decode bb_L_works 0 = .ok (.aload_n 0, 1) := by decide +kernel
theorem dd_L_works_1 : decode bb_L_works 1 = .ok (.iload_n 1, 1) := by decide +kernel
theorem dd_L_works_2 : decode bb_L_works 2 = .ok (.iload_n 2, 1) := by decide +kernel
theorem dd_L_works_3 : decode bb_L_works 3 = .ok (.iload_n 3, 1) := by decide +kernel
theorem dd_L_works_4 : decode bb_L_works 4 = .ok (.invokevirtual 42, 3) := by decide +kernel
theorem dd_L_works_7 : decode bb_L_works 7 = .ok (.goto 19, 3) := by decide +kernel
theorem dd_L_works_10 : decode bb_L_works 10 = .ok (.astore 4, 2) := by decide +kernel
theorem dd_L_works_12 : decode bb_L_works 12 = .ok (.iconst 1, 1) := by decide +kernel
theorem dd_L_works_13 : decode bb_L_works 13 = .ok (.ireturn, 1) := by decide +kernel
theorem dd_L_works_14 : decode bb_L_works 14 = .ok (.astore 4, 2) := by decide +kernel
theorem dd_L_works_16 : decode bb_L_works 16 = .ok (.iconst 2, 1) := by decide +kernel
theorem dd_L_works_17 : decode bb_L_works 17 = .ok (.ireturn, 1) := by decide +kernel
theorem dd_L_works_18 : decode bb_L_works 18 = .ok (.astore 4, 2) := by decide +kernel
theorem dd_L_works_20 : decode bb_L_works 20 = .ok (.iconst 3, 1) := by decide +kernel
theorem dd_L_works_21 : decode bb_L_works 21 = .ok (.ireturn, 1) := by decide +kernel
theorem dd_L_works_22 : decode bb_L_works 22 = .ok (.astore 4, 2) := by decide +kernel
theorem dd_L_works_24 : decode bb_L_works 24 = .ok (.iconst 4, 1) := by decide +kernel
theorem dd_L_works_25 : decode bb_L_works 25 = .ok (.ireturn, 1) := by decide +kernel
theorem dd_L_works_26 : decode bb_L_works 26 = .ok (.iconst 0, 1) := by decide +kernel
theorem dd_L_works_27 : decode bb_L_works 27 = .ok (.ireturn, 1) := by decide +kernel
theorem dd_L_season_0 : decode bb_L_season 0 = .ok (.aload_n 0, 1) := by decide +kernel
theorem dd_L_season_1 : decode bb_L_season 1 = .ok (.iload_n 1, 1) := by decide +kernel
theorem dd_L_season_2 : decode bb_L_season 2 = .ok (.iload_n 2, 1) := by decide +kernel
theorem dd_L_season_3 : decode bb_L_season 3 = .ok (.iload_n 3, 1) := by decide +kernel
theorem dd_L_season_4 : decode bb_L_season 4 = .ok (.invokevirtual 46, 3) := by decide +kernel
theorem dd_L_season_7 : decode bb_L_season 7 = .ok (.goto 15, 3) := by decide +kernel
theorem dd_L_season_10 : decode bb_L_season 10 = .ok (.astore 4, 2) := by decide +kernel
theorem dd_L_season_12 : decode bb_L_season 12 = .ok (.iconst 1, 1) := by decide +kernel
theorem dd_L_season_13 : decode bb_L_season 13 = .ok (.ireturn, 1) := by decide +kernel
theorem dd_L_season_14 : decode bb_L_season 14 = .ok (.astore 4, 2) := by decide +kernel
theorem dd_L_season_16 : decode bb_L_season 16 = .ok (.iconst 2, 1) := by decide +kernel
theorem dd_L_season_17 : decode bb_L_season 17 = .ok (.ireturn, 1) := by decide +kernel
theorem dd_L_season_18 : decode bb_L_season 18 = .ok (.astore 4, 2) := by decide +kernel
theorem dd_L_season_20 : decode bb_L_season 20 = .ok (.iconst 3, 1) := by decide +kernel
theorem dd_L_season_21 : decode bb_L_season 21 = .ok (.ireturn, 1) := by decide +kernel
theorem dd_L_season_22 : decode bb_L_season 22 = .ok (.iconst 0, 1) := by decide +kernel
theorem dd_L_season_23 : decode bb_L_season 23 = .ok (.ireturn, 1) := by decide +kernel
theorem dd_L_usable_0 : decode bb_L_usable 0 = .ok (.aload_n 3, 1) := by decide +kernel
theorem dd_L_usable_1 : decode bb_L_usable 1 = .ok (.iconst 0, 1) := by decide +kernel
theorem dd_L_usable_2 : decode bb_L_usable 2 = .ok (.aload_n 0, 1) := by decide +kernel
theorem dd_L_usable_3 : decode bb_L_usable 3 = .ok (.iload_n 1, 1) := by decide +kernel
theorem dd_L_usable_4 : decode bb_L_usable 4 = .ok (.iload_n 2, 1) := by decide +kernel
theorem dd_L_usable_5 : decode bb_L_usable 5 = .ok (.invokevirtual 50, 3) := by decide +kernel
theorem dd_L_usable_8 : decode bb_L_usable 8 = .ok (.ifCond .eq 7, 3) := by decide +kernel
theorem dd_L_usable_11 : decode bb_L_usable 11 = .ok (.lconst 1, 1) := by decide +kernel
theorem dd_L_usable_12 : decode bb_L_usable 12 = .ok (.goto 4, 3) := by decide +kernel
theorem dd_L_usable_15 : decode bb_L_usable 15 = .ok (.lconst 0, 1) := by decide +kernel
theorem dd_L_usable_16 : decode bb_L_usable 16 = .ok (.lastore, 1) := by decide +kernel
theorem dd_L_usable_17 : decode bb_L_usable 17 = .ok (.goto 11, 3) := by decide +kernel
theorem dd_L_usable_20 : decode bb_L_usable 20 = .ok (.astore 4, 2) := by decide +kernel
theorem dd_L_usable_22 : decode bb_L_usable 22 = .ok (.iconst 1, 1) := by decide +kernel
theorem dd_L_usable_23 : decode bb_L_usable 23 = .ok (.ireturn, 1) := by decide +kernel
theorem dd_L_usable_24 : decode bb_L_usable 24 = .ok (.astore 4, 2) := by decide +kernel
theorem dd_L_usable_26 : decode bb_L_usable 26 = .ok (.iconst 2, 1) := by decide +kernel
theorem dd_L_usable_27 : decode bb_L_usable 27 = .ok (.ireturn, 1) := by decide +kernel
theorem dd_L_usable_28 : decode bb_L_usable 28 = .ok (.iconst 0, 1) := by decide +kernel
theorem dd_L_usable_29 : decode bb_L_usable 29 = .ok (.ireturn, 1) := by decide +kernel
theorem dd_L_near_0 : decode bb_L_near 0 = .ok (.aload 5, 2) := by decide +kernel
theorem dd_L_near_2 : decode bb_L_near 2 = .ok (.iconst 0, 1) := by decide +kernel
theorem dd_L_near_3 : decode bb_L_near 3 = .ok (.aload_n 0, 1) := by decide +kernel
theorem dd_L_near_4 : decode bb_L_near 4 = .ok (.iload_n 1, 1) := by decide +kernel
theorem dd_L_near_5 : decode bb_L_near 5 = .ok (.iload_n 2, 1) := by decide +kernel
theorem dd_L_near_6 : decode bb_L_near 6 = .ok (.iload_n 3, 1) := by decide +kernel
theorem dd_L_near_7 : decode bb_L_near 7 = .ok (.iload 4, 2) := by decide +kernel
theorem dd_L_near_9 : decode bb_L_near 9 = .ok (.invokevirtual 54, 3) := by decide +kernel
theorem dd_L_near_12 : decode bb_L_near 12 = .ok (.i2l, 1) := by decide +kernel
theorem dd_L_near_13 : decode bb_L_near 13 = .ok (.lastore, 1) := by decide +kernel
theorem dd_L_near_14 : decode bb_L_near 14 = .ok (.goto 7, 3) := by decide +kernel
theorem dd_L_near_17 : decode bb_L_near 17 = .ok (.astore 6, 2) := by decide +kernel
theorem dd_L_near_19 : decode bb_L_near 19 = .ok (.iconst 1, 1) := by decide +kernel
theorem dd_L_near_20 : decode bb_L_near 20 = .ok (.ireturn, 1) := by decide +kernel
theorem dd_L_near_21 : decode bb_L_near 21 = .ok (.iconst 0, 1) := by decide +kernel
theorem dd_L_near_22 : decode bb_L_near 22 = .ok (.ireturn, 1) := by decide +kernel
theorem dd_L_both_0 : decode bb_L_both 0 = .ok (.aload 4, 2) := by decide +kernel
theorem dd_L_both_2 : decode bb_L_both 2 = .ok (.iconst 0, 1) := by decide +kernel
theorem dd_L_both_3 : decode bb_L_both 3 = .ok (.aload_n 0, 1) := by decide +kernel
theorem dd_L_both_4 : decode bb_L_both 4 = .ok (.iload_n 1, 1) := by decide +kernel
theorem dd_L_both_5 : decode bb_L_both 5 = .ok (.iload_n 2, 1) := by decide +kernel
theorem dd_L_both_6 : decode bb_L_both 6 = .ok (.iload_n 3, 1) := by decide +kernel
theorem dd_L_both_7 : decode bb_L_both 7 = .ok (.invokevirtual 57, 3) := by decide +kernel
theorem dd_L_both_10 : decode bb_L_both 10 = .ok (.i2l, 1) := by decide +kernel
theorem dd_L_both_11 : decode bb_L_both 11 = .ok (.lastore, 1) := by decide +kernel
theorem dd_L_both_12 : decode bb_L_both 12 = .ok (.goto 19, 3) := by decide +kernel
theorem dd_L_both_15 : decode bb_L_both 15 = .ok (.astore 5, 2) := by decide +kernel
theorem dd_L_both_17 : decode bb_L_both 17 = .ok (.iconst 1, 1) := by decide +kernel
theorem dd_L_both_18 : decode bb_L_both 18 = .ok (.ireturn, 1) := by decide +kernel
theorem dd_L_both_19 : decode bb_L_both 19 = .ok (.astore 5, 2) := by decide +kernel
theorem dd_L_both_21 : decode bb_L_both 21 = .ok (.iconst 2, 1) := by decide +kernel
theorem dd_L_both_22 : decode bb_L_both 22 = .ok (.ireturn, 1) := by decide +kernel
theorem dd_L_both_23 : decode bb_L_both 23 = .ok (.astore 5, 2) := by decide +kernel
theorem dd_L_both_25 : decode bb_L_both 25 = .ok (.iconst 3, 1) := by decide +kernel
theorem dd_L_both_26 : decode bb_L_both 26 = .ok (.ireturn, 1) := by decide +kernel
theorem dd_L_both_27 : decode bb_L_both 27 = .ok (.astore 5, 2) := by decide +kernel
theorem dd_L_both_29 : decode bb_L_both 29 = .ok (.iconst 4, 1) := by decide +kernel
theorem dd_L_both_30 : decode bb_L_both 30 = .ok (.ireturn, 1) := by decide +kernel
theorem dd_L_both_31 : decode bb_L_both 31 = .ok (.iconst 0, 1) := by decide +kernel
theorem dd_L_both_32 : decode bb_L_both 32 = .ok (.ireturn, 1) := by decide +kernel
theorem dd_L_supply_0 : decode bb_L_supply 0 = .ok (.aload 6, 2) := by decide +kernel
theorem dd_L_supply_2 : decode bb_L_supply 2 = .ok (.iconst 0, 1) := by decide +kernel
theorem dd_L_supply_3 : decode bb_L_supply 3 = .ok (.aload_n 0, 1) := by decide +kernel
theorem dd_L_supply_4 : decode bb_L_supply 4 = .ok (.iload_n 1, 1) := by decide +kernel
theorem dd_L_supply_5 : decode bb_L_supply 5 = .ok (.iload_n 2, 1) := by decide +kernel
theorem dd_L_supply_6 : decode bb_L_supply 6 = .ok (.iload_n 3, 1) := by decide +kernel
theorem dd_L_supply_7 : decode bb_L_supply 7 = .ok (.iload 4, 2) := by decide +kernel
theorem dd_L_supply_9 : decode bb_L_supply 9 = .ok (.iload 5, 2) := by decide +kernel
theorem dd_L_supply_11 : decode bb_L_supply 11 = .ok (.invokevirtual 60, 3) := by decide +kernel
theorem dd_L_supply_14 : decode bb_L_supply 14 = .ok (.i2l, 1) := by decide +kernel
theorem dd_L_supply_15 : decode bb_L_supply 15 = .ok (.lastore, 1) := by decide +kernel
theorem dd_L_supply_16 : decode bb_L_supply 16 = .ok (.goto 7, 3) := by decide +kernel
theorem dd_L_supply_19 : decode bb_L_supply 19 = .ok (.astore 7, 2) := by decide +kernel
theorem dd_L_supply_21 : decode bb_L_supply 21 = .ok (.iconst 1, 1) := by decide +kernel
theorem dd_L_supply_22 : decode bb_L_supply 22 = .ok (.ireturn, 1) := by decide +kernel
theorem dd_L_supply_23 : decode bb_L_supply 23 = .ok (.iconst 0, 1) := by decide +kernel
theorem dd_L_supply_24 : decode bb_L_supply 24 = .ok (.ireturn, 1) := by decide +kernel
theorem dd_L_round_0 : decode bb_L_round 0 = .ok (.aload 4, 2) := by decide +kernel
theorem dd_L_round_2 : decode bb_L_round 2 = .ok (.iconst 0, 1) := by decide +kernel
theorem dd_L_round_3 : decode bb_L_round 3 = .ok (.aload_n 0, 1) := by decide +kernel
theorem dd_L_round_4 : decode bb_L_round 4 = .ok (.lload_n 1, 1) := by decide +kernel
theorem dd_L_round_5 : decode bb_L_round 5 = .ok (.iload_n 3, 1) := by decide +kernel
theorem dd_L_round_6 : decode bb_L_round 6 = .ok (.invokevirtual 63, 3) := by decide +kernel
theorem dd_L_round_9 : decode bb_L_round 9 = .ok (.i2l, 1) := by decide +kernel
theorem dd_L_round_10 : decode bb_L_round 10 = .ok (.lastore, 1) := by decide +kernel
theorem dd_L_round_11 : decode bb_L_round 11 = .ok (.goto 11, 3) := by decide +kernel
theorem dd_L_round_14 : decode bb_L_round 14 = .ok (.astore 5, 2) := by decide +kernel
theorem dd_L_round_16 : decode bb_L_round 16 = .ok (.iconst 1, 1) := by decide +kernel
theorem dd_L_round_17 : decode bb_L_round 17 = .ok (.ireturn, 1) := by decide +kernel
theorem dd_L_round_18 : decode bb_L_round 18 = .ok (.astore 5, 2) := by decide +kernel
theorem dd_L_round_20 : decode bb_L_round 20 = .ok (.iconst 2, 1) := by decide +kernel
theorem dd_L_round_21 : decode bb_L_round 21 = .ok (.ireturn, 1) := by decide +kernel
theorem dd_L_round_22 : decode bb_L_round 22 = .ok (.iconst 0, 1) := by decide +kernel
theorem dd_L_round_23 : decode bb_L_round 23 = .ok (.ireturn, 1) := by decide +kernel
theorem dd_L_stop_0 : decode bb_L_stop 0 = .ok (.aload_n 2, 1) := by decide +kernel
theorem dd_L_stop_1 : decode bb_L_stop 1 = .ok (.iconst 0, 1) := by decide +kernel
theorem dd_L_stop_2 : decode bb_L_stop 2 = .ok (.aload_n 0, 1) := by decide +kernel
theorem dd_L_stop_3 : decode bb_L_stop 3 = .ok (.iload_n 1, 1) := by decide +kernel
theorem dd_L_stop_4 : decode bb_L_stop 4 = .ok (.invokevirtual 67, 3) := by decide +kernel
theorem dd_L_stop_7 : decode bb_L_stop 7 = .ok (.i2l, 1) := by decide +kernel
theorem dd_L_stop_8 : decode bb_L_stop 8 = .ok (.lastore, 1) := by decide +kernel
theorem dd_L_stop_9 : decode bb_L_stop 9 = .ok (.goto 6, 3) := by decide +kernel
theorem dd_L_stop_12 : decode bb_L_stop 12 = .ok (.astore_n 3, 1) := by decide +kernel
theorem dd_L_stop_13 : decode bb_L_stop 13 = .ok (.iconst 1, 1) := by decide +kernel
theorem dd_L_stop_14 : decode bb_L_stop 14 = .ok (.ireturn, 1) := by decide +kernel
theorem dd_L_stop_15 : decode bb_L_stop 15 = .ok (.iconst 0, 1) := by decide +kernel
theorem dd_L_stop_16 : decode bb_L_stop 16 = .ok (.ireturn, 1) := by decide +kernel
theorem dd_L_overdue_0 : decode bb_L_overdue 0 = .ok (.aload 4, 2) := by decide +kernel
theorem dd_L_overdue_2 : decode bb_L_overdue 2 = .ok (.iconst 0, 1) := by decide +kernel
theorem dd_L_overdue_3 : decode bb_L_overdue 3 = .ok (.aload_n 0, 1) := by decide +kernel
theorem dd_L_overdue_4 : decode bb_L_overdue 4 = .ok (.iload_n 1, 1) := by decide +kernel
theorem dd_L_overdue_5 : decode bb_L_overdue 5 = .ok (.iload_n 2, 1) := by decide +kernel
theorem dd_L_overdue_6 : decode bb_L_overdue 6 = .ok (.iload_n 3, 1) := by decide +kernel
theorem dd_L_overdue_7 : decode bb_L_overdue 7 = .ok (.invokevirtual 70, 3) := by decide +kernel
theorem dd_L_overdue_10 : decode bb_L_overdue 10 = .ok (.i2l, 1) := by decide +kernel
theorem dd_L_overdue_11 : decode bb_L_overdue 11 = .ok (.lastore, 1) := by decide +kernel
theorem dd_L_overdue_12 : decode bb_L_overdue 12 = .ok (.goto 7, 3) := by decide +kernel
theorem dd_L_overdue_15 : decode bb_L_overdue 15 = .ok (.astore 5, 2) := by decide +kernel
theorem dd_L_overdue_17 : decode bb_L_overdue 17 = .ok (.iconst 1, 1) := by decide +kernel
theorem dd_L_overdue_18 : decode bb_L_overdue 18 = .ok (.ireturn, 1) := by decide +kernel
theorem dd_L_overdue_19 : decode bb_L_overdue 19 = .ok (.iconst 0, 1) := by decide +kernel
theorem dd_L_overdue_20 : decode bb_L_overdue 20 = .ok (.ireturn, 1) := by decide +kernel
theorem dd_L_testAt_0 : decode bb_L_testAt 0 = .ok (.aload_n 3, 1) := by decide +kernel
theorem dd_L_testAt_1 : decode bb_L_testAt 1 = .ok (.iconst 0, 1) := by decide +kernel
theorem dd_L_testAt_2 : decode bb_L_testAt 2 = .ok (.aload_n 0, 1) := by decide +kernel
theorem dd_L_testAt_3 : decode bb_L_testAt 3 = .ok (.iload_n 1, 1) := by decide +kernel
theorem dd_L_testAt_4 : decode bb_L_testAt 4 = .ok (.iload_n 2, 1) := by decide +kernel
theorem dd_L_testAt_5 : decode bb_L_testAt 5 = .ok (.invokevirtual 73, 3) := by decide +kernel
theorem dd_L_testAt_8 : decode bb_L_testAt 8 = .ok (.i2l, 1) := by decide +kernel
theorem dd_L_testAt_9 : decode bb_L_testAt 9 = .ok (.lastore, 1) := by decide +kernel
theorem dd_L_testAt_10 : decode bb_L_testAt 10 = .ok (.goto 7, 3) := by decide +kernel
theorem dd_L_testAt_13 : decode bb_L_testAt 13 = .ok (.astore 4, 2) := by decide +kernel
theorem dd_L_testAt_15 : decode bb_L_testAt 15 = .ok (.iconst 1, 1) := by decide +kernel
theorem dd_L_testAt_16 : decode bb_L_testAt 16 = .ok (.ireturn, 1) := by decide +kernel
theorem dd_L_testAt_17 : decode bb_L_testAt 17 = .ok (.iconst 0, 1) := by decide +kernel
theorem dd_L_testAt_18 : decode bb_L_testAt 18 = .ok (.ireturn, 1) := by decide +kernel
theorem dd_L_hydrantAt_0 : decode bb_L_hydrantAt 0 = .ok (.aload_n 3, 1) := by decide +kernel
theorem dd_L_hydrantAt_1 : decode bb_L_hydrantAt 1 = .ok (.iconst 0, 1) := by decide +kernel
theorem dd_L_hydrantAt_2 : decode bb_L_hydrantAt 2 = .ok (.aload_n 0, 1) := by decide +kernel
theorem dd_L_hydrantAt_3 : decode bb_L_hydrantAt 3 = .ok (.iload_n 1, 1) := by decide +kernel
theorem dd_L_hydrantAt_4 : decode bb_L_hydrantAt 4 = .ok (.iload_n 2, 1) := by decide +kernel
theorem dd_L_hydrantAt_5 : decode bb_L_hydrantAt 5 = .ok (.invokevirtual 77, 3) := by decide +kernel
theorem dd_L_hydrantAt_8 : decode bb_L_hydrantAt 8 = .ok (.i2l, 1) := by decide +kernel
theorem dd_L_hydrantAt_9 : decode bb_L_hydrantAt 9 = .ok (.lastore, 1) := by decide +kernel
theorem dd_L_hydrantAt_10 : decode bb_L_hydrantAt 10 = .ok (.goto 7, 3) := by decide +kernel
theorem dd_L_hydrantAt_13 : decode bb_L_hydrantAt 13 = .ok (.astore 4, 2) := by decide +kernel
theorem dd_L_hydrantAt_15 : decode bb_L_hydrantAt 15 = .ok (.iconst 1, 1) := by decide +kernel
theorem dd_L_hydrantAt_16 : decode bb_L_hydrantAt 16 = .ok (.ireturn, 1) := by decide +kernel
theorem dd_L_hydrantAt_17 : decode bb_L_hydrantAt 17 = .ok (.iconst 0, 1) := by decide +kernel
theorem dd_L_hydrantAt_18 : decode bb_L_hydrantAt 18 = .ok (.ireturn, 1) := by decide +kernel
