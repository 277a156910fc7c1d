/-! the instructions of TideTables, decoded. Written by wip/whole/names.py -/
theorem d_X_init_0 : decode b_X_init 0 = .ok (.aload_n 0, 1) := by decide +kernel
theorem d_X_init_1 : decode b_X_init 1 = .ok (.invokespecial 3, 3) := by decide +kernel
theorem d_X_init_4 : decode b_X_init 4 = .ok (.aload_n 0, 1) := by decide +kernel
theorem d_X_init_5 : decode b_X_init 5 = .ok (.bipush 8, 2) := by decide +kernel
theorem d_X_init_7 : decode b_X_init 7 = .ok (.newarray .int, 2) := by decide +kernel
theorem d_X_init_9 : decode b_X_init 9 = .ok (.putfield 9, 3) := by decide +kernel
theorem d_X_init_12 : decode b_X_init 12 = .ok (.aload_n 0, 1) := by decide +kernel
theorem d_X_init_13 : decode b_X_init 13 = .ok (.bipush 8, 2) := by decide +kernel
theorem d_X_init_15 : decode b_X_init 15 = .ok (.newarray .long, 2) := by decide +kernel
theorem d_X_init_17 : decode b_X_init 17 = .ok (.putfield 13, 3) := by decide +kernel
theorem d_X_init_20 : decode b_X_init 20 = .ok (.aload_n 0, 1) := by decide +kernel
theorem d_X_init_21 : decode b_X_init 21 = .ok (.bipush 8, 2) := by decide +kernel
theorem d_X_init_23 : decode b_X_init 23 = .ok (.newarray .long, 2) := by decide +kernel
theorem d_X_init_25 : decode b_X_init 25 = .ok (.putfield 17, 3) := by decide +kernel
theorem d_X_init_28 : decode b_X_init 28 = .ok (.aload_n 0, 1) := by decide +kernel
theorem d_X_init_29 : decode b_X_init 29 = .ok (.bipush 8, 2) := by decide +kernel
theorem d_X_init_31 : decode b_X_init 31 = .ok (.bipush 10, 2) := by decide +kernel
theorem d_X_init_33 : decode b_X_init 33 = .ok (.multianewarray 20 2, 4) := by decide +kernel
theorem d_X_init_37 : decode b_X_init 37 = .ok (.putfield 22, 3) := by decide +kernel
theorem d_X_init_40 : decode b_X_init 40 = .ok (.aload_n 0, 1) := by decide +kernel
theorem d_X_init_41 : decode b_X_init 41 = .ok (.bipush 8, 2) := by decide +kernel
theorem d_X_init_43 : decode b_X_init 43 = .ok (.bipush 10, 2) := by decide +kernel
theorem d_X_init_45 : decode b_X_init 45 = .ok (.multianewarray 25 2, 4) := by decide +kernel
theorem d_X_init_49 : decode b_X_init 49 = .ok (.putfield 27, 3) := by decide +kernel
theorem d_X_init_52 : decode b_X_init 52 = .ok (.aload_n 0, 1) := by decide +kernel
theorem d_X_init_53 : decode b_X_init 53 = .ok (.bipush 11, 2) := by decide +kernel
theorem d_X_init_55 : decode b_X_init 55 = .ok (.newarray .int, 2) := by decide +kernel
theorem d_X_init_57 : decode b_X_init 57 = .ok (.putfield 30, 3) := by decide +kernel
theorem d_X_init_60 : decode b_X_init 60 = .ok (.aload_n 0, 1) := by decide +kernel
theorem d_X_init_61 : decode b_X_init 61 = .ok (.sipush 1440, 3) := by decide +kernel
theorem d_X_init_64 : decode b_X_init 64 = .ok (.newarray .int, 2) := by decide +kernel
theorem d_X_init_66 : decode b_X_init 66 = .ok (.putfield 33, 3) := by decide +kernel
theorem d_X_init_69 : decode b_X_init 69 = .ok (.aload_n 0, 1) := by decide +kernel
theorem d_X_init_70 : decode b_X_init 70 = .ok (.iconst (-1), 1) := by decide +kernel
theorem d_X_init_71 : decode b_X_init 71 = .ok (.putfield 36, 3) := by decide +kernel
theorem d_X_init_74 : decode b_X_init 74 = .ok (.iconst 0, 1) := by decide +kernel
theorem d_X_init_75 : decode b_X_init 75 = .ok (.istore_n 1, 1) := by decide +kernel
theorem d_X_init_76 : decode b_X_init 76 = .ok (.iload_n 1, 1) := by decide +kernel
theorem d_X_init_77 : decode b_X_init 77 = .ok (.bipush 8, 2) := by decide +kernel
theorem d_X_init_79 : decode b_X_init 79 = .ok (.if_icmp .ge 20, 3) := by decide +kernel
theorem d_X_init_82 : decode b_X_init 82 = .ok (.aload_n 0, 1) := by decide +kernel
theorem d_X_init_83 : decode b_X_init 83 = .ok (.getfield 22, 3) := by decide +kernel
theorem d_X_init_86 : decode b_X_init 86 = .ok (.iload_n 1, 1) := by decide +kernel
theorem d_X_init_87 : decode b_X_init 87 = .ok (.aaload, 1) := by decide +kernel
theorem d_X_init_88 : decode b_X_init 88 = .ok (.ldc 40, 2) := by decide +kernel
theorem d_X_init_90 : decode b_X_init 90 = .ok (.invokestatic 41, 3) := by decide +kernel
theorem d_X_init_93 : decode b_X_init 93 = .ok (.iinc 1 1, 3) := by decide +kernel
theorem d_X_init_96 : decode b_X_init 96 = .ok (.goto (-20), 3) := by decide +kernel
theorem d_X_init_99 : decode b_X_init 99 = .ok (.iconst 0, 1) := by decide +kernel
theorem d_X_init_100 : decode b_X_init 100 = .ok (.istore_n 1, 1) := by decide +kernel
theorem d_X_init_101 : decode b_X_init 101 = .ok (.iload_n 1, 1) := by decide +kernel
theorem d_X_init_102 : decode b_X_init 102 = .ok (.bipush 10, 2) := by decide +kernel
theorem d_X_init_104 : decode b_X_init 104 = .ok (.if_icmp .gt 24, 3) := by decide +kernel
theorem d_X_init_107 : decode b_X_init 107 = .ok (.aload_n 0, 1) := by decide +kernel
theorem d_X_init_108 : decode b_X_init 108 = .ok (.getfield 30, 3) := by decide +kernel
theorem d_X_init_111 : decode b_X_init 111 = .ok (.iload_n 1, 1) := by decide +kernel
theorem d_X_init_112 : decode b_X_init 112 = .ok (.iload_n 1, 1) := by decide +kernel
theorem d_X_init_113 : decode b_X_init 113 = .ok (.sipush 365, 3) := by decide +kernel
theorem d_X_init_116 : decode b_X_init 116 = .ok (.imul, 1) := by decide +kernel
theorem d_X_init_117 : decode b_X_init 117 = .ok (.sipush 1440, 3) := by decide +kernel
theorem d_X_init_120 : decode b_X_init 120 = .ok (.imul, 1) := by decide +kernel
theorem d_X_init_121 : decode b_X_init 121 = .ok (.iastore, 1) := by decide +kernel
theorem d_X_init_122 : decode b_X_init 122 = .ok (.iinc 1 1, 3) := by decide +kernel
theorem d_X_init_125 : decode b_X_init 125 = .ok (.goto (-24), 3) := by decide +kernel
theorem d_X_init_128 : decode b_X_init 128 = .ok (.return_, 1) := by decide +kernel
theorem d_X_level_0 : decode b_X_level 0 = .ok (.iload_n 1, 1) := by decide +kernel
theorem d_X_level_1 : decode b_X_level 1 = .ok (.ldc 47, 2) := by decide +kernel
theorem d_X_level_3 : decode b_X_level 3 = .ok (.if_icmp .lt 9, 3) := by decide +kernel
theorem d_X_level_6 : decode b_X_level 6 = .ok (.iload_n 1, 1) := by decide +kernel
theorem d_X_level_7 : decode b_X_level 7 = .ok (.ldc 48, 2) := by decide +kernel
theorem d_X_level_9 : decode b_X_level 9 = .ok (.if_icmp .le 13, 3) := by decide +kernel
theorem d_X_level_12 : decode b_X_level 12 = .ok (.new 49, 3) := by decide +kernel
theorem d_X_level_15 : decode b_X_level 15 = .ok (.dup, 1) := by decide +kernel
theorem d_X_level_16 : decode b_X_level 16 = .ok (.ldc 51, 2) := by decide +kernel
theorem d_X_level_18 : decode b_X_level 18 = .ok (.invokespecial 53, 3) := by decide +kernel
theorem d_X_level_21 : decode b_X_level 21 = .ok (.athrow, 1) := by decide +kernel
theorem d_X_level_22 : decode b_X_level 22 = .ok (.aload_n 0, 1) := by decide +kernel
theorem d_X_level_23 : decode b_X_level 23 = .ok (.getfield 56, 3) := by decide +kernel
theorem d_X_level_26 : decode b_X_level 26 = .ok (.istore_n 2, 1) := by decide +kernel
theorem d_X_level_27 : decode b_X_level 27 = .ok (.aload_n 0, 1) := by decide +kernel
theorem d_X_level_28 : decode b_X_level 28 = .ok (.iload_n 1, 1) := by decide +kernel
theorem d_X_level_29 : decode b_X_level 29 = .ok (.putfield 56, 3) := by decide +kernel
theorem d_X_level_32 : decode b_X_level 32 = .ok (.iload_n 2, 1) := by decide +kernel
theorem d_X_level_33 : decode b_X_level 33 = .ok (.ireturn, 1) := by decide +kernel
theorem d_X_constituent_0 : decode b_X_constituent 0 = .ok (.iload_n 1, 1) := by decide +kernel
theorem d_X_constituent_1 : decode b_X_constituent 1 = .ok (.invokestatic 59, 3) := by decide +kernel
theorem d_X_constituent_4 : decode b_X_constituent 4 = .ok (.ifCond .ne 13, 3) := by decide +kernel
theorem d_X_constituent_7 : decode b_X_constituent 7 = .ok (.new 63, 3) := by decide +kernel
theorem d_X_constituent_10 : decode b_X_constituent 10 = .ok (.dup, 1) := by decide +kernel
theorem d_X_constituent_11 : decode b_X_constituent 11 = .ok (.ldc 65, 2) := by decide +kernel
theorem d_X_constituent_13 : decode b_X_constituent 13 = .ok (.invokespecial 67, 3) := by decide +kernel
theorem d_X_constituent_16 : decode b_X_constituent 16 = .ok (.athrow, 1) := by decide +kernel
theorem d_X_constituent_17 : decode b_X_constituent 17 = .ok (.iload_n 2, 1) := by decide +kernel
theorem d_X_constituent_18 : decode b_X_constituent 18 = .ok (.ifCond .lt 9, 3) := by decide +kernel
theorem d_X_constituent_21 : decode b_X_constituent 21 = .ok (.iload_n 2, 1) := by decide +kernel
theorem d_X_constituent_22 : decode b_X_constituent 22 = .ok (.ldc 68, 2) := by decide +kernel
theorem d_X_constituent_24 : decode b_X_constituent 24 = .ok (.if_icmp .le 13, 3) := by decide +kernel
theorem d_X_constituent_27 : decode b_X_constituent 27 = .ok (.new 49, 3) := by decide +kernel
theorem d_X_constituent_30 : decode b_X_constituent 30 = .ok (.dup, 1) := by decide +kernel
theorem d_X_constituent_31 : decode b_X_constituent 31 = .ok (.ldc 69, 2) := by decide +kernel
theorem d_X_constituent_33 : decode b_X_constituent 33 = .ok (.invokespecial 53, 3) := by decide +kernel
theorem d_X_constituent_36 : decode b_X_constituent 36 = .ok (.athrow, 1) := by decide +kernel
theorem d_X_constituent_37 : decode b_X_constituent 37 = .ok (.lload_n 3, 1) := by decide +kernel
theorem d_X_constituent_38 : decode b_X_constituent 38 = .ok (.lconst 0, 1) := by decide +kernel
theorem d_X_constituent_39 : decode b_X_constituent 39 = .ok (.lcmp, 1) := by decide +kernel
theorem d_X_constituent_40 : decode b_X_constituent 40 = .ok (.ifCond .lt 11, 3) := by decide +kernel
theorem d_X_constituent_43 : decode b_X_constituent 43 = .ok (.lload_n 3, 1) := by decide +kernel
theorem d_X_constituent_44 : decode b_X_constituent 44 = .ok (.ldc2_w 71, 3) := by decide +kernel
theorem d_X_constituent_47 : decode b_X_constituent 47 = .ok (.lcmp, 1) := by decide +kernel
theorem d_X_constituent_48 : decode b_X_constituent 48 = .ok (.ifCond .lt 13, 3) := by decide +kernel
theorem d_X_constituent_51 : decode b_X_constituent 51 = .ok (.new 49, 3) := by decide +kernel
theorem d_X_constituent_54 : decode b_X_constituent 54 = .ok (.dup, 1) := by decide +kernel
theorem d_X_constituent_55 : decode b_X_constituent 55 = .ok (.ldc 73, 2) := by decide +kernel
theorem d_X_constituent_57 : decode b_X_constituent 57 = .ok (.invokespecial 53, 3) := by decide +kernel
theorem d_X_constituent_60 : decode b_X_constituent 60 = .ok (.athrow, 1) := by decide +kernel
theorem d_X_constituent_61 : decode b_X_constituent 61 = .ok (.lload 5, 2) := by decide +kernel
theorem d_X_constituent_63 : decode b_X_constituent 63 = .ok (.invokestatic 75, 3) := by decide +kernel
theorem d_X_constituent_66 : decode b_X_constituent 66 = .ok (.ifCond .ne 13, 3) := by decide +kernel
theorem d_X_constituent_69 : decode b_X_constituent 69 = .ok (.new 49, 3) := by decide +kernel
theorem d_X_constituent_72 : decode b_X_constituent 72 = .ok (.dup, 1) := by decide +kernel
theorem d_X_constituent_73 : decode b_X_constituent 73 = .ok (.ldc 79, 2) := by decide +kernel
theorem d_X_constituent_75 : decode b_X_constituent 75 = .ok (.invokespecial 53, 3) := by decide +kernel
theorem d_X_constituent_78 : decode b_X_constituent 78 = .ok (.athrow, 1) := by decide +kernel
theorem d_X_constituent_79 : decode b_X_constituent 79 = .ok (.aload_n 0, 1) := by decide +kernel
theorem d_X_constituent_80 : decode b_X_constituent 80 = .ok (.getfield 9, 3) := by decide +kernel
theorem d_X_constituent_83 : decode b_X_constituent 83 = .ok (.iload_n 1, 1) := by decide +kernel
theorem d_X_constituent_84 : decode b_X_constituent 84 = .ok (.iload_n 2, 1) := by decide +kernel
theorem d_X_constituent_85 : decode b_X_constituent 85 = .ok (.iastore, 1) := by decide +kernel
theorem d_X_constituent_86 : decode b_X_constituent 86 = .ok (.aload_n 0, 1) := by decide +kernel
theorem d_X_constituent_87 : decode b_X_constituent 87 = .ok (.getfield 13, 3) := by decide +kernel
theorem d_X_constituent_90 : decode b_X_constituent 90 = .ok (.iload_n 1, 1) := by decide +kernel
theorem d_X_constituent_91 : decode b_X_constituent 91 = .ok (.lload_n 3, 1) := by decide +kernel
theorem d_X_constituent_92 : decode b_X_constituent 92 = .ok (.lastore, 1) := by decide +kernel
theorem d_X_constituent_93 : decode b_X_constituent 93 = .ok (.aload_n 0, 1) := by decide +kernel
theorem d_X_constituent_94 : decode b_X_constituent 94 = .ok (.getfield 17, 3) := by decide +kernel
theorem d_X_constituent_97 : decode b_X_constituent 97 = .ok (.iload_n 1, 1) := by decide +kernel
theorem d_X_constituent_98 : decode b_X_constituent 98 = .ok (.lload 5, 2) := by decide +kernel
theorem d_X_constituent_100 : decode b_X_constituent 100 = .ok (.lastore, 1) := by decide +kernel
theorem d_X_constituent_101 : decode b_X_constituent 101 = .ok (.aload_n 0, 1) := by decide +kernel
theorem d_X_constituent_102 : decode b_X_constituent 102 = .ok (.invokevirtual 81, 3) := by decide +kernel
theorem d_X_constituent_105 : decode b_X_constituent 105 = .ok (.return_, 1) := by decide +kernel
theorem d_X_node_0 : decode b_X_node 0 = .ok (.iload_n 1, 1) := by decide +kernel
theorem d_X_node_1 : decode b_X_node 1 = .ok (.invokestatic 59, 3) := by decide +kernel
theorem d_X_node_4 : decode b_X_node 4 = .ok (.ifCond .eq 10, 3) := by decide +kernel
theorem d_X_node_7 : decode b_X_node 7 = .ok (.iload_n 2, 1) := by decide +kernel
theorem d_X_node_8 : decode b_X_node 8 = .ok (.invokestatic 84, 3) := by decide +kernel
theorem d_X_node_11 : decode b_X_node 11 = .ok (.ifCond .ne 13, 3) := by decide +kernel
theorem d_X_node_14 : decode b_X_node 14 = .ok (.new 63, 3) := by decide +kernel
theorem d_X_node_17 : decode b_X_node 17 = .ok (.dup, 1) := by decide +kernel
theorem d_X_node_18 : decode b_X_node 18 = .ok (.ldc 87, 2) := by decide +kernel
theorem d_X_node_20 : decode b_X_node 20 = .ok (.invokespecial 67, 3) := by decide +kernel
theorem d_X_node_23 : decode b_X_node 23 = .ok (.athrow, 1) := by decide +kernel
theorem d_X_node_24 : decode b_X_node 24 = .ok (.iload_n 3, 1) := by decide +kernel
theorem d_X_node_25 : decode b_X_node 25 = .ok (.ifCond .lt 9, 3) := by decide +kernel
theorem d_X_node_28 : decode b_X_node 28 = .ok (.iload_n 3, 1) := by decide +kernel
theorem d_X_node_29 : decode b_X_node 29 = .ok (.ldc 89, 2) := by decide +kernel
theorem d_X_node_31 : decode b_X_node 31 = .ok (.if_icmp .le 13, 3) := by decide +kernel
theorem d_X_node_34 : decode b_X_node 34 = .ok (.new 49, 3) := by decide +kernel
theorem d_X_node_37 : decode b_X_node 37 = .ok (.dup, 1) := by decide +kernel
theorem d_X_node_38 : decode b_X_node 38 = .ok (.ldc 90, 2) := by decide +kernel
theorem d_X_node_40 : decode b_X_node 40 = .ok (.invokespecial 53, 3) := by decide +kernel
theorem d_X_node_43 : decode b_X_node 43 = .ok (.athrow, 1) := by decide +kernel
theorem d_X_node_44 : decode b_X_node 44 = .ok (.lload 4, 2) := by decide +kernel
theorem d_X_node_46 : decode b_X_node 46 = .ok (.invokestatic 75, 3) := by decide +kernel
theorem d_X_node_49 : decode b_X_node 49 = .ok (.ifCond .ne 13, 3) := by decide +kernel
theorem d_X_node_52 : decode b_X_node 52 = .ok (.new 49, 3) := by decide +kernel
theorem d_X_node_55 : decode b_X_node 55 = .ok (.dup, 1) := by decide +kernel
theorem d_X_node_56 : decode b_X_node 56 = .ok (.ldc 92, 2) := by decide +kernel
theorem d_X_node_58 : decode b_X_node 58 = .ok (.invokespecial 53, 3) := by decide +kernel
theorem d_X_node_61 : decode b_X_node 61 = .ok (.athrow, 1) := by decide +kernel
theorem d_X_node_62 : decode b_X_node 62 = .ok (.aload_n 0, 1) := by decide +kernel
theorem d_X_node_63 : decode b_X_node 63 = .ok (.getfield 22, 3) := by decide +kernel
theorem d_X_node_66 : decode b_X_node 66 = .ok (.iload_n 1, 1) := by decide +kernel
theorem d_X_node_67 : decode b_X_node 67 = .ok (.aaload, 1) := by decide +kernel
theorem d_X_node_68 : decode b_X_node 68 = .ok (.iload_n 2, 1) := by decide +kernel
theorem d_X_node_69 : decode b_X_node 69 = .ok (.iload_n 3, 1) := by decide +kernel
theorem d_X_node_70 : decode b_X_node 70 = .ok (.iastore, 1) := by decide +kernel
theorem d_X_node_71 : decode b_X_node 71 = .ok (.aload_n 0, 1) := by decide +kernel
theorem d_X_node_72 : decode b_X_node 72 = .ok (.getfield 27, 3) := by decide +kernel
theorem d_X_node_75 : decode b_X_node 75 = .ok (.iload_n 1, 1) := by decide +kernel
theorem d_X_node_76 : decode b_X_node 76 = .ok (.aaload, 1) := by decide +kernel
theorem d_X_node_77 : decode b_X_node 77 = .ok (.iload_n 2, 1) := by decide +kernel
theorem d_X_node_78 : decode b_X_node 78 = .ok (.lload 4, 2) := by decide +kernel
theorem d_X_node_80 : decode b_X_node 80 = .ok (.lastore, 1) := by decide +kernel
theorem d_X_node_81 : decode b_X_node 81 = .ok (.aload_n 0, 1) := by decide +kernel
theorem d_X_node_82 : decode b_X_node 82 = .ok (.invokevirtual 81, 3) := by decide +kernel
theorem d_X_node_85 : decode b_X_node 85 = .ok (.return_, 1) := by decide +kernel
theorem d_X_days_0 : decode b_X_days 0 = .ok (.iload_n 1, 1) := by decide +kernel
theorem d_X_days_1 : decode b_X_days 1 = .ok (.invokestatic 84, 3) := by decide +kernel
theorem d_X_days_4 : decode b_X_days 4 = .ok (.ifCond .ne 13, 3) := by decide +kernel
theorem d_X_days_7 : decode b_X_days 7 = .ok (.new 63, 3) := by decide +kernel
theorem d_X_days_10 : decode b_X_days 10 = .ok (.dup, 1) := by decide +kernel
theorem d_X_days_11 : decode b_X_days 11 = .ok (.ldc 94, 2) := by decide +kernel
theorem d_X_days_13 : decode b_X_days 13 = .ok (.invokespecial 67, 3) := by decide +kernel
theorem d_X_days_16 : decode b_X_days 16 = .ok (.athrow, 1) := by decide +kernel
theorem d_X_days_17 : decode b_X_days 17 = .ok (.iload_n 2, 1) := by decide +kernel
theorem d_X_days_18 : decode b_X_days 18 = .ok (.sipush 365, 3) := by decide +kernel
theorem d_X_days_21 : decode b_X_days 21 = .ok (.if_icmp .eq 20, 3) := by decide +kernel
theorem d_X_days_24 : decode b_X_days 24 = .ok (.iload_n 2, 1) := by decide +kernel
theorem d_X_days_25 : decode b_X_days 25 = .ok (.sipush 366, 3) := by decide +kernel
theorem d_X_days_28 : decode b_X_days 28 = .ok (.if_icmp .eq 13, 3) := by decide +kernel
theorem d_X_days_31 : decode b_X_days 31 = .ok (.new 49, 3) := by decide +kernel
theorem d_X_days_34 : decode b_X_days 34 = .ok (.dup, 1) := by decide +kernel
theorem d_X_days_35 : decode b_X_days 35 = .ok (.ldc 96, 2) := by decide +kernel
theorem d_X_days_37 : decode b_X_days 37 = .ok (.invokespecial 53, 3) := by decide +kernel
theorem d_X_days_40 : decode b_X_days 40 = .ok (.athrow, 1) := by decide +kernel
theorem d_X_days_41 : decode b_X_days 41 = .ok (.aload_n 0, 1) := by decide +kernel
theorem d_X_days_42 : decode b_X_days 42 = .ok (.getfield 30, 3) := by decide +kernel
theorem d_X_days_45 : decode b_X_days 45 = .ok (.iload_n 1, 1) := by decide +kernel
theorem d_X_days_46 : decode b_X_days 46 = .ok (.iconst 1, 1) := by decide +kernel
theorem d_X_days_47 : decode b_X_days 47 = .ok (.iadd, 1) := by decide +kernel
theorem d_X_days_48 : decode b_X_days 48 = .ok (.iaload, 1) := by decide +kernel
theorem d_X_days_49 : decode b_X_days 49 = .ok (.aload_n 0, 1) := by decide +kernel
theorem d_X_days_50 : decode b_X_days 50 = .ok (.getfield 30, 3) := by decide +kernel
theorem d_X_days_53 : decode b_X_days 53 = .ok (.iload_n 1, 1) := by decide +kernel
theorem d_X_days_54 : decode b_X_days 54 = .ok (.iaload, 1) := by decide +kernel
theorem d_X_days_55 : decode b_X_days 55 = .ok (.isub, 1) := by decide +kernel
theorem d_X_days_56 : decode b_X_days 56 = .ok (.sipush 1440, 3) := by decide +kernel
theorem d_X_days_59 : decode b_X_days 59 = .ok (.idiv, 1) := by decide +kernel
theorem d_X_days_60 : decode b_X_days 60 = .ok (.istore_n 3, 1) := by decide +kernel
theorem d_X_days_61 : decode b_X_days 61 = .ok (.iload_n 1, 1) := by decide +kernel
theorem d_X_days_62 : decode b_X_days 62 = .ok (.iconst 1, 1) := by decide +kernel
theorem d_X_days_63 : decode b_X_days 63 = .ok (.iadd, 1) := by decide +kernel
theorem d_X_days_64 : decode b_X_days 64 = .ok (.istore 4, 2) := by decide +kernel
theorem d_X_days_66 : decode b_X_days 66 = .ok (.iload 4, 2) := by decide +kernel
theorem d_X_days_68 : decode b_X_days 68 = .ok (.bipush 10, 2) := by decide +kernel
theorem d_X_days_70 : decode b_X_days 70 = .ok (.if_icmp .gt 26, 3) := by decide +kernel
theorem d_X_days_73 : decode b_X_days 73 = .ok (.aload_n 0, 1) := by decide +kernel
theorem d_X_days_74 : decode b_X_days 74 = .ok (.getfield 30, 3) := by decide +kernel
theorem d_X_days_77 : decode b_X_days 77 = .ok (.iload 4, 2) := by decide +kernel
theorem d_X_days_79 : decode b_X_days 79 = .ok (.dup2, 1) := by decide +kernel
theorem d_X_days_80 : decode b_X_days 80 = .ok (.iaload, 1) := by decide +kernel
theorem d_X_days_81 : decode b_X_days 81 = .ok (.iload_n 2, 1) := by decide +kernel
theorem d_X_days_82 : decode b_X_days 82 = .ok (.iload_n 3, 1) := by decide +kernel
theorem d_X_days_83 : decode b_X_days 83 = .ok (.isub, 1) := by decide +kernel
theorem d_X_days_84 : decode b_X_days 84 = .ok (.sipush 1440, 3) := by decide +kernel
theorem d_X_days_87 : decode b_X_days 87 = .ok (.imul, 1) := by decide +kernel
theorem d_X_days_88 : decode b_X_days 88 = .ok (.iadd, 1) := by decide +kernel
theorem d_X_days_89 : decode b_X_days 89 = .ok (.iastore, 1) := by decide +kernel
theorem d_X_days_90 : decode b_X_days 90 = .ok (.iinc 4 1, 3) := by decide +kernel
theorem d_X_days_93 : decode b_X_days 93 = .ok (.goto (-27), 3) := by decide +kernel
theorem d_X_days_96 : decode b_X_days 96 = .ok (.aload_n 0, 1) := by decide +kernel
theorem d_X_days_97 : decode b_X_days 97 = .ok (.invokevirtual 81, 3) := by decide +kernel
theorem d_X_days_100 : decode b_X_days 100 = .ok (.iload_n 3, 1) := by decide +kernel
theorem d_X_days_101 : decode b_X_days 101 = .ok (.ireturn, 1) := by decide +kernel
theorem d_X_first_0 : decode b_X_first 0 = .ok (.iload_n 1, 1) := by decide +kernel
theorem d_X_first_1 : decode b_X_first 1 = .ok (.invokestatic 84, 3) := by decide +kernel
theorem d_X_first_4 : decode b_X_first 4 = .ok (.ifCond .ne 19, 3) := by decide +kernel
theorem d_X_first_7 : decode b_X_first 7 = .ok (.iload_n 1, 1) := by decide +kernel
theorem d_X_first_8 : decode b_X_first 8 = .ok (.bipush 10, 2) := by decide +kernel
theorem d_X_first_10 : decode b_X_first 10 = .ok (.if_icmp .eq 13, 3) := by decide +kernel
theorem d_X_first_13 : decode b_X_first 13 = .ok (.new 63, 3) := by decide +kernel
theorem d_X_first_16 : decode b_X_first 16 = .ok (.dup, 1) := by decide +kernel
theorem d_X_first_17 : decode b_X_first 17 = .ok (.ldc 94, 2) := by decide +kernel
theorem d_X_first_19 : decode b_X_first 19 = .ok (.invokespecial 67, 3) := by decide +kernel
theorem d_X_first_22 : decode b_X_first 22 = .ok (.athrow, 1) := by decide +kernel
theorem d_X_first_23 : decode b_X_first 23 = .ok (.aload_n 0, 1) := by decide +kernel
theorem d_X_first_24 : decode b_X_first 24 = .ok (.getfield 30, 3) := by decide +kernel
theorem d_X_first_27 : decode b_X_first 27 = .ok (.iload_n 1, 1) := by decide +kernel
theorem d_X_first_28 : decode b_X_first 28 = .ok (.iaload, 1) := by decide +kernel
theorem d_X_first_29 : decode b_X_first 29 = .ok (.ireturn, 1) := by decide +kernel
theorem d_X_year_0 : decode b_X_year 0 = .ok (.aload_n 0, 1) := by decide +kernel
theorem d_X_year_1 : decode b_X_year 1 = .ok (.iload_n 1, 1) := by decide +kernel
theorem d_X_year_2 : decode b_X_year 2 = .ok (.invokevirtual 98, 3) := by decide +kernel
theorem d_X_year_5 : decode b_X_year 5 = .ok (.ifCond .ne 13, 3) := by decide +kernel
theorem d_X_year_8 : decode b_X_year 8 = .ok (.new 63, 3) := by decide +kernel
theorem d_X_year_11 : decode b_X_year 11 = .ok (.dup, 1) := by decide +kernel
theorem d_X_year_12 : decode b_X_year 12 = .ok (.ldc 101, 2) := by decide +kernel
theorem d_X_year_14 : decode b_X_year 14 = .ok (.invokespecial 67, 3) := by decide +kernel
theorem d_X_year_17 : decode b_X_year 17 = .ok (.athrow, 1) := by decide +kernel
theorem d_X_year_18 : decode b_X_year 18 = .ok (.aload_n 0, 1) := by decide +kernel
theorem d_X_year_19 : decode b_X_year 19 = .ok (.iload_n 1, 1) := by decide +kernel
theorem d_X_year_20 : decode b_X_year 20 = .ok (.invokevirtual 103, 3) := by decide +kernel
theorem d_X_year_23 : decode b_X_year 23 = .ok (.ireturn, 1) := by decide +kernel
theorem d_X_position_0 : decode b_X_position 0 = .ok (.iload_n 1, 1) := by decide +kernel
theorem d_X_position_1 : decode b_X_position 1 = .ok (.invokestatic 59, 3) := by decide +kernel
theorem d_X_position_4 : decode b_X_position 4 = .ok (.ifCond .eq 11, 3) := by decide +kernel
theorem d_X_position_7 : decode b_X_position 7 = .ok (.aload_n 0, 1) := by decide +kernel
theorem d_X_position_8 : decode b_X_position 8 = .ok (.iload_n 2, 1) := by decide +kernel
theorem d_X_position_9 : decode b_X_position 9 = .ok (.invokevirtual 98, 3) := by decide +kernel
theorem d_X_position_12 : decode b_X_position 12 = .ok (.ifCond .ne 13, 3) := by decide +kernel
theorem d_X_position_15 : decode b_X_position 15 = .ok (.new 63, 3) := by decide +kernel
theorem d_X_position_18 : decode b_X_position 18 = .ok (.dup, 1) := by decide +kernel
theorem d_X_position_19 : decode b_X_position 19 = .ok (.ldc 107, 2) := by decide +kernel
theorem d_X_position_21 : decode b_X_position 21 = .ok (.invokespecial 67, 3) := by decide +kernel
theorem d_X_position_24 : decode b_X_position 24 = .ok (.athrow, 1) := by decide +kernel
theorem d_X_position_25 : decode b_X_position 25 = .ok (.aload_n 0, 1) := by decide +kernel
theorem d_X_position_26 : decode b_X_position 26 = .ok (.iload_n 1, 1) := by decide +kernel
theorem d_X_position_27 : decode b_X_position 27 = .ok (.iload_n 2, 1) := by decide +kernel
theorem d_X_position_28 : decode b_X_position 28 = .ok (.aload_n 0, 1) := by decide +kernel
theorem d_X_position_29 : decode b_X_position 29 = .ok (.iload_n 2, 1) := by decide +kernel
theorem d_X_position_30 : decode b_X_position 30 = .ok (.invokevirtual 103, 3) := by decide +kernel
theorem d_X_position_33 : decode b_X_position 33 = .ok (.invokevirtual 109, 3) := by decide +kernel
theorem d_X_position_36 : decode b_X_position 36 = .ok (.lreturn, 1) := by decide +kernel
theorem d_X_cosine_0 : decode b_X_cosine 0 = .ok (.lload_n 1, 1) := by decide +kernel
theorem d_X_cosine_1 : decode b_X_cosine 1 = .ok (.invokestatic 75, 3) := by decide +kernel
theorem d_X_cosine_4 : decode b_X_cosine 4 = .ok (.ifCond .ne 13, 3) := by decide +kernel
theorem d_X_cosine_7 : decode b_X_cosine 7 = .ok (.new 49, 3) := by decide +kernel
theorem d_X_cosine_10 : decode b_X_cosine 10 = .ok (.dup, 1) := by decide +kernel
theorem d_X_cosine_11 : decode b_X_cosine 11 = .ok (.ldc 113, 2) := by decide +kernel
theorem d_X_cosine_13 : decode b_X_cosine 13 = .ok (.invokespecial 53, 3) := by decide +kernel
theorem d_X_cosine_16 : decode b_X_cosine 16 = .ok (.athrow, 1) := by decide +kernel
theorem d_X_cosine_17 : decode b_X_cosine 17 = .ok (.lload_n 1, 1) := by decide +kernel
theorem d_X_cosine_18 : decode b_X_cosine 18 = .ok (.invokestatic 115, 3) := by decide +kernel
theorem d_X_cosine_21 : decode b_X_cosine 21 = .ok (.ireturn, 1) := by decide +kernel
theorem d_X_height_0 : decode b_X_height 0 = .ok (.aload_n 0, 1) := by decide +kernel
theorem d_X_height_1 : decode b_X_height 1 = .ok (.iload_n 1, 1) := by decide +kernel
theorem d_X_height_2 : decode b_X_height 2 = .ok (.invokevirtual 98, 3) := by decide +kernel
theorem d_X_height_5 : decode b_X_height 5 = .ok (.ifCond .ne 13, 3) := by decide +kernel
theorem d_X_height_8 : decode b_X_height 8 = .ok (.new 63, 3) := by decide +kernel
theorem d_X_height_11 : decode b_X_height 11 = .ok (.dup, 1) := by decide +kernel
theorem d_X_height_12 : decode b_X_height 12 = .ok (.ldc 101, 2) := by decide +kernel
theorem d_X_height_14 : decode b_X_height 14 = .ok (.invokespecial 67, 3) := by decide +kernel
theorem d_X_height_17 : decode b_X_height 17 = .ok (.athrow, 1) := by decide +kernel
theorem d_X_height_18 : decode b_X_height 18 = .ok (.aload_n 0, 1) := by decide +kernel
theorem d_X_height_19 : decode b_X_height 19 = .ok (.iload_n 1, 1) := by decide +kernel
theorem d_X_height_20 : decode b_X_height 20 = .ok (.invokevirtual 119, 3) := by decide +kernel
theorem d_X_height_23 : decode b_X_height 23 = .ok (.ireturn, 1) := by decide +kernel
theorem d_X_mean_0 : decode b_X_mean 0 = .ok (.iload_n 2, 1) := by decide +kernel
theorem d_X_mean_1 : decode b_X_mean 1 = .ok (.iconst 1, 1) := by decide +kernel
theorem d_X_mean_2 : decode b_X_mean 2 = .ok (.if_icmp .lt 10, 3) := by decide +kernel
theorem d_X_mean_5 : decode b_X_mean 5 = .ok (.iload_n 2, 1) := by decide +kernel
theorem d_X_mean_6 : decode b_X_mean 6 = .ok (.sipush 2000, 3) := by decide +kernel
theorem d_X_mean_9 : decode b_X_mean 9 = .ok (.if_icmp .le 13, 3) := by decide +kernel
theorem d_X_mean_12 : decode b_X_mean 12 = .ok (.new 49, 3) := by decide +kernel
theorem d_X_mean_15 : decode b_X_mean 15 = .ok (.dup, 1) := by decide +kernel
theorem d_X_mean_16 : decode b_X_mean 16 = .ok (.ldc 122, 2) := by decide +kernel
theorem d_X_mean_18 : decode b_X_mean 18 = .ok (.invokespecial 53, 3) := by decide +kernel
theorem d_X_mean_21 : decode b_X_mean 21 = .ok (.athrow, 1) := by decide +kernel
theorem d_X_mean_22 : decode b_X_mean 22 = .ok (.iload_n 1, 1) := by decide +kernel
theorem d_X_mean_23 : decode b_X_mean 23 = .ok (.ifCond .lt 16, 3) := by decide +kernel
theorem d_X_mean_26 : decode b_X_mean 26 = .ok (.iload_n 1, 1) := by decide +kernel
theorem d_X_mean_27 : decode b_X_mean 27 = .ok (.aload_n 0, 1) := by decide +kernel
theorem d_X_mean_28 : decode b_X_mean 28 = .ok (.getfield 30, 3) := by decide +kernel
theorem d_X_mean_31 : decode b_X_mean 31 = .ok (.bipush 10, 2) := by decide +kernel
theorem d_X_mean_33 : decode b_X_mean 33 = .ok (.iaload, 1) := by decide +kernel
theorem d_X_mean_34 : decode b_X_mean 34 = .ok (.iload_n 2, 1) := by decide +kernel
theorem d_X_mean_35 : decode b_X_mean 35 = .ok (.isub, 1) := by decide +kernel
theorem d_X_mean_36 : decode b_X_mean 36 = .ok (.if_icmp .le 13, 3) := by decide +kernel
theorem d_X_mean_39 : decode b_X_mean 39 = .ok (.new 63, 3) := by decide +kernel
theorem d_X_mean_42 : decode b_X_mean 42 = .ok (.dup, 1) := by decide +kernel
theorem d_X_mean_43 : decode b_X_mean 43 = .ok (.ldc 101, 2) := by decide +kernel
theorem d_X_mean_45 : decode b_X_mean 45 = .ok (.invokespecial 67, 3) := by decide +kernel
theorem d_X_mean_48 : decode b_X_mean 48 = .ok (.athrow, 1) := by decide +kernel
theorem d_X_mean_49 : decode b_X_mean 49 = .ok (.lconst 0, 1) := by decide +kernel
theorem d_X_mean_50 : decode b_X_mean 50 = .ok (.lstore_n 3, 1) := by decide +kernel
theorem d_X_mean_51 : decode b_X_mean 51 = .ok (.iconst 0, 1) := by decide +kernel
theorem d_X_mean_52 : decode b_X_mean 52 = .ok (.istore 5, 2) := by decide +kernel
theorem d_X_mean_54 : decode b_X_mean 54 = .ok (.iload 5, 2) := by decide +kernel
theorem d_X_mean_56 : decode b_X_mean 56 = .ok (.iload_n 2, 1) := by decide +kernel
theorem d_X_mean_57 : decode b_X_mean 57 = .ok (.if_icmp .ge 21, 3) := by decide +kernel
theorem d_X_mean_60 : decode b_X_mean 60 = .ok (.lload_n 3, 1) := by decide +kernel
theorem d_X_mean_61 : decode b_X_mean 61 = .ok (.aload_n 0, 1) := by decide +kernel
theorem d_X_mean_62 : decode b_X_mean 62 = .ok (.iload_n 1, 1) := by decide +kernel
theorem d_X_mean_63 : decode b_X_mean 63 = .ok (.iload 5, 2) := by decide +kernel
theorem d_X_mean_65 : decode b_X_mean 65 = .ok (.iadd, 1) := by decide +kernel
theorem d_X_mean_66 : decode b_X_mean 66 = .ok (.invokevirtual 119, 3) := by decide +kernel
theorem d_X_mean_69 : decode b_X_mean 69 = .ok (.i2l, 1) := by decide +kernel
theorem d_X_mean_70 : decode b_X_mean 70 = .ok (.ladd, 1) := by decide +kernel
theorem d_X_mean_71 : decode b_X_mean 71 = .ok (.lstore_n 3, 1) := by decide +kernel
theorem d_X_mean_72 : decode b_X_mean 72 = .ok (.iinc 5 1, 3) := by decide +kernel
theorem d_X_mean_75 : decode b_X_mean 75 = .ok (.goto (-21), 3) := by decide +kernel
theorem d_X_mean_78 : decode b_X_mean 78 = .ok (.lload_n 3, 1) := by decide +kernel
theorem d_X_mean_79 : decode b_X_mean 79 = .ok (.iload_n 2, 1) := by decide +kernel
theorem d_X_mean_80 : decode b_X_mean 80 = .ok (.i2l, 1) := by decide +kernel
theorem d_X_mean_81 : decode b_X_mean 81 = .ok (.invokestatic 124, 3) := by decide +kernel
theorem d_X_mean_84 : decode b_X_mean 84 = .ok (.l2i, 1) := by decide +kernel
theorem d_X_mean_85 : decode b_X_mean 85 = .ok (.ireturn, 1) := by decide +kernel
theorem d_X_extremes_0 : decode b_X_extremes 0 = .ok (.aload_n 0, 1) := by decide +kernel
theorem d_X_extremes_1 : decode b_X_extremes 1 = .ok (.iload_n 1, 1) := by decide +kernel
theorem d_X_extremes_2 : decode b_X_extremes 2 = .ok (.invokevirtual 130, 3) := by decide +kernel
theorem d_X_extremes_5 : decode b_X_extremes 5 = .ok (.ifCond .ne 13, 3) := by decide +kernel
theorem d_X_extremes_8 : decode b_X_extremes 8 = .ok (.new 63, 3) := by decide +kernel
theorem d_X_extremes_11 : decode b_X_extremes 11 = .ok (.dup, 1) := by decide +kernel
theorem d_X_extremes_12 : decode b_X_extremes 12 = .ok (.ldc 133, 2) := by decide +kernel
theorem d_X_extremes_14 : decode b_X_extremes 14 = .ok (.invokespecial 67, 3) := by decide +kernel
theorem d_X_extremes_17 : decode b_X_extremes 17 = .ok (.athrow, 1) := by decide +kernel
theorem d_X_extremes_18 : decode b_X_extremes 18 = .ok (.aload_n 0, 1) := by decide +kernel
theorem d_X_extremes_19 : decode b_X_extremes 19 = .ok (.iload_n 1, 1) := by decide +kernel
theorem d_X_extremes_20 : decode b_X_extremes 20 = .ok (.invokevirtual 135, 3) := by decide +kernel
theorem d_X_extremes_23 : decode b_X_extremes 23 = .ok (.ireturn, 1) := by decide +kernel
theorem d_X_extreme_0 : decode b_X_extreme 0 = .ok (.aload_n 0, 1) := by decide +kernel
theorem d_X_extreme_1 : decode b_X_extreme 1 = .ok (.iload_n 1, 1) := by decide +kernel
theorem d_X_extreme_2 : decode b_X_extreme 2 = .ok (.iload_n 2, 1) := by decide +kernel
theorem d_X_extreme_3 : decode b_X_extreme 3 = .ok (.invokevirtual 138, 3) := by decide +kernel
theorem d_X_extreme_6 : decode b_X_extreme 6 = .ok (.ifCond .ne 13, 3) := by decide +kernel
theorem d_X_extreme_9 : decode b_X_extreme 9 = .ok (.new 63, 3) := by decide +kernel
theorem d_X_extreme_12 : decode b_X_extreme 12 = .ok (.dup, 1) := by decide +kernel
theorem d_X_extreme_13 : decode b_X_extreme 13 = .ok (.ldc 142, 2) := by decide +kernel
theorem d_X_extreme_15 : decode b_X_extreme 15 = .ok (.invokespecial 67, 3) := by decide +kernel
theorem d_X_extreme_18 : decode b_X_extreme 18 = .ok (.athrow, 1) := by decide +kernel
theorem d_X_extreme_19 : decode b_X_extreme 19 = .ok (.aload_n 0, 1) := by decide +kernel
theorem d_X_extreme_20 : decode b_X_extreme 20 = .ok (.getfield 33, 3) := by decide +kernel
theorem d_X_extreme_23 : decode b_X_extreme 23 = .ok (.iload_n 2, 1) := by decide +kernel
theorem d_X_extreme_24 : decode b_X_extreme 24 = .ok (.iaload, 1) := by decide +kernel
theorem d_X_extreme_25 : decode b_X_extreme 25 = .ok (.istore 4, 2) := by decide +kernel
theorem d_X_extreme_27 : decode b_X_extreme 27 = .ok (.iload_n 3, 1) := by decide +kernel
theorem d_X_extreme_28 : decode b_X_extreme 28 = .ok (.tableswitch 53 0 2 #[28, 31, 38], 28) := by decide +kernel
theorem d_X_extreme_56 : decode b_X_extreme 56 = .ok (.iload 4, 2) := by decide +kernel
theorem d_X_extreme_58 : decode b_X_extreme 58 = .ok (.ireturn, 1) := by decide +kernel
theorem d_X_extreme_59 : decode b_X_extreme 59 = .ok (.aload_n 0, 1) := by decide +kernel
theorem d_X_extreme_60 : decode b_X_extreme 60 = .ok (.iload 4, 2) := by decide +kernel
theorem d_X_extreme_62 : decode b_X_extreme 62 = .ok (.invokevirtual 119, 3) := by decide +kernel
theorem d_X_extreme_65 : decode b_X_extreme 65 = .ok (.ireturn, 1) := by decide +kernel
theorem d_X_extreme_66 : decode b_X_extreme 66 = .ok (.aload_n 0, 1) := by decide +kernel
theorem d_X_extreme_67 : decode b_X_extreme 67 = .ok (.iload 4, 2) := by decide +kernel
theorem d_X_extreme_69 : decode b_X_extreme 69 = .ok (.invokevirtual 144, 3) := by decide +kernel
theorem d_X_extreme_72 : decode b_X_extreme 72 = .ok (.ifCond .eq 7, 3) := by decide +kernel
theorem d_X_extreme_75 : decode b_X_extreme 75 = .ok (.iconst 1, 1) := by decide +kernel
theorem d_X_extreme_76 : decode b_X_extreme 76 = .ok (.goto 4, 3) := by decide +kernel
theorem d_X_extreme_79 : decode b_X_extreme 79 = .ok (.iconst 0, 1) := by decide +kernel
theorem d_X_extreme_80 : decode b_X_extreme 80 = .ok (.ireturn, 1) := by decide +kernel
theorem d_X_extreme_81 : decode b_X_extreme 81 = .ok (.new 49, 3) := by decide +kernel
theorem d_X_extreme_84 : decode b_X_extreme 84 = .ok (.dup, 1) := by decide +kernel
theorem d_X_extreme_85 : decode b_X_extreme 85 = .ok (.ldc 147, 2) := by decide +kernel
theorem d_X_extreme_87 : decode b_X_extreme 87 = .ok (.invokespecial 53, 3) := by decide +kernel
theorem d_X_extreme_90 : decode b_X_extreme 90 = .ok (.athrow, 1) := by decide +kernel
theorem d_X_line_0 : decode b_X_line 0 = .ok (.aload_n 0, 1) := by decide +kernel
theorem d_X_line_1 : decode b_X_line 1 = .ok (.iload_n 1, 1) := by decide +kernel
theorem d_X_line_2 : decode b_X_line 2 = .ok (.iload_n 2, 1) := by decide +kernel
theorem d_X_line_3 : decode b_X_line 3 = .ok (.invokevirtual 138, 3) := by decide +kernel
theorem d_X_line_6 : decode b_X_line 6 = .ok (.ifCond .ne 13, 3) := by decide +kernel
theorem d_X_line_9 : decode b_X_line 9 = .ok (.new 63, 3) := by decide +kernel
theorem d_X_line_12 : decode b_X_line 12 = .ok (.dup, 1) := by decide +kernel
theorem d_X_line_13 : decode b_X_line 13 = .ok (.ldc 142, 2) := by decide +kernel
theorem d_X_line_15 : decode b_X_line 15 = .ok (.invokespecial 67, 3) := by decide +kernel
theorem d_X_line_18 : decode b_X_line 18 = .ok (.athrow, 1) := by decide +kernel
theorem d_X_line_19 : decode b_X_line 19 = .ok (.aload_n 0, 1) := by decide +kernel
theorem d_X_line_20 : decode b_X_line 20 = .ok (.aload_n 0, 1) := by decide +kernel
theorem d_X_line_21 : decode b_X_line 21 = .ok (.getfield 33, 3) := by decide +kernel
theorem d_X_line_24 : decode b_X_line 24 = .ok (.iload_n 2, 1) := by decide +kernel
theorem d_X_line_25 : decode b_X_line 25 = .ok (.iaload, 1) := by decide +kernel
theorem d_X_line_26 : decode b_X_line 26 = .ok (.invokevirtual 149, 3) := by decide +kernel
theorem d_X_line_29 : decode b_X_line 29 = .ok (.invokevirtual 153, 3) := by decide +kernel
theorem d_X_line_32 : decode b_X_line 32 = .ok (.ireturn, 1) := by decide +kernel
theorem d_X_sign_0 : decode b_X_sign 0 = .ok (.aload_n 0, 1) := by decide +kernel
theorem d_X_sign_1 : decode b_X_sign 1 = .ok (.iload_n 1, 1) := by decide +kernel
theorem d_X_sign_2 : decode b_X_sign 2 = .ok (.iload_n 2, 1) := by decide +kernel
theorem d_X_sign_3 : decode b_X_sign 3 = .ok (.invokevirtual 138, 3) := by decide +kernel
theorem d_X_sign_6 : decode b_X_sign 6 = .ok (.ifCond .ne 13, 3) := by decide +kernel
theorem d_X_sign_9 : decode b_X_sign 9 = .ok (.new 63, 3) := by decide +kernel
theorem d_X_sign_12 : decode b_X_sign 12 = .ok (.dup, 1) := by decide +kernel
theorem d_X_sign_13 : decode b_X_sign 13 = .ok (.ldc 142, 2) := by decide +kernel
theorem d_X_sign_15 : decode b_X_sign 15 = .ok (.invokespecial 67, 3) := by decide +kernel
theorem d_X_sign_18 : decode b_X_sign 18 = .ok (.athrow, 1) := by decide +kernel
theorem d_X_sign_19 : decode b_X_sign 19 = .ok (.aload_n 0, 1) := by decide +kernel
theorem d_X_sign_20 : decode b_X_sign 20 = .ok (.aload_n 0, 1) := by decide +kernel
theorem d_X_sign_21 : decode b_X_sign 21 = .ok (.getfield 33, 3) := by decide +kernel
theorem d_X_sign_24 : decode b_X_sign 24 = .ok (.iload_n 2, 1) := by decide +kernel
theorem d_X_sign_25 : decode b_X_sign 25 = .ok (.iaload, 1) := by decide +kernel
theorem d_X_sign_26 : decode b_X_sign 26 = .ok (.invokevirtual 149, 3) := by decide +kernel
theorem d_X_sign_29 : decode b_X_sign 29 = .ok (.astore 4, 2) := by decide +kernel
theorem d_X_sign_31 : decode b_X_sign 31 = .ok (.iload_n 3, 1) := by decide +kernel
theorem d_X_sign_32 : decode b_X_sign 32 = .ok (.ifCond .lt 12, 3) := by decide +kernel
theorem d_X_sign_35 : decode b_X_sign 35 = .ok (.iload_n 3, 1) := by decide +kernel
theorem d_X_sign_36 : decode b_X_sign 36 = .ok (.aload 4, 2) := by decide +kernel
theorem d_X_sign_38 : decode b_X_sign 38 = .ok (.invokevirtual 153, 3) := by decide +kernel
theorem d_X_sign_41 : decode b_X_sign 41 = .ok (.if_icmp .lt 13, 3) := by decide +kernel
theorem d_X_sign_44 : decode b_X_sign 44 = .ok (.new 63, 3) := by decide +kernel
theorem d_X_sign_47 : decode b_X_sign 47 = .ok (.dup, 1) := by decide +kernel
theorem d_X_sign_48 : decode b_X_sign 48 = .ok (.ldc 159, 2) := by decide +kernel
theorem d_X_sign_50 : decode b_X_sign 50 = .ok (.invokespecial 67, 3) := by decide +kernel
theorem d_X_sign_53 : decode b_X_sign 53 = .ok (.athrow, 1) := by decide +kernel
theorem d_X_sign_54 : decode b_X_sign 54 = .ok (.aload 4, 2) := by decide +kernel
theorem d_X_sign_56 : decode b_X_sign 56 = .ok (.iload_n 3, 1) := by decide +kernel
theorem d_X_sign_57 : decode b_X_sign 57 = .ok (.invokevirtual 161, 3) := by decide +kernel
theorem d_X_sign_60 : decode b_X_sign 60 = .ok (.ireturn, 1) := by decide +kernel
theorem d_X_above_0 : decode b_X_above 0 = .ok (.iload_n 3, 1) := by decide +kernel
theorem d_X_above_1 : decode b_X_above 1 = .ok (.iconst 1, 1) := by decide +kernel
theorem d_X_above_2 : decode b_X_above 2 = .ok (.if_icmp .lt 10, 3) := by decide +kernel
theorem d_X_above_5 : decode b_X_above 5 = .ok (.iload_n 3, 1) := by decide +kernel
theorem d_X_above_6 : decode b_X_above 6 = .ok (.sipush 1000, 3) := by decide +kernel
theorem d_X_above_9 : decode b_X_above 9 = .ok (.if_icmp .le 13, 3) := by decide +kernel
theorem d_X_above_12 : decode b_X_above 12 = .ok (.new 49, 3) := by decide +kernel
theorem d_X_above_15 : decode b_X_above 15 = .ok (.dup, 1) := by decide +kernel
theorem d_X_above_16 : decode b_X_above 16 = .ok (.ldc 165, 2) := by decide +kernel
theorem d_X_above_18 : decode b_X_above 18 = .ok (.invokespecial 53, 3) := by decide +kernel
theorem d_X_above_21 : decode b_X_above 21 = .ok (.athrow, 1) := by decide +kernel
theorem d_X_above_22 : decode b_X_above 22 = .ok (.aload_n 0, 1) := by decide +kernel
theorem d_X_above_23 : decode b_X_above 23 = .ok (.iload_n 1, 1) := by decide +kernel
theorem d_X_above_24 : decode b_X_above 24 = .ok (.invokevirtual 98, 3) := by decide +kernel
theorem d_X_above_27 : decode b_X_above 27 = .ok (.ifCond .ne 13, 3) := by decide +kernel
theorem d_X_above_30 : decode b_X_above 30 = .ok (.new 63, 3) := by decide +kernel
theorem d_X_above_33 : decode b_X_above 33 = .ok (.dup, 1) := by decide +kernel
theorem d_X_above_34 : decode b_X_above 34 = .ok (.ldc 101, 2) := by decide +kernel
theorem d_X_above_36 : decode b_X_above 36 = .ok (.invokespecial 67, 3) := by decide +kernel
theorem d_X_above_39 : decode b_X_above 39 = .ok (.athrow, 1) := by decide +kernel
theorem d_X_above_40 : decode b_X_above 40 = .ok (.aload_n 0, 1) := by decide +kernel
theorem d_X_above_41 : decode b_X_above 41 = .ok (.getfield 30, 3) := by decide +kernel
theorem d_X_above_44 : decode b_X_above 44 = .ok (.bipush 10, 2) := by decide +kernel
theorem d_X_above_46 : decode b_X_above 46 = .ok (.iaload, 1) := by decide +kernel
theorem d_X_above_47 : decode b_X_above 47 = .ok (.iload_n 1, 1) := by decide +kernel
theorem d_X_above_48 : decode b_X_above 48 = .ok (.sipush 3000, 3) := by decide +kernel
theorem d_X_above_51 : decode b_X_above 51 = .ok (.iadd, 1) := by decide +kernel
theorem d_X_above_52 : decode b_X_above 52 = .ok (.iload_n 3, 1) := by decide +kernel
theorem d_X_above_53 : decode b_X_above 53 = .ok (.iadd, 1) := by decide +kernel
theorem d_X_above_54 : decode b_X_above 54 = .ok (.iconst 1, 1) := by decide +kernel
theorem d_X_above_55 : decode b_X_above 55 = .ok (.isub, 1) := by decide +kernel
theorem d_X_above_56 : decode b_X_above 56 = .ok (.invokestatic 167, 3) := by decide +kernel
theorem d_X_above_59 : decode b_X_above 59 = .ok (.istore 4, 2) := by decide +kernel
theorem d_X_above_61 : decode b_X_above 61 = .ok (.iconst 0, 1) := by decide +kernel
theorem d_X_above_62 : decode b_X_above 62 = .ok (.istore 5, 2) := by decide +kernel
theorem d_X_above_64 : decode b_X_above 64 = .ok (.iload_n 1, 1) := by decide +kernel
theorem d_X_above_65 : decode b_X_above 65 = .ok (.istore 6, 2) := by decide +kernel
theorem d_X_above_67 : decode b_X_above 67 = .ok (.iload 6, 2) := by decide +kernel
theorem d_X_above_69 : decode b_X_above 69 = .ok (.iload 4, 2) := by decide +kernel
theorem d_X_above_71 : decode b_X_above 71 = .ok (.if_icmp .ge 42, 3) := by decide +kernel
theorem d_X_above_74 : decode b_X_above 74 = .ok (.aload_n 0, 1) := by decide +kernel
theorem d_X_above_75 : decode b_X_above 75 = .ok (.iload 6, 2) := by decide +kernel
theorem d_X_above_77 : decode b_X_above 77 = .ok (.invokevirtual 119, 3) := by decide +kernel
theorem d_X_above_80 : decode b_X_above 80 = .ok (.iload_n 2, 1) := by decide +kernel
theorem d_X_above_81 : decode b_X_above 81 = .ok (.if_icmp .lt 10, 3) := by decide +kernel
theorem d_X_above_84 : decode b_X_above 84 = .ok (.iload 5, 2) := by decide +kernel
theorem d_X_above_86 : decode b_X_above 86 = .ok (.iconst 1, 1) := by decide +kernel
theorem d_X_above_87 : decode b_X_above 87 = .ok (.iadd, 1) := by decide +kernel
theorem d_X_above_88 : decode b_X_above 88 = .ok (.goto 4, 3) := by decide +kernel
theorem d_X_above_91 : decode b_X_above 91 = .ok (.iconst 0, 1) := by decide +kernel
theorem d_X_above_92 : decode b_X_above 92 = .ok (.istore 5, 2) := by decide +kernel
theorem d_X_above_94 : decode b_X_above 94 = .ok (.iload 5, 2) := by decide +kernel
theorem d_X_above_96 : decode b_X_above 96 = .ok (.iload_n 3, 1) := by decide +kernel
theorem d_X_above_97 : decode b_X_above 97 = .ok (.if_icmp .ne 10, 3) := by decide +kernel
theorem d_X_above_100 : decode b_X_above 100 = .ok (.iload 6, 2) := by decide +kernel
theorem d_X_above_102 : decode b_X_above 102 = .ok (.iload_n 3, 1) := by decide +kernel
theorem d_X_above_103 : decode b_X_above 103 = .ok (.isub, 1) := by decide +kernel
theorem d_X_above_104 : decode b_X_above 104 = .ok (.iconst 1, 1) := by decide +kernel
theorem d_X_above_105 : decode b_X_above 105 = .ok (.iadd, 1) := by decide +kernel
theorem d_X_above_106 : decode b_X_above 106 = .ok (.ireturn, 1) := by decide +kernel
theorem d_X_above_107 : decode b_X_above 107 = .ok (.iinc 6 1, 3) := by decide +kernel
theorem d_X_above_110 : decode b_X_above 110 = .ok (.goto (-43), 3) := by decide +kernel
theorem d_X_above_113 : decode b_X_above 113 = .ok (.iconst (-1), 1) := by decide +kernel
theorem d_X_above_114 : decode b_X_above 114 = .ok (.ireturn, 1) := by decide +kernel
theorem d_X_isConstituent_0 : decode b_X_isConstituent 0 = .ok (.iload_n 0, 1) := by decide +kernel
theorem d_X_isConstituent_1 : decode b_X_isConstituent 1 = .ok (.ifCond .lt 13, 3) := by decide +kernel
theorem d_X_isConstituent_4 : decode b_X_isConstituent 4 = .ok (.iload_n 0, 1) := by decide +kernel
theorem d_X_isConstituent_5 : decode b_X_isConstituent 5 = .ok (.bipush 8, 2) := by decide +kernel
theorem d_X_isConstituent_7 : decode b_X_isConstituent 7 = .ok (.if_icmp .ge 7, 3) := by decide +kernel
theorem d_X_isConstituent_10 : decode b_X_isConstituent 10 = .ok (.iconst 1, 1) := by decide +kernel
theorem d_X_isConstituent_11 : decode b_X_isConstituent 11 = .ok (.goto 4, 3) := by decide +kernel
theorem d_X_isConstituent_14 : decode b_X_isConstituent 14 = .ok (.iconst 0, 1) := by decide +kernel
theorem d_X_isConstituent_15 : decode b_X_isConstituent 15 = .ok (.ireturn, 1) := by decide +kernel
theorem d_X_isYear_0 : decode b_X_isYear 0 = .ok (.iload_n 0, 1) := by decide +kernel
theorem d_X_isYear_1 : decode b_X_isYear 1 = .ok (.ifCond .lt 13, 3) := by decide +kernel
theorem d_X_isYear_4 : decode b_X_isYear 4 = .ok (.iload_n 0, 1) := by decide +kernel
theorem d_X_isYear_5 : decode b_X_isYear 5 = .ok (.bipush 10, 2) := by decide +kernel
theorem d_X_isYear_7 : decode b_X_isYear 7 = .ok (.if_icmp .ge 7, 3) := by decide +kernel
theorem d_X_isYear_10 : decode b_X_isYear 10 = .ok (.iconst 1, 1) := by decide +kernel
theorem d_X_isYear_11 : decode b_X_isYear 11 = .ok (.goto 4, 3) := by decide +kernel
theorem d_X_isYear_14 : decode b_X_isYear 14 = .ok (.iconst 0, 1) := by decide +kernel
theorem d_X_isYear_15 : decode b_X_isYear 15 = .ok (.ireturn, 1) := by decide +kernel
theorem d_X_isPosition_0 : decode b_X_isPosition 0 = .ok (.lload_n 0, 1) := by decide +kernel
theorem d_X_isPosition_1 : decode b_X_isPosition 1 = .ok (.lconst 0, 1) := by decide +kernel
theorem d_X_isPosition_2 : decode b_X_isPosition 2 = .ok (.lcmp, 1) := by decide +kernel
theorem d_X_isPosition_3 : decode b_X_isPosition 3 = .ok (.ifCond .lt 15, 3) := by decide +kernel
theorem d_X_isPosition_6 : decode b_X_isPosition 6 = .ok (.lload_n 0, 1) := by decide +kernel
theorem d_X_isPosition_7 : decode b_X_isPosition 7 = .ok (.ldc2_w 171, 3) := by decide +kernel
theorem d_X_isPosition_10 : decode b_X_isPosition 10 = .ok (.lcmp, 1) := by decide +kernel
theorem d_X_isPosition_11 : decode b_X_isPosition 11 = .ok (.ifCond .ge 7, 3) := by decide +kernel
theorem d_X_isPosition_14 : decode b_X_isPosition 14 = .ok (.iconst 1, 1) := by decide +kernel
theorem d_X_isPosition_15 : decode b_X_isPosition 15 = .ok (.goto 4, 3) := by decide +kernel
theorem d_X_isPosition_18 : decode b_X_isPosition 18 = .ok (.iconst 0, 1) := by decide +kernel
theorem d_X_isPosition_19 : decode b_X_isPosition 19 = .ok (.ireturn, 1) := by decide +kernel
theorem d_X_isMinute_0 : decode b_X_isMinute 0 = .ok (.iload_n 1, 1) := by decide +kernel
theorem d_X_isMinute_1 : decode b_X_isMinute 1 = .ok (.ifCond .lt 18, 3) := by decide +kernel
theorem d_X_isMinute_4 : decode b_X_isMinute 4 = .ok (.iload_n 1, 1) := by decide +kernel
theorem d_X_isMinute_5 : decode b_X_isMinute 5 = .ok (.aload_n 0, 1) := by decide +kernel
theorem d_X_isMinute_6 : decode b_X_isMinute 6 = .ok (.getfield 30, 3) := by decide +kernel
theorem d_X_isMinute_9 : decode b_X_isMinute 9 = .ok (.bipush 10, 2) := by decide +kernel
theorem d_X_isMinute_11 : decode b_X_isMinute 11 = .ok (.iaload, 1) := by decide +kernel
theorem d_X_isMinute_12 : decode b_X_isMinute 12 = .ok (.if_icmp .ge 7, 3) := by decide +kernel
theorem d_X_isMinute_15 : decode b_X_isMinute 15 = .ok (.iconst 1, 1) := by decide +kernel
theorem d_X_isMinute_16 : decode b_X_isMinute 16 = .ok (.goto 4, 3) := by decide +kernel
theorem d_X_isMinute_19 : decode b_X_isMinute 19 = .ok (.iconst 0, 1) := by decide +kernel
theorem d_X_isMinute_20 : decode b_X_isMinute 20 = .ok (.ireturn, 1) := by decide +kernel
theorem d_X_isDay_0 : decode b_X_isDay 0 = .ok (.iload_n 1, 1) := by decide +kernel
theorem d_X_isDay_1 : decode b_X_isDay 1 = .ok (.ifCond .lt 22, 3) := by decide +kernel
theorem d_X_isDay_4 : decode b_X_isDay 4 = .ok (.iload_n 1, 1) := by decide +kernel
theorem d_X_isDay_5 : decode b_X_isDay 5 = .ok (.aload_n 0, 1) := by decide +kernel
theorem d_X_isDay_6 : decode b_X_isDay 6 = .ok (.getfield 30, 3) := by decide +kernel
theorem d_X_isDay_9 : decode b_X_isDay 9 = .ok (.bipush 10, 2) := by decide +kernel
theorem d_X_isDay_11 : decode b_X_isDay 11 = .ok (.iaload, 1) := by decide +kernel
theorem d_X_isDay_12 : decode b_X_isDay 12 = .ok (.sipush 1440, 3) := by decide +kernel
theorem d_X_isDay_15 : decode b_X_isDay 15 = .ok (.idiv, 1) := by decide +kernel
theorem d_X_isDay_16 : decode b_X_isDay 16 = .ok (.if_icmp .ge 7, 3) := by decide +kernel
theorem d_X_isDay_19 : decode b_X_isDay 19 = .ok (.iconst 1, 1) := by decide +kernel
theorem d_X_isDay_20 : decode b_X_isDay 20 = .ok (.goto 4, 3) := by decide +kernel
theorem d_X_isDay_23 : decode b_X_isDay 23 = .ok (.iconst 0, 1) := by decide +kernel
theorem d_X_isDay_24 : decode b_X_isDay 24 = .ok (.ireturn, 1) := by decide +kernel
theorem d_X_isExtreme_0 : decode b_X_isExtreme 0 = .ok (.aload_n 0, 1) := by decide +kernel
theorem d_X_isExtreme_1 : decode b_X_isExtreme 1 = .ok (.iload_n 1, 1) := by decide +kernel
theorem d_X_isExtreme_2 : decode b_X_isExtreme 2 = .ok (.invokevirtual 130, 3) := by decide +kernel
theorem d_X_isExtreme_5 : decode b_X_isExtreme 5 = .ok (.ifCond .eq 20, 3) := by decide +kernel
theorem d_X_isExtreme_8 : decode b_X_isExtreme 8 = .ok (.iload_n 2, 1) := by decide +kernel
theorem d_X_isExtreme_9 : decode b_X_isExtreme 9 = .ok (.ifCond .lt 16, 3) := by decide +kernel
theorem d_X_isExtreme_12 : decode b_X_isExtreme 12 = .ok (.iload_n 2, 1) := by decide +kernel
theorem d_X_isExtreme_13 : decode b_X_isExtreme 13 = .ok (.aload_n 0, 1) := by decide +kernel
theorem d_X_isExtreme_14 : decode b_X_isExtreme 14 = .ok (.iload_n 1, 1) := by decide +kernel
theorem d_X_isExtreme_15 : decode b_X_isExtreme 15 = .ok (.invokevirtual 135, 3) := by decide +kernel
theorem d_X_isExtreme_18 : decode b_X_isExtreme 18 = .ok (.if_icmp .ge 7, 3) := by decide +kernel
theorem d_X_isExtreme_21 : decode b_X_isExtreme 21 = .ok (.iconst 1, 1) := by decide +kernel
theorem d_X_isExtreme_22 : decode b_X_isExtreme 22 = .ok (.goto 4, 3) := by decide +kernel
theorem d_X_isExtreme_25 : decode b_X_isExtreme 25 = .ok (.iconst 0, 1) := by decide +kernel
theorem d_X_isExtreme_26 : decode b_X_isExtreme 26 = .ok (.ireturn, 1) := by decide +kernel
theorem d_X_yearOf_0 : decode b_X_yearOf 0 = .ok (.iconst 0, 1) := by decide +kernel
theorem d_X_yearOf_1 : decode b_X_yearOf 1 = .ok (.istore_n 2, 1) := by decide +kernel
theorem d_X_yearOf_2 : decode b_X_yearOf 2 = .ok (.iload_n 2, 1) := by decide +kernel
theorem d_X_yearOf_3 : decode b_X_yearOf 3 = .ok (.bipush 9, 2) := by decide +kernel
theorem d_X_yearOf_5 : decode b_X_yearOf 5 = .ok (.if_icmp .ge 21, 3) := by decide +kernel
theorem d_X_yearOf_8 : decode b_X_yearOf 8 = .ok (.iload_n 1, 1) := by decide +kernel
theorem d_X_yearOf_9 : decode b_X_yearOf 9 = .ok (.aload_n 0, 1) := by decide +kernel
theorem d_X_yearOf_10 : decode b_X_yearOf 10 = .ok (.getfield 30, 3) := by decide +kernel
theorem d_X_yearOf_13 : decode b_X_yearOf 13 = .ok (.iload_n 2, 1) := by decide +kernel
theorem d_X_yearOf_14 : decode b_X_yearOf 14 = .ok (.iconst 1, 1) := by decide +kernel
theorem d_X_yearOf_15 : decode b_X_yearOf 15 = .ok (.iadd, 1) := by decide +kernel
theorem d_X_yearOf_16 : decode b_X_yearOf 16 = .ok (.iaload, 1) := by decide +kernel
theorem d_X_yearOf_17 : decode b_X_yearOf 17 = .ok (.if_icmp .lt 9, 3) := by decide +kernel
theorem d_X_yearOf_20 : decode b_X_yearOf 20 = .ok (.iinc 2 1, 3) := by decide +kernel
theorem d_X_yearOf_23 : decode b_X_yearOf 23 = .ok (.goto (-21), 3) := by decide +kernel
theorem d_X_yearOf_26 : decode b_X_yearOf 26 = .ok (.iload_n 2, 1) := by decide +kernel
theorem d_X_yearOf_27 : decode b_X_yearOf 27 = .ok (.ireturn, 1) := by decide +kernel
theorem d_X_positionAt_0 : decode b_X_positionAt 0 = .ok (.aload_n 0, 1) := by decide +kernel
theorem d_X_positionAt_1 : decode b_X_positionAt 1 = .ok (.getfield 17, 3) := by decide +kernel
theorem d_X_positionAt_4 : decode b_X_positionAt 4 = .ok (.iload_n 1, 1) := by decide +kernel
theorem d_X_positionAt_5 : decode b_X_positionAt 5 = .ok (.laload, 1) := by decide +kernel
theorem d_X_positionAt_6 : decode b_X_positionAt 6 = .ok (.aload_n 0, 1) := by decide +kernel
theorem d_X_positionAt_7 : decode b_X_positionAt 7 = .ok (.getfield 13, 3) := by decide +kernel
theorem d_X_positionAt_10 : decode b_X_positionAt 10 = .ok (.iload_n 1, 1) := by decide +kernel
theorem d_X_positionAt_11 : decode b_X_positionAt 11 = .ok (.laload, 1) := by decide +kernel
theorem d_X_positionAt_12 : decode b_X_positionAt 12 = .ok (.iload_n 2, 1) := by decide +kernel
theorem d_X_positionAt_13 : decode b_X_positionAt 13 = .ok (.i2l, 1) := by decide +kernel
theorem d_X_positionAt_14 : decode b_X_positionAt 14 = .ok (.lmul, 1) := by decide +kernel
theorem d_X_positionAt_15 : decode b_X_positionAt 15 = .ok (.ladd, 1) := by decide +kernel
theorem d_X_positionAt_16 : decode b_X_positionAt 16 = .ok (.aload_n 0, 1) := by decide +kernel
theorem d_X_positionAt_17 : decode b_X_positionAt 17 = .ok (.getfield 27, 3) := by decide +kernel
theorem d_X_positionAt_20 : decode b_X_positionAt 20 = .ok (.iload_n 1, 1) := by decide +kernel
theorem d_X_positionAt_21 : decode b_X_positionAt 21 = .ok (.aaload, 1) := by decide +kernel
theorem d_X_positionAt_22 : decode b_X_positionAt 22 = .ok (.iload_n 3, 1) := by decide +kernel
theorem d_X_positionAt_23 : decode b_X_positionAt 23 = .ok (.laload, 1) := by decide +kernel
theorem d_X_positionAt_24 : decode b_X_positionAt 24 = .ok (.ladd, 1) := by decide +kernel
theorem d_X_positionAt_25 : decode b_X_positionAt 25 = .ok (.ldc2_w 173, 3) := by decide +kernel
theorem d_X_positionAt_28 : decode b_X_positionAt 28 = .ok (.land, 1) := by decide +kernel
theorem d_X_positionAt_29 : decode b_X_positionAt 29 = .ok (.lreturn, 1) := by decide +kernel
theorem d_X_cosineOf_0 : decode b_X_cosineOf 0 = .ok (.lload_n 0, 1) := by decide +kernel
theorem d_X_cosineOf_1 : decode b_X_cosineOf 1 = .ok (.bipush 46, 2) := by decide +kernel
theorem d_X_cosineOf_3 : decode b_X_cosineOf 3 = .ok (.lshr, 1) := by decide +kernel
theorem d_X_cosineOf_4 : decode b_X_cosineOf 4 = .ok (.l2i, 1) := by decide +kernel
theorem d_X_cosineOf_5 : decode b_X_cosineOf 5 = .ok (.istore_n 2, 1) := by decide +kernel
theorem d_X_cosineOf_6 : decode b_X_cosineOf 6 = .ok (.lload_n 0, 1) := by decide +kernel
theorem d_X_cosineOf_7 : decode b_X_cosineOf 7 = .ok (.bipush 16, 2) := by decide +kernel
theorem d_X_cosineOf_9 : decode b_X_cosineOf 9 = .ok (.lshr, 1) := by decide +kernel
theorem d_X_cosineOf_10 : decode b_X_cosineOf 10 = .ok (.ldc2_w 175, 3) := by decide +kernel
theorem d_X_cosineOf_13 : decode b_X_cosineOf 13 = .ok (.land, 1) := by decide +kernel
theorem d_X_cosineOf_14 : decode b_X_cosineOf 14 = .ok (.lstore_n 3, 1) := by decide +kernel
theorem d_X_cosineOf_15 : decode b_X_cosineOf 15 = .ok (.iload_n 2, 1) := by decide +kernel
theorem d_X_cosineOf_16 : decode b_X_cosineOf 16 = .ok (.iconst 1, 1) := by decide +kernel
theorem d_X_cosineOf_17 : decode b_X_cosineOf 17 = .ok (.if_icmp .eq 8, 3) := by decide +kernel
theorem d_X_cosineOf_20 : decode b_X_cosineOf 20 = .ok (.iload_n 2, 1) := by decide +kernel
theorem d_X_cosineOf_21 : decode b_X_cosineOf 21 = .ok (.iconst 3, 1) := by decide +kernel
theorem d_X_cosineOf_22 : decode b_X_cosineOf 22 = .ok (.if_icmp .ne 9, 3) := by decide +kernel
theorem d_X_cosineOf_25 : decode b_X_cosineOf 25 = .ok (.ldc2_w 177, 3) := by decide +kernel
theorem d_X_cosineOf_28 : decode b_X_cosineOf 28 = .ok (.lload_n 3, 1) := by decide +kernel
theorem d_X_cosineOf_29 : decode b_X_cosineOf 29 = .ok (.lsub, 1) := by decide +kernel
theorem d_X_cosineOf_30 : decode b_X_cosineOf 30 = .ok (.lstore_n 3, 1) := by decide +kernel
theorem d_X_cosineOf_31 : decode b_X_cosineOf 31 = .ok (.lload_n 3, 1) := by decide +kernel
theorem d_X_cosineOf_32 : decode b_X_cosineOf 32 = .ok (.lload_n 3, 1) := by decide +kernel
theorem d_X_cosineOf_33 : decode b_X_cosineOf 33 = .ok (.lmul, 1) := by decide +kernel
theorem d_X_cosineOf_34 : decode b_X_cosineOf 34 = .ok (.bipush 30, 2) := by decide +kernel
theorem d_X_cosineOf_36 : decode b_X_cosineOf 36 = .ok (.lshr, 1) := by decide +kernel
theorem d_X_cosineOf_37 : decode b_X_cosineOf 37 = .ok (.lstore 5, 2) := by decide +kernel
theorem d_X_cosineOf_39 : decode b_X_cosineOf 39 = .ok (.ldc2_w 179, 3) := by decide +kernel
theorem d_X_cosineOf_42 : decode b_X_cosineOf 42 = .ok (.ldc2_w 181, 3) := by decide +kernel
theorem d_X_cosineOf_45 : decode b_X_cosineOf 45 = .ok (.lload 5, 2) := by decide +kernel
theorem d_X_cosineOf_47 : decode b_X_cosineOf 47 = .ok (.lmul, 1) := by decide +kernel
theorem d_X_cosineOf_48 : decode b_X_cosineOf 48 = .ok (.bipush 30, 2) := by decide +kernel
theorem d_X_cosineOf_50 : decode b_X_cosineOf 50 = .ok (.lshr, 1) := by decide +kernel
theorem d_X_cosineOf_51 : decode b_X_cosineOf 51 = .ok (.lsub, 1) := by decide +kernel
theorem d_X_cosineOf_52 : decode b_X_cosineOf 52 = .ok (.lstore 7, 2) := by decide +kernel
theorem d_X_cosineOf_54 : decode b_X_cosineOf 54 = .ok (.ldc2_w 183, 3) := by decide +kernel
theorem d_X_cosineOf_57 : decode b_X_cosineOf 57 = .ok (.lload 7, 2) := by decide +kernel
theorem d_X_cosineOf_59 : decode b_X_cosineOf 59 = .ok (.lload 5, 2) := by decide +kernel
theorem d_X_cosineOf_61 : decode b_X_cosineOf 61 = .ok (.lmul, 1) := by decide +kernel
theorem d_X_cosineOf_62 : decode b_X_cosineOf 62 = .ok (.bipush 30, 2) := by decide +kernel
theorem d_X_cosineOf_64 : decode b_X_cosineOf 64 = .ok (.lshr, 1) := by decide +kernel
theorem d_X_cosineOf_65 : decode b_X_cosineOf 65 = .ok (.lsub, 1) := by decide +kernel
theorem d_X_cosineOf_66 : decode b_X_cosineOf 66 = .ok (.lstore 9, 2) := by decide +kernel
theorem d_X_cosineOf_68 : decode b_X_cosineOf 68 = .ok (.ldc2_w 185, 3) := by decide +kernel
theorem d_X_cosineOf_71 : decode b_X_cosineOf 71 = .ok (.lload 9, 2) := by decide +kernel
theorem d_X_cosineOf_73 : decode b_X_cosineOf 73 = .ok (.lload 5, 2) := by decide +kernel
theorem d_X_cosineOf_75 : decode b_X_cosineOf 75 = .ok (.lmul, 1) := by decide +kernel
theorem d_X_cosineOf_76 : decode b_X_cosineOf 76 = .ok (.bipush 30, 2) := by decide +kernel
theorem d_X_cosineOf_78 : decode b_X_cosineOf 78 = .ok (.lshr, 1) := by decide +kernel
theorem d_X_cosineOf_79 : decode b_X_cosineOf 79 = .ok (.lsub, 1) := by decide +kernel
theorem d_X_cosineOf_80 : decode b_X_cosineOf 80 = .ok (.lstore 11, 2) := by decide +kernel
theorem d_X_cosineOf_82 : decode b_X_cosineOf 82 = .ok (.ldc2_w 177, 3) := by decide +kernel
theorem d_X_cosineOf_85 : decode b_X_cosineOf 85 = .ok (.lload 11, 2) := by decide +kernel
theorem d_X_cosineOf_87 : decode b_X_cosineOf 87 = .ok (.lload 5, 2) := by decide +kernel
theorem d_X_cosineOf_89 : decode b_X_cosineOf 89 = .ok (.lmul, 1) := by decide +kernel
theorem d_X_cosineOf_90 : decode b_X_cosineOf 90 = .ok (.bipush 30, 2) := by decide +kernel
theorem d_X_cosineOf_92 : decode b_X_cosineOf 92 = .ok (.lshr, 1) := by decide +kernel
theorem d_X_cosineOf_93 : decode b_X_cosineOf 93 = .ok (.lsub, 1) := by decide +kernel
theorem d_X_cosineOf_94 : decode b_X_cosineOf 94 = .ok (.lstore 13, 2) := by decide +kernel
theorem d_X_cosineOf_96 : decode b_X_cosineOf 96 = .ok (.iload_n 2, 1) := by decide +kernel
theorem d_X_cosineOf_97 : decode b_X_cosineOf 97 = .ok (.iconst 1, 1) := by decide +kernel
theorem d_X_cosineOf_98 : decode b_X_cosineOf 98 = .ok (.if_icmp .eq 8, 3) := by decide +kernel
theorem d_X_cosineOf_101 : decode b_X_cosineOf 101 = .ok (.iload_n 2, 1) := by decide +kernel
theorem d_X_cosineOf_102 : decode b_X_cosineOf 102 = .ok (.iconst 2, 1) := by decide +kernel
theorem d_X_cosineOf_103 : decode b_X_cosineOf 103 = .ok (.if_icmp .ne 9, 3) := by decide +kernel
theorem d_X_cosineOf_106 : decode b_X_cosineOf 106 = .ok (.lload 13, 2) := by decide +kernel
theorem d_X_cosineOf_108 : decode b_X_cosineOf 108 = .ok (.lneg, 1) := by decide +kernel
theorem d_X_cosineOf_109 : decode b_X_cosineOf 109 = .ok (.goto 5, 3) := by decide +kernel
theorem d_X_cosineOf_112 : decode b_X_cosineOf 112 = .ok (.lload 13, 2) := by decide +kernel
theorem d_X_cosineOf_114 : decode b_X_cosineOf 114 = .ok (.l2i, 1) := by decide +kernel
theorem d_X_cosineOf_115 : decode b_X_cosineOf 115 = .ok (.ireturn, 1) := by decide +kernel
theorem d_X_heightAt_0 : decode b_X_heightAt 0 = .ok (.aload_n 0, 1) := by decide +kernel
theorem d_X_heightAt_1 : decode b_X_heightAt 1 = .ok (.iload_n 1, 1) := by decide +kernel
theorem d_X_heightAt_2 : decode b_X_heightAt 2 = .ok (.invokevirtual 103, 3) := by decide +kernel
theorem d_X_heightAt_5 : decode b_X_heightAt 5 = .ok (.istore_n 2, 1) := by decide +kernel
theorem d_X_heightAt_6 : decode b_X_heightAt 6 = .ok (.ldc2_w 187, 3) := by decide +kernel
theorem d_X_heightAt_9 : decode b_X_heightAt 9 = .ok (.lstore_n 3, 1) := by decide +kernel
theorem d_X_heightAt_10 : decode b_X_heightAt 10 = .ok (.iconst 0, 1) := by decide +kernel
theorem d_X_heightAt_11 : decode b_X_heightAt 11 = .ok (.istore 5, 2) := by decide +kernel
theorem d_X_heightAt_13 : decode b_X_heightAt 13 = .ok (.iload 5, 2) := by decide +kernel
theorem d_X_heightAt_15 : decode b_X_heightAt 15 = .ok (.bipush 8, 2) := by decide +kernel
theorem d_X_heightAt_17 : decode b_X_heightAt 17 = .ok (.if_icmp .ge 30, 3) := by decide +kernel
theorem d_X_heightAt_20 : decode b_X_heightAt 20 = .ok (.aload_n 0, 1) := by decide +kernel
theorem d_X_heightAt_21 : decode b_X_heightAt 21 = .ok (.getfield 9, 3) := by decide +kernel
theorem d_X_heightAt_24 : decode b_X_heightAt 24 = .ok (.iload 5, 2) := by decide +kernel
theorem d_X_heightAt_26 : decode b_X_heightAt 26 = .ok (.iaload, 1) := by decide +kernel
theorem d_X_heightAt_27 : decode b_X_heightAt 27 = .ok (.ifCond .eq 14, 3) := by decide +kernel
theorem d_X_heightAt_30 : decode b_X_heightAt 30 = .ok (.lload_n 3, 1) := by decide +kernel
theorem d_X_heightAt_31 : decode b_X_heightAt 31 = .ok (.aload_n 0, 1) := by decide +kernel
theorem d_X_heightAt_32 : decode b_X_heightAt 32 = .ok (.iload 5, 2) := by decide +kernel
theorem d_X_heightAt_34 : decode b_X_heightAt 34 = .ok (.iload_n 1, 1) := by decide +kernel
theorem d_X_heightAt_35 : decode b_X_heightAt 35 = .ok (.iload_n 2, 1) := by decide +kernel
theorem d_X_heightAt_36 : decode b_X_heightAt 36 = .ok (.invokevirtual 189, 3) := by decide +kernel
theorem d_X_heightAt_39 : decode b_X_heightAt 39 = .ok (.ladd, 1) := by decide +kernel
theorem d_X_heightAt_40 : decode b_X_heightAt 40 = .ok (.lstore_n 3, 1) := by decide +kernel
theorem d_X_heightAt_41 : decode b_X_heightAt 41 = .ok (.iinc 5 1, 3) := by decide +kernel
theorem d_X_heightAt_44 : decode b_X_heightAt 44 = .ok (.goto (-31), 3) := by decide +kernel
theorem d_X_heightAt_47 : decode b_X_heightAt 47 = .ok (.lload_n 3, 1) := by decide +kernel
theorem d_X_heightAt_48 : decode b_X_heightAt 48 = .ok (.bipush 30, 2) := by decide +kernel
theorem d_X_heightAt_50 : decode b_X_heightAt 50 = .ok (.lshr, 1) := by decide +kernel
theorem d_X_heightAt_51 : decode b_X_heightAt 51 = .ok (.l2i, 1) := by decide +kernel
theorem d_X_heightAt_52 : decode b_X_heightAt 52 = .ok (.aload_n 0, 1) := by decide +kernel
theorem d_X_heightAt_53 : decode b_X_heightAt 53 = .ok (.getfield 56, 3) := by decide +kernel
theorem d_X_heightAt_56 : decode b_X_heightAt 56 = .ok (.iadd, 1) := by decide +kernel
theorem d_X_heightAt_57 : decode b_X_heightAt 57 = .ok (.ireturn, 1) := by decide +kernel
theorem d_X_partAt_0 : decode b_X_partAt 0 = .ok (.aload_n 0, 1) := by decide +kernel
theorem d_X_partAt_1 : decode b_X_partAt 1 = .ok (.getfield 9, 3) := by decide +kernel
theorem d_X_partAt_4 : decode b_X_partAt 4 = .ok (.iload_n 1, 1) := by decide +kernel
theorem d_X_partAt_5 : decode b_X_partAt 5 = .ok (.iaload, 1) := by decide +kernel
theorem d_X_partAt_6 : decode b_X_partAt 6 = .ok (.i2l, 1) := by decide +kernel
theorem d_X_partAt_7 : decode b_X_partAt 7 = .ok (.aload_n 0, 1) := by decide +kernel
theorem d_X_partAt_8 : decode b_X_partAt 8 = .ok (.getfield 22, 3) := by decide +kernel
theorem d_X_partAt_11 : decode b_X_partAt 11 = .ok (.iload_n 1, 1) := by decide +kernel
theorem d_X_partAt_12 : decode b_X_partAt 12 = .ok (.aaload, 1) := by decide +kernel
theorem d_X_partAt_13 : decode b_X_partAt 13 = .ok (.iload_n 3, 1) := by decide +kernel
theorem d_X_partAt_14 : decode b_X_partAt 14 = .ok (.iaload, 1) := by decide +kernel
theorem d_X_partAt_15 : decode b_X_partAt 15 = .ok (.i2l, 1) := by decide +kernel
theorem d_X_partAt_16 : decode b_X_partAt 16 = .ok (.lmul, 1) := by decide +kernel
theorem d_X_partAt_17 : decode b_X_partAt 17 = .ok (.lstore 4, 2) := by decide +kernel
theorem d_X_partAt_19 : decode b_X_partAt 19 = .ok (.lload 4, 2) := by decide +kernel
theorem d_X_partAt_21 : decode b_X_partAt 21 = .ok (.aload_n 0, 1) := by decide +kernel
theorem d_X_partAt_22 : decode b_X_partAt 22 = .ok (.iload_n 1, 1) := by decide +kernel
theorem d_X_partAt_23 : decode b_X_partAt 23 = .ok (.iload_n 2, 1) := by decide +kernel
theorem d_X_partAt_24 : decode b_X_partAt 24 = .ok (.iload_n 3, 1) := by decide +kernel
theorem d_X_partAt_25 : decode b_X_partAt 25 = .ok (.invokevirtual 109, 3) := by decide +kernel
theorem d_X_partAt_28 : decode b_X_partAt 28 = .ok (.invokestatic 115, 3) := by decide +kernel
theorem d_X_partAt_31 : decode b_X_partAt 31 = .ok (.i2l, 1) := by decide +kernel
theorem d_X_partAt_32 : decode b_X_partAt 32 = .ok (.lmul, 1) := by decide +kernel
theorem d_X_partAt_33 : decode b_X_partAt 33 = .ok (.bipush 16, 2) := by decide +kernel
theorem d_X_partAt_35 : decode b_X_partAt 35 = .ok (.lshr, 1) := by decide +kernel
theorem d_X_partAt_36 : decode b_X_partAt 36 = .ok (.lreturn, 1) := by decide +kernel
theorem d_X_forgetTurns_0 : decode b_X_forgetTurns 0 = .ok (.aload_n 0, 1) := by decide +kernel
theorem d_X_forgetTurns_1 : decode b_X_forgetTurns 1 = .ok (.iconst (-1), 1) := by decide +kernel
theorem d_X_forgetTurns_2 : decode b_X_forgetTurns 2 = .ok (.putfield 36, 3) := by decide +kernel
theorem d_X_forgetTurns_5 : decode b_X_forgetTurns 5 = .ok (.return_, 1) := by decide +kernel
theorem d_X_countTurns_0 : decode b_X_countTurns 0 = .ok (.aload_n 0, 1) := by decide +kernel
theorem d_X_countTurns_1 : decode b_X_countTurns 1 = .ok (.getfield 36, 3) := by decide +kernel
theorem d_X_countTurns_4 : decode b_X_countTurns 4 = .ok (.iload_n 1, 1) := by decide +kernel
theorem d_X_countTurns_5 : decode b_X_countTurns 5 = .ok (.if_icmp .eq 17, 3) := by decide +kernel
theorem d_X_countTurns_8 : decode b_X_countTurns 8 = .ok (.aload_n 0, 1) := by decide +kernel
theorem d_X_countTurns_9 : decode b_X_countTurns 9 = .ok (.iload_n 1, 1) := by decide +kernel
theorem d_X_countTurns_10 : decode b_X_countTurns 10 = .ok (.sipush 1440, 3) := by decide +kernel
theorem d_X_countTurns_13 : decode b_X_countTurns 13 = .ok (.imul, 1) := by decide +kernel
theorem d_X_countTurns_14 : decode b_X_countTurns 14 = .ok (.invokevirtual 192, 3) := by decide +kernel
theorem d_X_countTurns_17 : decode b_X_countTurns 17 = .ok (.aload_n 0, 1) := by decide +kernel
theorem d_X_countTurns_18 : decode b_X_countTurns 18 = .ok (.iload_n 1, 1) := by decide +kernel
theorem d_X_countTurns_19 : decode b_X_countTurns 19 = .ok (.putfield 36, 3) := by decide +kernel
theorem d_X_countTurns_22 : decode b_X_countTurns 22 = .ok (.aload_n 0, 1) := by decide +kernel
theorem d_X_countTurns_23 : decode b_X_countTurns 23 = .ok (.getfield 196, 3) := by decide +kernel
theorem d_X_countTurns_26 : decode b_X_countTurns 26 = .ok (.ireturn, 1) := by decide +kernel
theorem d_X_findTurns_0 : decode b_X_findTurns 0 = .ok (.aload_n 0, 1) := by decide +kernel
theorem d_X_findTurns_1 : decode b_X_findTurns 1 = .ok (.iconst 0, 1) := by decide +kernel
theorem d_X_findTurns_2 : decode b_X_findTurns 2 = .ok (.putfield 196, 3) := by decide +kernel
theorem d_X_findTurns_5 : decode b_X_findTurns 5 = .ok (.iload_n 1, 1) := by decide +kernel
theorem d_X_findTurns_6 : decode b_X_findTurns 6 = .ok (.istore_n 2, 1) := by decide +kernel
theorem d_X_findTurns_7 : decode b_X_findTurns 7 = .ok (.aload_n 0, 1) := by decide +kernel
theorem d_X_findTurns_8 : decode b_X_findTurns 8 = .ok (.iload_n 1, 1) := by decide +kernel
theorem d_X_findTurns_9 : decode b_X_findTurns 9 = .ok (.invokevirtual 119, 3) := by decide +kernel
theorem d_X_findTurns_12 : decode b_X_findTurns 12 = .ok (.istore_n 3, 1) := by decide +kernel
theorem d_X_findTurns_13 : decode b_X_findTurns 13 = .ok (.iconst 0, 1) := by decide +kernel
theorem d_X_findTurns_14 : decode b_X_findTurns 14 = .ok (.istore 4, 2) := by decide +kernel
theorem d_X_findTurns_16 : decode b_X_findTurns 16 = .ok (.iload_n 1, 1) := by decide +kernel
theorem d_X_findTurns_17 : decode b_X_findTurns 17 = .ok (.iconst 1, 1) := by decide +kernel
theorem d_X_findTurns_18 : decode b_X_findTurns 18 = .ok (.iadd, 1) := by decide +kernel
theorem d_X_findTurns_19 : decode b_X_findTurns 19 = .ok (.istore 5, 2) := by decide +kernel
theorem d_X_findTurns_21 : decode b_X_findTurns 21 = .ok (.iload 5, 2) := by decide +kernel
theorem d_X_findTurns_23 : decode b_X_findTurns 23 = .ok (.iload_n 1, 1) := by decide +kernel
theorem d_X_findTurns_24 : decode b_X_findTurns 24 = .ok (.sipush 1440, 3) := by decide +kernel
theorem d_X_findTurns_27 : decode b_X_findTurns 27 = .ok (.iadd, 1) := by decide +kernel
theorem d_X_findTurns_28 : decode b_X_findTurns 28 = .ok (.if_icmp .ge 86, 3) := by decide +kernel
theorem d_X_findTurns_31 : decode b_X_findTurns 31 = .ok (.aload_n 0, 1) := by decide +kernel
theorem d_X_findTurns_32 : decode b_X_findTurns 32 = .ok (.iload 5, 2) := by decide +kernel
theorem d_X_findTurns_34 : decode b_X_findTurns 34 = .ok (.invokevirtual 119, 3) := by decide +kernel
theorem d_X_findTurns_37 : decode b_X_findTurns 37 = .ok (.istore 6, 2) := by decide +kernel
theorem d_X_findTurns_39 : decode b_X_findTurns 39 = .ok (.iload 6, 2) := by decide +kernel
theorem d_X_findTurns_41 : decode b_X_findTurns 41 = .ok (.iload_n 3, 1) := by decide +kernel
theorem d_X_findTurns_42 : decode b_X_findTurns 42 = .ok (.if_icmp .eq 66, 3) := by decide +kernel
theorem d_X_findTurns_45 : decode b_X_findTurns 45 = .ok (.iload 6, 2) := by decide +kernel
theorem d_X_findTurns_47 : decode b_X_findTurns 47 = .ok (.iload_n 3, 1) := by decide +kernel
theorem d_X_findTurns_48 : decode b_X_findTurns 48 = .ok (.if_icmp .le 7, 3) := by decide +kernel
theorem d_X_findTurns_51 : decode b_X_findTurns 51 = .ok (.iconst 1, 1) := by decide +kernel
theorem d_X_findTurns_52 : decode b_X_findTurns 52 = .ok (.goto 4, 3) := by decide +kernel
theorem d_X_findTurns_55 : decode b_X_findTurns 55 = .ok (.iconst (-1), 1) := by decide +kernel
theorem d_X_findTurns_56 : decode b_X_findTurns 56 = .ok (.istore 7, 2) := by decide +kernel
theorem d_X_findTurns_58 : decode b_X_findTurns 58 = .ok (.iload 4, 2) := by decide +kernel
theorem d_X_findTurns_60 : decode b_X_findTurns 60 = .ok (.iload 7, 2) := by decide +kernel
theorem d_X_findTurns_62 : decode b_X_findTurns 62 = .ok (.ineg, 1) := by decide +kernel
theorem d_X_findTurns_63 : decode b_X_findTurns 63 = .ok (.if_icmp .ne 35, 3) := by decide +kernel
theorem d_X_findTurns_66 : decode b_X_findTurns 66 = .ok (.aload_n 0, 1) := by decide +kernel
theorem d_X_findTurns_67 : decode b_X_findTurns 67 = .ok (.getfield 196, 3) := by decide +kernel
theorem d_X_findTurns_70 : decode b_X_findTurns 70 = .ok (.aload_n 0, 1) := by decide +kernel
theorem d_X_findTurns_71 : decode b_X_findTurns 71 = .ok (.getfield 33, 3) := by decide +kernel
theorem d_X_findTurns_74 : decode b_X_findTurns 74 = .ok (.arraylength, 1) := by decide +kernel
theorem d_X_findTurns_75 : decode b_X_findTurns 75 = .ok (.if_icmp .ge 23, 3) := by decide +kernel
theorem d_X_findTurns_78 : decode b_X_findTurns 78 = .ok (.aload_n 0, 1) := by decide +kernel
theorem d_X_findTurns_79 : decode b_X_findTurns 79 = .ok (.getfield 33, 3) := by decide +kernel
theorem d_X_findTurns_82 : decode b_X_findTurns 82 = .ok (.aload_n 0, 1) := by decide +kernel
theorem d_X_findTurns_83 : decode b_X_findTurns 83 = .ok (.getfield 196, 3) := by decide +kernel
theorem d_X_findTurns_86 : decode b_X_findTurns 86 = .ok (.iload_n 2, 1) := by decide +kernel
theorem d_X_findTurns_87 : decode b_X_findTurns 87 = .ok (.iastore, 1) := by decide +kernel
theorem d_X_findTurns_88 : decode b_X_findTurns 88 = .ok (.aload_n 0, 1) := by decide +kernel
theorem d_X_findTurns_89 : decode b_X_findTurns 89 = .ok (.dup, 1) := by decide +kernel
theorem d_X_findTurns_90 : decode b_X_findTurns 90 = .ok (.getfield 196, 3) := by decide +kernel
theorem d_X_findTurns_93 : decode b_X_findTurns 93 = .ok (.iconst 1, 1) := by decide +kernel
theorem d_X_findTurns_94 : decode b_X_findTurns 94 = .ok (.iadd, 1) := by decide +kernel
theorem d_X_findTurns_95 : decode b_X_findTurns 95 = .ok (.putfield 196, 3) := by decide +kernel
theorem d_X_findTurns_98 : decode b_X_findTurns 98 = .ok (.iload 7, 2) := by decide +kernel
theorem d_X_findTurns_100 : decode b_X_findTurns 100 = .ok (.istore 4, 2) := by decide +kernel
theorem d_X_findTurns_102 : decode b_X_findTurns 102 = .ok (.iload 5, 2) := by decide +kernel
theorem d_X_findTurns_104 : decode b_X_findTurns 104 = .ok (.istore_n 2, 1) := by decide +kernel
theorem d_X_findTurns_105 : decode b_X_findTurns 105 = .ok (.iload 6, 2) := by decide +kernel
theorem d_X_findTurns_107 : decode b_X_findTurns 107 = .ok (.istore_n 3, 1) := by decide +kernel
theorem d_X_findTurns_108 : decode b_X_findTurns 108 = .ok (.iinc 5 1, 3) := by decide +kernel
theorem d_X_findTurns_111 : decode b_X_findTurns 111 = .ok (.goto (-90), 3) := by decide +kernel
theorem d_X_findTurns_114 : decode b_X_findTurns 114 = .ok (.return_, 1) := by decide +kernel
theorem d_X_isHigh_0 : decode b_X_isHigh 0 = .ok (.aload_n 0, 1) := by decide +kernel
theorem d_X_isHigh_1 : decode b_X_isHigh 1 = .ok (.iload_n 1, 1) := by decide +kernel
theorem d_X_isHigh_2 : decode b_X_isHigh 2 = .ok (.iconst 1, 1) := by decide +kernel
theorem d_X_isHigh_3 : decode b_X_isHigh 3 = .ok (.isub, 1) := by decide +kernel
theorem d_X_isHigh_4 : decode b_X_isHigh 4 = .ok (.invokevirtual 119, 3) := by decide +kernel
theorem d_X_isHigh_7 : decode b_X_isHigh 7 = .ok (.aload_n 0, 1) := by decide +kernel
theorem d_X_isHigh_8 : decode b_X_isHigh 8 = .ok (.iload_n 1, 1) := by decide +kernel
theorem d_X_isHigh_9 : decode b_X_isHigh 9 = .ok (.invokevirtual 119, 3) := by decide +kernel
theorem d_X_isHigh_12 : decode b_X_isHigh 12 = .ok (.if_icmp .ge 7, 3) := by decide +kernel
theorem d_X_isHigh_15 : decode b_X_isHigh 15 = .ok (.iconst 1, 1) := by decide +kernel
theorem d_X_isHigh_16 : decode b_X_isHigh 16 = .ok (.goto 4, 3) := by decide +kernel
theorem d_X_isHigh_19 : decode b_X_isHigh 19 = .ok (.iconst 0, 1) := by decide +kernel
theorem d_X_isHigh_20 : decode b_X_isHigh 20 = .ok (.ireturn, 1) := by decide +kernel
theorem d_X_lineOf_0 : decode b_X_lineOf 0 = .ok (.aload_n 0, 1) := by decide +kernel
theorem d_X_lineOf_1 : decode b_X_lineOf 1 = .ok (.iload_n 1, 1) := by decide +kernel
theorem d_X_lineOf_2 : decode b_X_lineOf 2 = .ok (.invokevirtual 103, 3) := by decide +kernel
theorem d_X_lineOf_5 : decode b_X_lineOf 5 = .ok (.istore_n 2, 1) := by decide +kernel
theorem d_X_lineOf_6 : decode b_X_lineOf 6 = .ok (.iload_n 1, 1) := by decide +kernel
theorem d_X_lineOf_7 : decode b_X_lineOf 7 = .ok (.aload_n 0, 1) := by decide +kernel
theorem d_X_lineOf_8 : decode b_X_lineOf 8 = .ok (.getfield 30, 3) := by decide +kernel
theorem d_X_lineOf_11 : decode b_X_lineOf 11 = .ok (.iload_n 2, 1) := by decide +kernel
theorem d_X_lineOf_12 : decode b_X_lineOf 12 = .ok (.iaload, 1) := by decide +kernel
theorem d_X_lineOf_13 : decode b_X_lineOf 13 = .ok (.isub, 1) := by decide +kernel
theorem d_X_lineOf_14 : decode b_X_lineOf 14 = .ok (.istore_n 3, 1) := by decide +kernel
theorem d_X_lineOf_15 : decode b_X_lineOf 15 = .ok (.iload_n 3, 1) := by decide +kernel
theorem d_X_lineOf_16 : decode b_X_lineOf 16 = .ok (.sipush 1440, 3) := by decide +kernel
theorem d_X_lineOf_19 : decode b_X_lineOf 19 = .ok (.irem, 1) := by decide +kernel
theorem d_X_lineOf_20 : decode b_X_lineOf 20 = .ok (.istore 4, 2) := by decide +kernel
theorem d_X_lineOf_22 : decode b_X_lineOf 22 = .ok (.new 154, 3) := by decide +kernel
theorem d_X_lineOf_25 : decode b_X_lineOf 25 = .ok (.dup, 1) := by decide +kernel
theorem d_X_lineOf_26 : decode b_X_lineOf 26 = .ok (.invokespecial 199, 3) := by decide +kernel
theorem d_X_lineOf_29 : decode b_X_lineOf 29 = .ok (.astore 5, 2) := by decide +kernel
theorem d_X_lineOf_31 : decode b_X_lineOf 31 = .ok (.aload 5, 2) := by decide +kernel
theorem d_X_lineOf_33 : decode b_X_lineOf 33 = .ok (.iload_n 2, 1) := by decide +kernel
theorem d_X_lineOf_34 : decode b_X_lineOf 34 = .ok (.iconst 1, 1) := by decide +kernel
theorem d_X_lineOf_35 : decode b_X_lineOf 35 = .ok (.invokestatic 200, 3) := by decide +kernel
theorem d_X_lineOf_38 : decode b_X_lineOf 38 = .ok (.aload 5, 2) := by decide +kernel
theorem d_X_lineOf_40 : decode b_X_lineOf 40 = .ok (.bipush 32, 2) := by decide +kernel
theorem d_X_lineOf_42 : decode b_X_lineOf 42 = .ok (.invokevirtual 204, 3) := by decide +kernel
theorem d_X_lineOf_45 : decode b_X_lineOf 45 = .ok (.pop, 1) := by decide +kernel
theorem d_X_lineOf_46 : decode b_X_lineOf 46 = .ok (.aload 5, 2) := by decide +kernel
theorem d_X_lineOf_48 : decode b_X_lineOf 48 = .ok (.iload_n 3, 1) := by decide +kernel
theorem d_X_lineOf_49 : decode b_X_lineOf 49 = .ok (.sipush 1440, 3) := by decide +kernel
theorem d_X_lineOf_52 : decode b_X_lineOf 52 = .ok (.idiv, 1) := by decide +kernel
theorem d_X_lineOf_53 : decode b_X_lineOf 53 = .ok (.bipush 100, 2) := by decide +kernel
theorem d_X_lineOf_55 : decode b_X_lineOf 55 = .ok (.invokestatic 200, 3) := by decide +kernel
theorem d_X_lineOf_58 : decode b_X_lineOf 58 = .ok (.aload 5, 2) := by decide +kernel
theorem d_X_lineOf_60 : decode b_X_lineOf 60 = .ok (.bipush 32, 2) := by decide +kernel
theorem d_X_lineOf_62 : decode b_X_lineOf 62 = .ok (.invokevirtual 204, 3) := by decide +kernel
theorem d_X_lineOf_65 : decode b_X_lineOf 65 = .ok (.pop, 1) := by decide +kernel
theorem d_X_lineOf_66 : decode b_X_lineOf 66 = .ok (.aload 5, 2) := by decide +kernel
theorem d_X_lineOf_68 : decode b_X_lineOf 68 = .ok (.iload 4, 2) := by decide +kernel
theorem d_X_lineOf_70 : decode b_X_lineOf 70 = .ok (.bipush 60, 2) := by decide +kernel
theorem d_X_lineOf_72 : decode b_X_lineOf 72 = .ok (.idiv, 1) := by decide +kernel
theorem d_X_lineOf_73 : decode b_X_lineOf 73 = .ok (.bipush 10, 2) := by decide +kernel
theorem d_X_lineOf_75 : decode b_X_lineOf 75 = .ok (.invokestatic 200, 3) := by decide +kernel
theorem d_X_lineOf_78 : decode b_X_lineOf 78 = .ok (.aload 5, 2) := by decide +kernel
theorem d_X_lineOf_80 : decode b_X_lineOf 80 = .ok (.bipush 58, 2) := by decide +kernel
theorem d_X_lineOf_82 : decode b_X_lineOf 82 = .ok (.invokevirtual 204, 3) := by decide +kernel
theorem d_X_lineOf_85 : decode b_X_lineOf 85 = .ok (.pop, 1) := by decide +kernel
theorem d_X_lineOf_86 : decode b_X_lineOf 86 = .ok (.aload 5, 2) := by decide +kernel
theorem d_X_lineOf_88 : decode b_X_lineOf 88 = .ok (.iload 4, 2) := by decide +kernel
theorem d_X_lineOf_90 : decode b_X_lineOf 90 = .ok (.bipush 60, 2) := by decide +kernel
theorem d_X_lineOf_92 : decode b_X_lineOf 92 = .ok (.irem, 1) := by decide +kernel
theorem d_X_lineOf_93 : decode b_X_lineOf 93 = .ok (.bipush 10, 2) := by decide +kernel
theorem d_X_lineOf_95 : decode b_X_lineOf 95 = .ok (.invokestatic 200, 3) := by decide +kernel
theorem d_X_lineOf_98 : decode b_X_lineOf 98 = .ok (.aload 5, 2) := by decide +kernel
theorem d_X_lineOf_100 : decode b_X_lineOf 100 = .ok (.aload_n 0, 1) := by decide +kernel
theorem d_X_lineOf_101 : decode b_X_lineOf 101 = .ok (.iload_n 1, 1) := by decide +kernel
theorem d_X_lineOf_102 : decode b_X_lineOf 102 = .ok (.invokevirtual 144, 3) := by decide +kernel
theorem d_X_lineOf_105 : decode b_X_lineOf 105 = .ok (.ifCond .eq 8, 3) := by decide +kernel
theorem d_X_lineOf_108 : decode b_X_lineOf 108 = .ok (.ldc 208, 2) := by decide +kernel
theorem d_X_lineOf_110 : decode b_X_lineOf 110 = .ok (.goto 5, 3) := by decide +kernel
theorem d_X_lineOf_113 : decode b_X_lineOf 113 = .ok (.ldc 210, 2) := by decide +kernel
theorem d_X_lineOf_115 : decode b_X_lineOf 115 = .ok (.invokevirtual 212, 3) := by decide +kernel
theorem d_X_lineOf_118 : decode b_X_lineOf 118 = .ok (.pop, 1) := by decide +kernel
theorem d_X_lineOf_119 : decode b_X_lineOf 119 = .ok (.aload 5, 2) := by decide +kernel
theorem d_X_lineOf_121 : decode b_X_lineOf 121 = .ok (.aload_n 0, 1) := by decide +kernel
theorem d_X_lineOf_122 : decode b_X_lineOf 122 = .ok (.iload_n 1, 1) := by decide +kernel
theorem d_X_lineOf_123 : decode b_X_lineOf 123 = .ok (.invokevirtual 119, 3) := by decide +kernel
theorem d_X_lineOf_126 : decode b_X_lineOf 126 = .ok (.invokestatic 215, 3) := by decide +kernel
theorem d_X_lineOf_129 : decode b_X_lineOf 129 = .ok (.aload 5, 2) := by decide +kernel
theorem d_X_lineOf_131 : decode b_X_lineOf 131 = .ok (.areturn, 1) := by decide +kernel
theorem d_X_appendHeight_0 : decode b_X_appendHeight 0 = .ok (.iload_n 1, 1) := by decide +kernel
theorem d_X_appendHeight_1 : decode b_X_appendHeight 1 = .ok (.ifCond .ge 10, 3) := by decide +kernel
theorem d_X_appendHeight_4 : decode b_X_appendHeight 4 = .ok (.aload_n 0, 1) := by decide +kernel
theorem d_X_appendHeight_5 : decode b_X_appendHeight 5 = .ok (.bipush 45, 2) := by decide +kernel
theorem d_X_appendHeight_7 : decode b_X_appendHeight 7 = .ok (.invokevirtual 204, 3) := by decide +kernel
theorem d_X_appendHeight_10 : decode b_X_appendHeight 10 = .ok (.pop, 1) := by decide +kernel
theorem d_X_appendHeight_11 : decode b_X_appendHeight 11 = .ok (.iload_n 1, 1) := by decide +kernel
theorem d_X_appendHeight_12 : decode b_X_appendHeight 12 = .ok (.invokestatic 219, 3) := by decide +kernel
theorem d_X_appendHeight_15 : decode b_X_appendHeight 15 = .ok (.istore_n 2, 1) := by decide +kernel
theorem d_X_appendHeight_16 : decode b_X_appendHeight 16 = .ok (.aload_n 0, 1) := by decide +kernel
theorem d_X_appendHeight_17 : decode b_X_appendHeight 17 = .ok (.iload_n 2, 1) := by decide +kernel
theorem d_X_appendHeight_18 : decode b_X_appendHeight 18 = .ok (.sipush 10000, 3) := by decide +kernel
theorem d_X_appendHeight_21 : decode b_X_appendHeight 21 = .ok (.idiv, 1) := by decide +kernel
theorem d_X_appendHeight_22 : decode b_X_appendHeight 22 = .ok (.invokevirtual 222, 3) := by decide +kernel
theorem d_X_appendHeight_25 : decode b_X_appendHeight 25 = .ok (.pop, 1) := by decide +kernel
theorem d_X_appendHeight_26 : decode b_X_appendHeight 26 = .ok (.aload_n 0, 1) := by decide +kernel
theorem d_X_appendHeight_27 : decode b_X_appendHeight 27 = .ok (.bipush 46, 2) := by decide +kernel
theorem d_X_appendHeight_29 : decode b_X_appendHeight 29 = .ok (.invokevirtual 204, 3) := by decide +kernel
theorem d_X_appendHeight_32 : decode b_X_appendHeight 32 = .ok (.pop, 1) := by decide +kernel
theorem d_X_appendHeight_33 : decode b_X_appendHeight 33 = .ok (.aload_n 0, 1) := by decide +kernel
theorem d_X_appendHeight_34 : decode b_X_appendHeight 34 = .ok (.iload_n 2, 1) := by decide +kernel
theorem d_X_appendHeight_35 : decode b_X_appendHeight 35 = .ok (.sipush 10000, 3) := by decide +kernel
theorem d_X_appendHeight_38 : decode b_X_appendHeight 38 = .ok (.irem, 1) := by decide +kernel
theorem d_X_appendHeight_39 : decode b_X_appendHeight 39 = .ok (.sipush 1000, 3) := by decide +kernel
theorem d_X_appendHeight_42 : decode b_X_appendHeight 42 = .ok (.invokestatic 200, 3) := by decide +kernel
theorem d_X_appendHeight_45 : decode b_X_appendHeight 45 = .ok (.return_, 1) := by decide +kernel
theorem d_X_appendDigits_0 : decode b_X_appendDigits 0 = .ok (.iload_n 2, 1) := by decide +kernel
theorem d_X_appendDigits_1 : decode b_X_appendDigits 1 = .ok (.istore_n 3, 1) := by decide +kernel
theorem d_X_appendDigits_2 : decode b_X_appendDigits 2 = .ok (.iload_n 3, 1) := by decide +kernel
theorem d_X_appendDigits_3 : decode b_X_appendDigits 3 = .ok (.ifCond .le 26, 3) := by decide +kernel
theorem d_X_appendDigits_6 : decode b_X_appendDigits 6 = .ok (.aload_n 0, 1) := by decide +kernel
theorem d_X_appendDigits_7 : decode b_X_appendDigits 7 = .ok (.bipush 48, 2) := by decide +kernel
theorem d_X_appendDigits_9 : decode b_X_appendDigits 9 = .ok (.iload_n 1, 1) := by decide +kernel
theorem d_X_appendDigits_10 : decode b_X_appendDigits 10 = .ok (.iload_n 3, 1) := by decide +kernel
theorem d_X_appendDigits_11 : decode b_X_appendDigits 11 = .ok (.idiv, 1) := by decide +kernel
theorem d_X_appendDigits_12 : decode b_X_appendDigits 12 = .ok (.bipush 10, 2) := by decide +kernel
theorem d_X_appendDigits_14 : decode b_X_appendDigits 14 = .ok (.irem, 1) := by decide +kernel
theorem d_X_appendDigits_15 : decode b_X_appendDigits 15 = .ok (.iadd, 1) := by decide +kernel
theorem d_X_appendDigits_16 : decode b_X_appendDigits 16 = .ok (.i2c, 1) := by decide +kernel
theorem d_X_appendDigits_17 : decode b_X_appendDigits 17 = .ok (.invokevirtual 204, 3) := by decide +kernel
theorem d_X_appendDigits_20 : decode b_X_appendDigits 20 = .ok (.pop, 1) := by decide +kernel
theorem d_X_appendDigits_21 : decode b_X_appendDigits 21 = .ok (.iload_n 3, 1) := by decide +kernel
theorem d_X_appendDigits_22 : decode b_X_appendDigits 22 = .ok (.bipush 10, 2) := by decide +kernel
theorem d_X_appendDigits_24 : decode b_X_appendDigits 24 = .ok (.idiv, 1) := by decide +kernel
theorem d_X_appendDigits_25 : decode b_X_appendDigits 25 = .ok (.istore_n 3, 1) := by decide +kernel
theorem d_X_appendDigits_26 : decode b_X_appendDigits 26 = .ok (.goto (-24), 3) := by decide +kernel
theorem d_X_appendDigits_29 : decode b_X_appendDigits 29 = .ok (.return_, 1) := by decide +kernel
