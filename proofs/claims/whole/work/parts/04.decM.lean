/-! the instructions of TideTablesModel, decoded. Written by wip/whole/names.py -/
theorem d_M_init_0 : decode b_M_init 0 = .ok (.aload_n 0, 1) := by decide +kernel
theorem d_M_init_1 : decode b_M_init 1 = .ok (.invokespecial 1, 3) := by decide +kernel
theorem d_M_init_4 : decode b_M_init 4 = .ok (.aload_n 0, 1) := by decide +kernel
theorem d_M_init_5 : decode b_M_init 5 = .ok (.bipush 10, 2) := by decide +kernel
theorem d_M_init_7 : decode b_M_init 7 = .ok (.newarray .int, 2) := by decide +kernel
theorem d_M_init_9 : decode b_M_init 9 = .ok (.dup, 1) := by decide +kernel
theorem d_M_init_10 : decode b_M_init 10 = .ok (.iconst 0, 1) := by decide +kernel
theorem d_M_init_11 : decode b_M_init 11 = .ok (.sipush 365, 3) := by decide +kernel
theorem d_M_init_14 : decode b_M_init 14 = .ok (.iastore, 1) := by decide +kernel
theorem d_M_init_15 : decode b_M_init 15 = .ok (.dup, 1) := by decide +kernel
theorem d_M_init_16 : decode b_M_init 16 = .ok (.iconst 1, 1) := by decide +kernel
theorem d_M_init_17 : decode b_M_init 17 = .ok (.sipush 365, 3) := by decide +kernel
theorem d_M_init_20 : decode b_M_init 20 = .ok (.iastore, 1) := by decide +kernel
theorem d_M_init_21 : decode b_M_init 21 = .ok (.dup, 1) := by decide +kernel
theorem d_M_init_22 : decode b_M_init 22 = .ok (.iconst 2, 1) := by decide +kernel
theorem d_M_init_23 : decode b_M_init 23 = .ok (.sipush 365, 3) := by decide +kernel
theorem d_M_init_26 : decode b_M_init 26 = .ok (.iastore, 1) := by decide +kernel
theorem d_M_init_27 : decode b_M_init 27 = .ok (.dup, 1) := by decide +kernel
theorem d_M_init_28 : decode b_M_init 28 = .ok (.iconst 3, 1) := by decide +kernel
theorem d_M_init_29 : decode b_M_init 29 = .ok (.sipush 365, 3) := by decide +kernel
theorem d_M_init_32 : decode b_M_init 32 = .ok (.iastore, 1) := by decide +kernel
theorem d_M_init_33 : decode b_M_init 33 = .ok (.dup, 1) := by decide +kernel
theorem d_M_init_34 : decode b_M_init 34 = .ok (.iconst 4, 1) := by decide +kernel
theorem d_M_init_35 : decode b_M_init 35 = .ok (.sipush 365, 3) := by decide +kernel
theorem d_M_init_38 : decode b_M_init 38 = .ok (.iastore, 1) := by decide +kernel
theorem d_M_init_39 : decode b_M_init 39 = .ok (.dup, 1) := by decide +kernel
theorem d_M_init_40 : decode b_M_init 40 = .ok (.iconst 5, 1) := by decide +kernel
theorem d_M_init_41 : decode b_M_init 41 = .ok (.sipush 365, 3) := by decide +kernel
theorem d_M_init_44 : decode b_M_init 44 = .ok (.iastore, 1) := by decide +kernel
theorem d_M_init_45 : decode b_M_init 45 = .ok (.dup, 1) := by decide +kernel
theorem d_M_init_46 : decode b_M_init 46 = .ok (.bipush 6, 2) := by decide +kernel
theorem d_M_init_48 : decode b_M_init 48 = .ok (.sipush 365, 3) := by decide +kernel
theorem d_M_init_51 : decode b_M_init 51 = .ok (.iastore, 1) := by decide +kernel
theorem d_M_init_52 : decode b_M_init 52 = .ok (.dup, 1) := by decide +kernel
theorem d_M_init_53 : decode b_M_init 53 = .ok (.bipush 7, 2) := by decide +kernel
theorem d_M_init_55 : decode b_M_init 55 = .ok (.sipush 365, 3) := by decide +kernel
theorem d_M_init_58 : decode b_M_init 58 = .ok (.iastore, 1) := by decide +kernel
theorem d_M_init_59 : decode b_M_init 59 = .ok (.dup, 1) := by decide +kernel
theorem d_M_init_60 : decode b_M_init 60 = .ok (.bipush 8, 2) := by decide +kernel
theorem d_M_init_62 : decode b_M_init 62 = .ok (.sipush 365, 3) := by decide +kernel
theorem d_M_init_65 : decode b_M_init 65 = .ok (.iastore, 1) := by decide +kernel
theorem d_M_init_66 : decode b_M_init 66 = .ok (.dup, 1) := by decide +kernel
theorem d_M_init_67 : decode b_M_init 67 = .ok (.bipush 9, 2) := by decide +kernel
theorem d_M_init_69 : decode b_M_init 69 = .ok (.sipush 365, 3) := by decide +kernel
theorem d_M_init_72 : decode b_M_init 72 = .ok (.iastore, 1) := by decide +kernel
theorem d_M_init_73 : decode b_M_init 73 = .ok (.putfield 7, 3) := by decide +kernel
theorem d_M_init_76 : decode b_M_init 76 = .ok (.aload_n 0, 1) := by decide +kernel
theorem d_M_init_77 : decode b_M_init 77 = .ok (.bipush 8, 2) := by decide +kernel
theorem d_M_init_79 : decode b_M_init 79 = .ok (.newarray .int, 2) := by decide +kernel
theorem d_M_init_81 : decode b_M_init 81 = .ok (.putfield 13, 3) := by decide +kernel
theorem d_M_init_84 : decode b_M_init 84 = .ok (.aload_n 0, 1) := by decide +kernel
theorem d_M_init_85 : decode b_M_init 85 = .ok (.bipush 8, 2) := by decide +kernel
theorem d_M_init_87 : decode b_M_init 87 = .ok (.newarray .long, 2) := by decide +kernel
theorem d_M_init_89 : decode b_M_init 89 = .ok (.putfield 16, 3) := by decide +kernel
theorem d_M_init_92 : decode b_M_init 92 = .ok (.aload_n 0, 1) := by decide +kernel
theorem d_M_init_93 : decode b_M_init 93 = .ok (.bipush 8, 2) := by decide +kernel
theorem d_M_init_95 : decode b_M_init 95 = .ok (.newarray .long, 2) := by decide +kernel
theorem d_M_init_97 : decode b_M_init 97 = .ok (.putfield 20, 3) := by decide +kernel
theorem d_M_init_100 : decode b_M_init 100 = .ok (.aload_n 0, 1) := by decide +kernel
theorem d_M_init_101 : decode b_M_init 101 = .ok (.bipush 80, 2) := by decide +kernel
theorem d_M_init_103 : decode b_M_init 103 = .ok (.newarray .int, 2) := by decide +kernel
theorem d_M_init_105 : decode b_M_init 105 = .ok (.putfield 23, 3) := by decide +kernel
theorem d_M_init_108 : decode b_M_init 108 = .ok (.aload_n 0, 1) := by decide +kernel
theorem d_M_init_109 : decode b_M_init 109 = .ok (.bipush 80, 2) := by decide +kernel
theorem d_M_init_111 : decode b_M_init 111 = .ok (.newarray .long, 2) := by decide +kernel
theorem d_M_init_113 : decode b_M_init 113 = .ok (.putfield 26, 3) := by decide +kernel
theorem d_M_init_116 : decode b_M_init 116 = .ok (.aload_n 0, 1) := by decide +kernel
theorem d_M_init_117 : decode b_M_init 117 = .ok (.sipush 1440, 3) := by decide +kernel
theorem d_M_init_120 : decode b_M_init 120 = .ok (.newarray .int, 2) := by decide +kernel
theorem d_M_init_122 : decode b_M_init 122 = .ok (.putfield 29, 3) := by decide +kernel
theorem d_M_init_125 : decode b_M_init 125 = .ok (.aload_n 0, 1) := by decide +kernel
theorem d_M_init_126 : decode b_M_init 126 = .ok (.sipush 1440, 3) := by decide +kernel
theorem d_M_init_129 : decode b_M_init 129 = .ok (.newarray .int, 2) := by decide +kernel
theorem d_M_init_131 : decode b_M_init 131 = .ok (.putfield 32, 3) := by decide +kernel
theorem d_M_init_134 : decode b_M_init 134 = .ok (.aload_n 0, 1) := by decide +kernel
theorem d_M_init_135 : decode b_M_init 135 = .ok (.sipush 1440, 3) := by decide +kernel
theorem d_M_init_138 : decode b_M_init 138 = .ok (.newarray .boolean, 2) := by decide +kernel
theorem d_M_init_140 : decode b_M_init 140 = .ok (.putfield 35, 3) := by decide +kernel
theorem d_M_init_143 : decode b_M_init 143 = .ok (.aload_n 0, 1) := by decide +kernel
theorem d_M_init_144 : decode b_M_init 144 = .ok (.bipush 40, 2) := by decide +kernel
theorem d_M_init_146 : decode b_M_init 146 = .ok (.newarray .int, 2) := by decide +kernel
theorem d_M_init_148 : decode b_M_init 148 = .ok (.putfield 39, 3) := by decide +kernel
theorem d_M_init_151 : decode b_M_init 151 = .ok (.iconst 0, 1) := by decide +kernel
theorem d_M_init_152 : decode b_M_init 152 = .ok (.istore_n 1, 1) := by decide +kernel
theorem d_M_init_153 : decode b_M_init 153 = .ok (.iload_n 1, 1) := by decide +kernel
theorem d_M_init_154 : decode b_M_init 154 = .ok (.bipush 80, 2) := by decide +kernel
theorem d_M_init_156 : decode b_M_init 156 = .ok (.if_icmp .ge 17, 3) := by decide +kernel
theorem d_M_init_159 : decode b_M_init 159 = .ok (.aload_n 0, 1) := by decide +kernel
theorem d_M_init_160 : decode b_M_init 160 = .ok (.getfield 23, 3) := by decide +kernel
theorem d_M_init_163 : decode b_M_init 163 = .ok (.iload_n 1, 1) := by decide +kernel
theorem d_M_init_164 : decode b_M_init 164 = .ok (.ldc 42, 2) := by decide +kernel
theorem d_M_init_166 : decode b_M_init 166 = .ok (.iastore, 1) := by decide +kernel
theorem d_M_init_167 : decode b_M_init 167 = .ok (.iinc 1 1, 3) := by decide +kernel
theorem d_M_init_170 : decode b_M_init 170 = .ok (.goto (-17), 3) := by decide +kernel
theorem d_M_init_173 : decode b_M_init 173 = .ok (.return_, 1) := by decide +kernel
theorem d_M_thrown_0 : decode b_M_thrown 0 = .ok (.aload_n 0, 1) := by decide +kernel
theorem d_M_thrown_1 : decode b_M_thrown 1 = .ok (.getfield 43, 3) := by decide +kernel
theorem d_M_thrown_4 : decode b_M_thrown 4 = .ok (.ireturn, 1) := by decide +kernel
theorem d_M_isOne_0 : decode b_M_isOne 0 = .ok (.iload_n 0, 1) := by decide +kernel
theorem d_M_isOne_1 : decode b_M_isOne 1 = .ok (.ifCond .lt 13, 3) := by decide +kernel
theorem d_M_isOne_4 : decode b_M_isOne 4 = .ok (.iload_n 0, 1) := by decide +kernel
theorem d_M_isOne_5 : decode b_M_isOne 5 = .ok (.bipush 8, 2) := by decide +kernel
theorem d_M_isOne_7 : decode b_M_isOne 7 = .ok (.if_icmp .ge 7, 3) := by decide +kernel
theorem d_M_isOne_10 : decode b_M_isOne 10 = .ok (.iconst 1, 1) := by decide +kernel
theorem d_M_isOne_11 : decode b_M_isOne 11 = .ok (.goto 4, 3) := by decide +kernel
theorem d_M_isOne_14 : decode b_M_isOne 14 = .ok (.iconst 0, 1) := by decide +kernel
theorem d_M_isOne_15 : decode b_M_isOne 15 = .ok (.ireturn, 1) := by decide +kernel
theorem d_M_isYear_0 : decode b_M_isYear 0 = .ok (.iload_n 0, 1) := by decide +kernel
theorem d_M_isYear_1 : decode b_M_isYear 1 = .ok (.ifCond .lt 13, 3) := by decide +kernel
theorem d_M_isYear_4 : decode b_M_isYear 4 = .ok (.iload_n 0, 1) := by decide +kernel
theorem d_M_isYear_5 : decode b_M_isYear 5 = .ok (.bipush 10, 2) := by decide +kernel
theorem d_M_isYear_7 : decode b_M_isYear 7 = .ok (.if_icmp .ge 7, 3) := by decide +kernel
theorem d_M_isYear_10 : decode b_M_isYear 10 = .ok (.iconst 1, 1) := by decide +kernel
theorem d_M_isYear_11 : decode b_M_isYear 11 = .ok (.goto 4, 3) := by decide +kernel
theorem d_M_isYear_14 : decode b_M_isYear 14 = .ok (.iconst 0, 1) := by decide +kernel
theorem d_M_isYear_15 : decode b_M_isYear 15 = .ok (.ireturn, 1) := by decide +kernel
theorem d_M_isTurn_0 : decode b_M_isTurn 0 = .ok (.lload_n 0, 1) := by decide +kernel
theorem d_M_isTurn_1 : decode b_M_isTurn 1 = .ok (.lconst 0, 1) := by decide +kernel
theorem d_M_isTurn_2 : decode b_M_isTurn 2 = .ok (.lcmp, 1) := by decide +kernel
theorem d_M_isTurn_3 : decode b_M_isTurn 3 = .ok (.ifCond .lt 15, 3) := by decide +kernel
theorem d_M_isTurn_6 : decode b_M_isTurn 6 = .ok (.lload_n 0, 1) := by decide +kernel
theorem d_M_isTurn_7 : decode b_M_isTurn 7 = .ok (.ldc2_w 47, 3) := by decide +kernel
theorem d_M_isTurn_10 : decode b_M_isTurn 10 = .ok (.lcmp, 1) := by decide +kernel
theorem d_M_isTurn_11 : decode b_M_isTurn 11 = .ok (.ifCond .ge 7, 3) := by decide +kernel
theorem d_M_isTurn_14 : decode b_M_isTurn 14 = .ok (.iconst 1, 1) := by decide +kernel
theorem d_M_isTurn_15 : decode b_M_isTurn 15 = .ok (.goto 4, 3) := by decide +kernel
theorem d_M_isTurn_18 : decode b_M_isTurn 18 = .ok (.iconst 0, 1) := by decide +kernel
theorem d_M_isTurn_19 : decode b_M_isTurn 19 = .ok (.ireturn, 1) := by decide +kernel
theorem d_M_level_0 : decode b_M_level 0 = .ok (.aload_n 0, 1) := by decide +kernel
theorem d_M_level_1 : decode b_M_level 1 = .ok (.iload_n 1, 1) := by decide +kernel
theorem d_M_level_2 : decode b_M_level 2 = .ok (.ldc 49, 2) := by decide +kernel
theorem d_M_level_4 : decode b_M_level 4 = .ok (.if_icmp .lt 9, 3) := by decide +kernel
theorem d_M_level_7 : decode b_M_level 7 = .ok (.iload_n 1, 1) := by decide +kernel
theorem d_M_level_8 : decode b_M_level 8 = .ok (.ldc 50, 2) := by decide +kernel
theorem d_M_level_10 : decode b_M_level 10 = .ok (.if_icmp .le 7, 3) := by decide +kernel
theorem d_M_level_13 : decode b_M_level 13 = .ok (.iconst 1, 1) := by decide +kernel
theorem d_M_level_14 : decode b_M_level 14 = .ok (.goto 4, 3) := by decide +kernel
theorem d_M_level_17 : decode b_M_level 17 = .ok (.iconst 0, 1) := by decide +kernel
theorem d_M_level_18 : decode b_M_level 18 = .ok (.putfield 43, 3) := by decide +kernel
theorem d_M_level_21 : decode b_M_level 21 = .ok (.aload_n 0, 1) := by decide +kernel
theorem d_M_level_22 : decode b_M_level 22 = .ok (.getfield 43, 3) := by decide +kernel
theorem d_M_level_25 : decode b_M_level 25 = .ok (.ifCond .eq 5, 3) := by decide +kernel
theorem d_M_level_28 : decode b_M_level 28 = .ok (.iconst 0, 1) := by decide +kernel
theorem d_M_level_29 : decode b_M_level 29 = .ok (.ireturn, 1) := by decide +kernel
theorem d_M_level_30 : decode b_M_level 30 = .ok (.aload_n 0, 1) := by decide +kernel
theorem d_M_level_31 : decode b_M_level 31 = .ok (.getfield 51, 3) := by decide +kernel
theorem d_M_level_34 : decode b_M_level 34 = .ok (.istore_n 2, 1) := by decide +kernel
theorem d_M_level_35 : decode b_M_level 35 = .ok (.aload_n 0, 1) := by decide +kernel
theorem d_M_level_36 : decode b_M_level 36 = .ok (.iload_n 1, 1) := by decide +kernel
theorem d_M_level_37 : decode b_M_level 37 = .ok (.putfield 51, 3) := by decide +kernel
theorem d_M_level_40 : decode b_M_level 40 = .ok (.iload_n 2, 1) := by decide +kernel
theorem d_M_level_41 : decode b_M_level 41 = .ok (.ireturn, 1) := by decide +kernel
theorem d_M_constituent_0 : decode b_M_constituent 0 = .ok (.iload_n 2, 1) := by decide +kernel
theorem d_M_constituent_1 : decode b_M_constituent 1 = .ok (.ifCond .lt 35, 3) := by decide +kernel
theorem d_M_constituent_4 : decode b_M_constituent 4 = .ok (.iload_n 2, 1) := by decide +kernel
theorem d_M_constituent_5 : decode b_M_constituent 5 = .ok (.ldc 54, 2) := by decide +kernel
theorem d_M_constituent_7 : decode b_M_constituent 7 = .ok (.if_icmp .gt 29, 3) := by decide +kernel
theorem d_M_constituent_10 : decode b_M_constituent 10 = .ok (.lload_n 3, 1) := by decide +kernel
theorem d_M_constituent_11 : decode b_M_constituent 11 = .ok (.lconst 0, 1) := by decide +kernel
theorem d_M_constituent_12 : decode b_M_constituent 12 = .ok (.lcmp, 1) := by decide +kernel
theorem d_M_constituent_13 : decode b_M_constituent 13 = .ok (.ifCond .lt 23, 3) := by decide +kernel
theorem d_M_constituent_16 : decode b_M_constituent 16 = .ok (.lload_n 3, 1) := by decide +kernel
theorem d_M_constituent_17 : decode b_M_constituent 17 = .ok (.ldc2_w 55, 3) := by decide +kernel
theorem d_M_constituent_20 : decode b_M_constituent 20 = .ok (.lcmp, 1) := by decide +kernel
theorem d_M_constituent_21 : decode b_M_constituent 21 = .ok (.ifCond .ge 15, 3) := by decide +kernel
theorem d_M_constituent_24 : decode b_M_constituent 24 = .ok (.lload 5, 2) := by decide +kernel
theorem d_M_constituent_26 : decode b_M_constituent 26 = .ok (.invokestatic 57, 3) := by decide +kernel
theorem d_M_constituent_29 : decode b_M_constituent 29 = .ok (.ifCond .eq 7, 3) := by decide +kernel
theorem d_M_constituent_32 : decode b_M_constituent 32 = .ok (.iconst 1, 1) := by decide +kernel
theorem d_M_constituent_33 : decode b_M_constituent 33 = .ok (.goto 4, 3) := by decide +kernel
theorem d_M_constituent_36 : decode b_M_constituent 36 = .ok (.iconst 0, 1) := by decide +kernel
theorem d_M_constituent_37 : decode b_M_constituent 37 = .ok (.istore 7, 2) := by decide +kernel
theorem d_M_constituent_39 : decode b_M_constituent 39 = .ok (.aload_n 0, 1) := by decide +kernel
theorem d_M_constituent_40 : decode b_M_constituent 40 = .ok (.iload_n 1, 1) := by decide +kernel
theorem d_M_constituent_41 : decode b_M_constituent 41 = .ok (.invokestatic 61, 3) := by decide +kernel
theorem d_M_constituent_44 : decode b_M_constituent 44 = .ok (.ifCond .ne 7, 3) := by decide +kernel
theorem d_M_constituent_47 : decode b_M_constituent 47 = .ok (.iconst 1, 1) := by decide +kernel
theorem d_M_constituent_48 : decode b_M_constituent 48 = .ok (.goto 13, 3) := by decide +kernel
theorem d_M_constituent_51 : decode b_M_constituent 51 = .ok (.iload 7, 2) := by decide +kernel
theorem d_M_constituent_53 : decode b_M_constituent 53 = .ok (.ifCond .ne 7, 3) := by decide +kernel
theorem d_M_constituent_56 : decode b_M_constituent 56 = .ok (.iconst 2, 1) := by decide +kernel
theorem d_M_constituent_57 : decode b_M_constituent 57 = .ok (.goto 4, 3) := by decide +kernel
theorem d_M_constituent_60 : decode b_M_constituent 60 = .ok (.iconst 0, 1) := by decide +kernel
theorem d_M_constituent_61 : decode b_M_constituent 61 = .ok (.putfield 43, 3) := by decide +kernel
theorem d_M_constituent_64 : decode b_M_constituent 64 = .ok (.aload_n 0, 1) := by decide +kernel
theorem d_M_constituent_65 : decode b_M_constituent 65 = .ok (.getfield 43, 3) := by decide +kernel
theorem d_M_constituent_68 : decode b_M_constituent 68 = .ok (.ifCond .eq 4, 3) := by decide +kernel
theorem d_M_constituent_71 : decode b_M_constituent 71 = .ok (.return_, 1) := by decide +kernel
theorem d_M_constituent_72 : decode b_M_constituent 72 = .ok (.aload_n 0, 1) := by decide +kernel
theorem d_M_constituent_73 : decode b_M_constituent 73 = .ok (.getfield 13, 3) := by decide +kernel
theorem d_M_constituent_76 : decode b_M_constituent 76 = .ok (.iload_n 1, 1) := by decide +kernel
theorem d_M_constituent_77 : decode b_M_constituent 77 = .ok (.iload_n 2, 1) := by decide +kernel
theorem d_M_constituent_78 : decode b_M_constituent 78 = .ok (.iastore, 1) := by decide +kernel
theorem d_M_constituent_79 : decode b_M_constituent 79 = .ok (.aload_n 0, 1) := by decide +kernel
theorem d_M_constituent_80 : decode b_M_constituent 80 = .ok (.getfield 16, 3) := by decide +kernel
theorem d_M_constituent_83 : decode b_M_constituent 83 = .ok (.iload_n 1, 1) := by decide +kernel
theorem d_M_constituent_84 : decode b_M_constituent 84 = .ok (.lload_n 3, 1) := by decide +kernel
theorem d_M_constituent_85 : decode b_M_constituent 85 = .ok (.lastore, 1) := by decide +kernel
theorem d_M_constituent_86 : decode b_M_constituent 86 = .ok (.aload_n 0, 1) := by decide +kernel
theorem d_M_constituent_87 : decode b_M_constituent 87 = .ok (.getfield 20, 3) := by decide +kernel
theorem d_M_constituent_90 : decode b_M_constituent 90 = .ok (.iload_n 1, 1) := by decide +kernel
theorem d_M_constituent_91 : decode b_M_constituent 91 = .ok (.lload 5, 2) := by decide +kernel
theorem d_M_constituent_93 : decode b_M_constituent 93 = .ok (.lastore, 1) := by decide +kernel
theorem d_M_constituent_94 : decode b_M_constituent 94 = .ok (.return_, 1) := by decide +kernel
theorem d_M_node_0 : decode b_M_node 0 = .ok (.aload_n 0, 1) := by decide +kernel
theorem d_M_node_1 : decode b_M_node 1 = .ok (.iload_n 1, 1) := by decide +kernel
theorem d_M_node_2 : decode b_M_node 2 = .ok (.invokestatic 61, 3) := by decide +kernel
theorem d_M_node_5 : decode b_M_node 5 = .ok (.ifCond .eq 10, 3) := by decide +kernel
theorem d_M_node_8 : decode b_M_node 8 = .ok (.iload_n 2, 1) := by decide +kernel
theorem d_M_node_9 : decode b_M_node 9 = .ok (.invokestatic 65, 3) := by decide +kernel
theorem d_M_node_12 : decode b_M_node 12 = .ok (.ifCond .ne 7, 3) := by decide +kernel
theorem d_M_node_15 : decode b_M_node 15 = .ok (.iconst 1, 1) := by decide +kernel
theorem d_M_node_16 : decode b_M_node 16 = .ok (.goto 26, 3) := by decide +kernel
theorem d_M_node_19 : decode b_M_node 19 = .ok (.iload_n 3, 1) := by decide +kernel
theorem d_M_node_20 : decode b_M_node 20 = .ok (.ifCond .lt 17, 3) := by decide +kernel
theorem d_M_node_23 : decode b_M_node 23 = .ok (.iload_n 3, 1) := by decide +kernel
theorem d_M_node_24 : decode b_M_node 24 = .ok (.ldc 68, 2) := by decide +kernel
theorem d_M_node_26 : decode b_M_node 26 = .ok (.if_icmp .gt 11, 3) := by decide +kernel
theorem d_M_node_29 : decode b_M_node 29 = .ok (.lload 4, 2) := by decide +kernel
theorem d_M_node_31 : decode b_M_node 31 = .ok (.invokestatic 57, 3) := by decide +kernel
theorem d_M_node_34 : decode b_M_node 34 = .ok (.ifCond .ne 7, 3) := by decide +kernel
theorem d_M_node_37 : decode b_M_node 37 = .ok (.iconst 2, 1) := by decide +kernel
theorem d_M_node_38 : decode b_M_node 38 = .ok (.goto 4, 3) := by decide +kernel
theorem d_M_node_41 : decode b_M_node 41 = .ok (.iconst 0, 1) := by decide +kernel
theorem d_M_node_42 : decode b_M_node 42 = .ok (.putfield 43, 3) := by decide +kernel
theorem d_M_node_45 : decode b_M_node 45 = .ok (.aload_n 0, 1) := by decide +kernel
theorem d_M_node_46 : decode b_M_node 46 = .ok (.getfield 43, 3) := by decide +kernel
theorem d_M_node_49 : decode b_M_node 49 = .ok (.ifCond .eq 4, 3) := by decide +kernel
theorem d_M_node_52 : decode b_M_node 52 = .ok (.return_, 1) := by decide +kernel
theorem d_M_node_53 : decode b_M_node 53 = .ok (.aload_n 0, 1) := by decide +kernel
theorem d_M_node_54 : decode b_M_node 54 = .ok (.getfield 23, 3) := by decide +kernel
theorem d_M_node_57 : decode b_M_node 57 = .ok (.bipush 10, 2) := by decide +kernel
theorem d_M_node_59 : decode b_M_node 59 = .ok (.iload_n 1, 1) := by decide +kernel
theorem d_M_node_60 : decode b_M_node 60 = .ok (.imul, 1) := by decide +kernel
theorem d_M_node_61 : decode b_M_node 61 = .ok (.iload_n 2, 1) := by decide +kernel
theorem d_M_node_62 : decode b_M_node 62 = .ok (.iadd, 1) := by decide +kernel
theorem d_M_node_63 : decode b_M_node 63 = .ok (.iload_n 3, 1) := by decide +kernel
theorem d_M_node_64 : decode b_M_node 64 = .ok (.iastore, 1) := by decide +kernel
theorem d_M_node_65 : decode b_M_node 65 = .ok (.aload_n 0, 1) := by decide +kernel
theorem d_M_node_66 : decode b_M_node 66 = .ok (.getfield 26, 3) := by decide +kernel
theorem d_M_node_69 : decode b_M_node 69 = .ok (.bipush 10, 2) := by decide +kernel
theorem d_M_node_71 : decode b_M_node 71 = .ok (.iload_n 1, 1) := by decide +kernel
theorem d_M_node_72 : decode b_M_node 72 = .ok (.imul, 1) := by decide +kernel
theorem d_M_node_73 : decode b_M_node 73 = .ok (.iload_n 2, 1) := by decide +kernel
theorem d_M_node_74 : decode b_M_node 74 = .ok (.iadd, 1) := by decide +kernel
theorem d_M_node_75 : decode b_M_node 75 = .ok (.lload 4, 2) := by decide +kernel
theorem d_M_node_77 : decode b_M_node 77 = .ok (.lastore, 1) := by decide +kernel
theorem d_M_node_78 : decode b_M_node 78 = .ok (.return_, 1) := by decide +kernel
theorem d_M_days_0 : decode b_M_days 0 = .ok (.aload_n 0, 1) := by decide +kernel
theorem d_M_days_1 : decode b_M_days 1 = .ok (.iload_n 1, 1) := by decide +kernel
theorem d_M_days_2 : decode b_M_days 2 = .ok (.invokestatic 65, 3) := by decide +kernel
theorem d_M_days_5 : decode b_M_days 5 = .ok (.ifCond .ne 7, 3) := by decide +kernel
theorem d_M_days_8 : decode b_M_days 8 = .ok (.iconst 1, 1) := by decide +kernel
theorem d_M_days_9 : decode b_M_days 9 = .ok (.goto 22, 3) := by decide +kernel
theorem d_M_days_12 : decode b_M_days 12 = .ok (.iload_n 2, 1) := by decide +kernel
theorem d_M_days_13 : decode b_M_days 13 = .ok (.sipush 365, 3) := by decide +kernel
theorem d_M_days_16 : decode b_M_days 16 = .ok (.if_icmp .eq 14, 3) := by decide +kernel
theorem d_M_days_19 : decode b_M_days 19 = .ok (.iload_n 2, 1) := by decide +kernel
theorem d_M_days_20 : decode b_M_days 20 = .ok (.sipush 366, 3) := by decide +kernel
theorem d_M_days_23 : decode b_M_days 23 = .ok (.if_icmp .eq 7, 3) := by decide +kernel
theorem d_M_days_26 : decode b_M_days 26 = .ok (.iconst 2, 1) := by decide +kernel
theorem d_M_days_27 : decode b_M_days 27 = .ok (.goto 4, 3) := by decide +kernel
theorem d_M_days_30 : decode b_M_days 30 = .ok (.iconst 0, 1) := by decide +kernel
theorem d_M_days_31 : decode b_M_days 31 = .ok (.putfield 43, 3) := by decide +kernel
theorem d_M_days_34 : decode b_M_days 34 = .ok (.aload_n 0, 1) := by decide +kernel
theorem d_M_days_35 : decode b_M_days 35 = .ok (.getfield 43, 3) := by decide +kernel
theorem d_M_days_38 : decode b_M_days 38 = .ok (.ifCond .eq 5, 3) := by decide +kernel
theorem d_M_days_41 : decode b_M_days 41 = .ok (.iconst 0, 1) := by decide +kernel
theorem d_M_days_42 : decode b_M_days 42 = .ok (.ireturn, 1) := by decide +kernel
theorem d_M_days_43 : decode b_M_days 43 = .ok (.aload_n 0, 1) := by decide +kernel
theorem d_M_days_44 : decode b_M_days 44 = .ok (.getfield 7, 3) := by decide +kernel
theorem d_M_days_47 : decode b_M_days 47 = .ok (.iload_n 1, 1) := by decide +kernel
theorem d_M_days_48 : decode b_M_days 48 = .ok (.iaload, 1) := by decide +kernel
theorem d_M_days_49 : decode b_M_days 49 = .ok (.istore_n 3, 1) := by decide +kernel
theorem d_M_days_50 : decode b_M_days 50 = .ok (.aload_n 0, 1) := by decide +kernel
theorem d_M_days_51 : decode b_M_days 51 = .ok (.getfield 7, 3) := by decide +kernel
theorem d_M_days_54 : decode b_M_days 54 = .ok (.iload_n 1, 1) := by decide +kernel
theorem d_M_days_55 : decode b_M_days 55 = .ok (.iload_n 2, 1) := by decide +kernel
theorem d_M_days_56 : decode b_M_days 56 = .ok (.iastore, 1) := by decide +kernel
theorem d_M_days_57 : decode b_M_days 57 = .ok (.iload_n 3, 1) := by decide +kernel
theorem d_M_days_58 : decode b_M_days 58 = .ok (.ireturn, 1) := by decide +kernel
theorem d_M_daysBefore_0 : decode b_M_daysBefore 0 = .ok (.iconst 0, 1) := by decide +kernel
theorem d_M_daysBefore_1 : decode b_M_daysBefore 1 = .ok (.istore_n 2, 1) := by decide +kernel
theorem d_M_daysBefore_2 : decode b_M_daysBefore 2 = .ok (.iconst 0, 1) := by decide +kernel
theorem d_M_daysBefore_3 : decode b_M_daysBefore 3 = .ok (.istore_n 3, 1) := by decide +kernel
theorem d_M_daysBefore_4 : decode b_M_daysBefore 4 = .ok (.iload_n 3, 1) := by decide +kernel
theorem d_M_daysBefore_5 : decode b_M_daysBefore 5 = .ok (.iload_n 1, 1) := by decide +kernel
theorem d_M_daysBefore_6 : decode b_M_daysBefore 6 = .ok (.if_icmp .ge 18, 3) := by decide +kernel
theorem d_M_daysBefore_9 : decode b_M_daysBefore 9 = .ok (.iload_n 2, 1) := by decide +kernel
theorem d_M_daysBefore_10 : decode b_M_daysBefore 10 = .ok (.aload_n 0, 1) := by decide +kernel
theorem d_M_daysBefore_11 : decode b_M_daysBefore 11 = .ok (.getfield 7, 3) := by decide +kernel
theorem d_M_daysBefore_14 : decode b_M_daysBefore 14 = .ok (.iload_n 3, 1) := by decide +kernel
theorem d_M_daysBefore_15 : decode b_M_daysBefore 15 = .ok (.iaload, 1) := by decide +kernel
theorem d_M_daysBefore_16 : decode b_M_daysBefore 16 = .ok (.iadd, 1) := by decide +kernel
theorem d_M_daysBefore_17 : decode b_M_daysBefore 17 = .ok (.istore_n 2, 1) := by decide +kernel
theorem d_M_daysBefore_18 : decode b_M_daysBefore 18 = .ok (.iinc 3 1, 3) := by decide +kernel
theorem d_M_daysBefore_21 : decode b_M_daysBefore 21 = .ok (.goto (-17), 3) := by decide +kernel
theorem d_M_daysBefore_24 : decode b_M_daysBefore 24 = .ok (.iload_n 2, 1) := by decide +kernel
theorem d_M_daysBefore_25 : decode b_M_daysBefore 25 = .ok (.ireturn, 1) := by decide +kernel
theorem d_M_isMinute_0 : decode b_M_isMinute 0 = .ok (.iload_n 1, 1) := by decide +kernel
theorem d_M_isMinute_1 : decode b_M_isMinute 1 = .ok (.ifCond .lt 21, 3) := by decide +kernel
theorem d_M_isMinute_4 : decode b_M_isMinute 4 = .ok (.iload_n 1, 1) := by decide +kernel
theorem d_M_isMinute_5 : decode b_M_isMinute 5 = .ok (.sipush 1440, 3) := by decide +kernel
theorem d_M_isMinute_8 : decode b_M_isMinute 8 = .ok (.aload_n 0, 1) := by decide +kernel
theorem d_M_isMinute_9 : decode b_M_isMinute 9 = .ok (.bipush 10, 2) := by decide +kernel
theorem d_M_isMinute_11 : decode b_M_isMinute 11 = .ok (.invokevirtual 69, 3) := by decide +kernel
theorem d_M_isMinute_14 : decode b_M_isMinute 14 = .ok (.imul, 1) := by decide +kernel
theorem d_M_isMinute_15 : decode b_M_isMinute 15 = .ok (.if_icmp .ge 7, 3) := by decide +kernel
theorem d_M_isMinute_18 : decode b_M_isMinute 18 = .ok (.iconst 1, 1) := by decide +kernel
theorem d_M_isMinute_19 : decode b_M_isMinute 19 = .ok (.goto 4, 3) := by decide +kernel
theorem d_M_isMinute_22 : decode b_M_isMinute 22 = .ok (.iconst 0, 1) := by decide +kernel
theorem d_M_isMinute_23 : decode b_M_isMinute 23 = .ok (.ireturn, 1) := by decide +kernel
theorem d_M_isDay_0 : decode b_M_isDay 0 = .ok (.iload_n 1, 1) := by decide +kernel
theorem d_M_isDay_1 : decode b_M_isDay 1 = .ok (.ifCond .lt 17, 3) := by decide +kernel
theorem d_M_isDay_4 : decode b_M_isDay 4 = .ok (.iload_n 1, 1) := by decide +kernel
theorem d_M_isDay_5 : decode b_M_isDay 5 = .ok (.aload_n 0, 1) := by decide +kernel
theorem d_M_isDay_6 : decode b_M_isDay 6 = .ok (.bipush 10, 2) := by decide +kernel
theorem d_M_isDay_8 : decode b_M_isDay 8 = .ok (.invokevirtual 69, 3) := by decide +kernel
theorem d_M_isDay_11 : decode b_M_isDay 11 = .ok (.if_icmp .ge 7, 3) := by decide +kernel
theorem d_M_isDay_14 : decode b_M_isDay 14 = .ok (.iconst 1, 1) := by decide +kernel
theorem d_M_isDay_15 : decode b_M_isDay 15 = .ok (.goto 4, 3) := by decide +kernel
theorem d_M_isDay_18 : decode b_M_isDay 18 = .ok (.iconst 0, 1) := by decide +kernel
theorem d_M_isDay_19 : decode b_M_isDay 19 = .ok (.ireturn, 1) := by decide +kernel
theorem d_M_yearOfDay_0 : decode b_M_yearOfDay 0 = .ok (.bipush 9, 2) := by decide +kernel
theorem d_M_yearOfDay_2 : decode b_M_yearOfDay 2 = .ok (.istore_n 2, 1) := by decide +kernel
theorem d_M_yearOfDay_3 : decode b_M_yearOfDay 3 = .ok (.aload_n 0, 1) := by decide +kernel
theorem d_M_yearOfDay_4 : decode b_M_yearOfDay 4 = .ok (.iload_n 2, 1) := by decide +kernel
theorem d_M_yearOfDay_5 : decode b_M_yearOfDay 5 = .ok (.invokevirtual 69, 3) := by decide +kernel
theorem d_M_yearOfDay_8 : decode b_M_yearOfDay 8 = .ok (.iload_n 1, 1) := by decide +kernel
theorem d_M_yearOfDay_9 : decode b_M_yearOfDay 9 = .ok (.if_icmp .le 9, 3) := by decide +kernel
theorem d_M_yearOfDay_12 : decode b_M_yearOfDay 12 = .ok (.iinc 2 (-1), 3) := by decide +kernel
theorem d_M_yearOfDay_15 : decode b_M_yearOfDay 15 = .ok (.goto (-12), 3) := by decide +kernel
theorem d_M_yearOfDay_18 : decode b_M_yearOfDay 18 = .ok (.iload_n 2, 1) := by decide +kernel
theorem d_M_yearOfDay_19 : decode b_M_yearOfDay 19 = .ok (.ireturn, 1) := by decide +kernel
theorem d_M_first_0 : decode b_M_first 0 = .ok (.aload_n 0, 1) := by decide +kernel
theorem d_M_first_1 : decode b_M_first 1 = .ok (.iload_n 1, 1) := by decide +kernel
theorem d_M_first_2 : decode b_M_first 2 = .ok (.ifCond .lt 9, 3) := by decide +kernel
theorem d_M_first_5 : decode b_M_first 5 = .ok (.iload_n 1, 1) := by decide +kernel
theorem d_M_first_6 : decode b_M_first 6 = .ok (.bipush 10, 2) := by decide +kernel
theorem d_M_first_8 : decode b_M_first 8 = .ok (.if_icmp .le 7, 3) := by decide +kernel
theorem d_M_first_11 : decode b_M_first 11 = .ok (.iconst 1, 1) := by decide +kernel
theorem d_M_first_12 : decode b_M_first 12 = .ok (.goto 4, 3) := by decide +kernel
theorem d_M_first_15 : decode b_M_first 15 = .ok (.iconst 0, 1) := by decide +kernel
theorem d_M_first_16 : decode b_M_first 16 = .ok (.putfield 43, 3) := by decide +kernel
theorem d_M_first_19 : decode b_M_first 19 = .ok (.aload_n 0, 1) := by decide +kernel
theorem d_M_first_20 : decode b_M_first 20 = .ok (.getfield 43, 3) := by decide +kernel
theorem d_M_first_23 : decode b_M_first 23 = .ok (.ifCond .ne 15, 3) := by decide +kernel
theorem d_M_first_26 : decode b_M_first 26 = .ok (.sipush 1440, 3) := by decide +kernel
theorem d_M_first_29 : decode b_M_first 29 = .ok (.aload_n 0, 1) := by decide +kernel
theorem d_M_first_30 : decode b_M_first 30 = .ok (.iload_n 1, 1) := by decide +kernel
theorem d_M_first_31 : decode b_M_first 31 = .ok (.invokevirtual 69, 3) := by decide +kernel
theorem d_M_first_34 : decode b_M_first 34 = .ok (.imul, 1) := by decide +kernel
theorem d_M_first_35 : decode b_M_first 35 = .ok (.goto 4, 3) := by decide +kernel
theorem d_M_first_38 : decode b_M_first 38 = .ok (.iconst 0, 1) := by decide +kernel
theorem d_M_first_39 : decode b_M_first 39 = .ok (.ireturn, 1) := by decide +kernel
theorem d_M_year_0 : decode b_M_year 0 = .ok (.aload_n 0, 1) := by decide +kernel
theorem d_M_year_1 : decode b_M_year 1 = .ok (.aload_n 0, 1) := by decide +kernel
theorem d_M_year_2 : decode b_M_year 2 = .ok (.iload_n 1, 1) := by decide +kernel
theorem d_M_year_3 : decode b_M_year 3 = .ok (.invokevirtual 73, 3) := by decide +kernel
theorem d_M_year_6 : decode b_M_year 6 = .ok (.ifCond .eq 7, 3) := by decide +kernel
theorem d_M_year_9 : decode b_M_year 9 = .ok (.iconst 0, 1) := by decide +kernel
theorem d_M_year_10 : decode b_M_year 10 = .ok (.goto 4, 3) := by decide +kernel
theorem d_M_year_13 : decode b_M_year 13 = .ok (.iconst 1, 1) := by decide +kernel
theorem d_M_year_14 : decode b_M_year 14 = .ok (.putfield 43, 3) := by decide +kernel
theorem d_M_year_17 : decode b_M_year 17 = .ok (.aload_n 0, 1) := by decide +kernel
theorem d_M_year_18 : decode b_M_year 18 = .ok (.getfield 43, 3) := by decide +kernel
theorem d_M_year_21 : decode b_M_year 21 = .ok (.ifCond .ne 15, 3) := by decide +kernel
theorem d_M_year_24 : decode b_M_year 24 = .ok (.aload_n 0, 1) := by decide +kernel
theorem d_M_year_25 : decode b_M_year 25 = .ok (.iload_n 1, 1) := by decide +kernel
theorem d_M_year_26 : decode b_M_year 26 = .ok (.sipush 1440, 3) := by decide +kernel
theorem d_M_year_29 : decode b_M_year 29 = .ok (.idiv, 1) := by decide +kernel
theorem d_M_year_30 : decode b_M_year 30 = .ok (.invokevirtual 76, 3) := by decide +kernel
theorem d_M_year_33 : decode b_M_year 33 = .ok (.goto 4, 3) := by decide +kernel
theorem d_M_year_36 : decode b_M_year 36 = .ok (.iconst 0, 1) := by decide +kernel
theorem d_M_year_37 : decode b_M_year 37 = .ok (.ireturn, 1) := by decide +kernel
theorem d_M_positionOf_0 : decode b_M_positionOf 0 = .ok (.aload_n 0, 1) := by decide +kernel
theorem d_M_positionOf_1 : decode b_M_positionOf 1 = .ok (.getfield 20, 3) := by decide +kernel
theorem d_M_positionOf_4 : decode b_M_positionOf 4 = .ok (.iload_n 1, 1) := by decide +kernel
theorem d_M_positionOf_5 : decode b_M_positionOf 5 = .ok (.laload, 1) := by decide +kernel
theorem d_M_positionOf_6 : decode b_M_positionOf 6 = .ok (.aload_n 0, 1) := by decide +kernel
theorem d_M_positionOf_7 : decode b_M_positionOf 7 = .ok (.getfield 16, 3) := by decide +kernel
theorem d_M_positionOf_10 : decode b_M_positionOf 10 = .ok (.iload_n 1, 1) := by decide +kernel
theorem d_M_positionOf_11 : decode b_M_positionOf 11 = .ok (.laload, 1) := by decide +kernel
theorem d_M_positionOf_12 : decode b_M_positionOf 12 = .ok (.iload_n 2, 1) := by decide +kernel
theorem d_M_positionOf_13 : decode b_M_positionOf 13 = .ok (.i2l, 1) := by decide +kernel
theorem d_M_positionOf_14 : decode b_M_positionOf 14 = .ok (.lmul, 1) := by decide +kernel
theorem d_M_positionOf_15 : decode b_M_positionOf 15 = .ok (.ldc2_w 47, 3) := by decide +kernel
theorem d_M_positionOf_18 : decode b_M_positionOf 18 = .ok (.lrem, 1) := by decide +kernel
theorem d_M_positionOf_19 : decode b_M_positionOf 19 = .ok (.ladd, 1) := by decide +kernel
theorem d_M_positionOf_20 : decode b_M_positionOf 20 = .ok (.aload_n 0, 1) := by decide +kernel
theorem d_M_positionOf_21 : decode b_M_positionOf 21 = .ok (.getfield 26, 3) := by decide +kernel
theorem d_M_positionOf_24 : decode b_M_positionOf 24 = .ok (.bipush 10, 2) := by decide +kernel
theorem d_M_positionOf_26 : decode b_M_positionOf 26 = .ok (.iload_n 1, 1) := by decide +kernel
theorem d_M_positionOf_27 : decode b_M_positionOf 27 = .ok (.imul, 1) := by decide +kernel
theorem d_M_positionOf_28 : decode b_M_positionOf 28 = .ok (.iload_n 3, 1) := by decide +kernel
theorem d_M_positionOf_29 : decode b_M_positionOf 29 = .ok (.iadd, 1) := by decide +kernel
theorem d_M_positionOf_30 : decode b_M_positionOf 30 = .ok (.laload, 1) := by decide +kernel
theorem d_M_positionOf_31 : decode b_M_positionOf 31 = .ok (.ladd, 1) := by decide +kernel
theorem d_M_positionOf_32 : decode b_M_positionOf 32 = .ok (.lstore 4, 2) := by decide +kernel
theorem d_M_positionOf_34 : decode b_M_positionOf 34 = .ok (.lload 4, 2) := by decide +kernel
theorem d_M_positionOf_36 : decode b_M_positionOf 36 = .ok (.ldc2_w 47, 3) := by decide +kernel
theorem d_M_positionOf_39 : decode b_M_positionOf 39 = .ok (.lrem, 1) := by decide +kernel
theorem d_M_positionOf_40 : decode b_M_positionOf 40 = .ok (.lreturn, 1) := by decide +kernel
theorem d_M_position_0 : decode b_M_position 0 = .ok (.aload_n 0, 1) := by decide +kernel
theorem d_M_position_1 : decode b_M_position 1 = .ok (.iload_n 1, 1) := by decide +kernel
theorem d_M_position_2 : decode b_M_position 2 = .ok (.invokestatic 61, 3) := by decide +kernel
theorem d_M_position_5 : decode b_M_position 5 = .ok (.ifCond .eq 15, 3) := by decide +kernel
theorem d_M_position_8 : decode b_M_position 8 = .ok (.aload_n 0, 1) := by decide +kernel
theorem d_M_position_9 : decode b_M_position 9 = .ok (.iload_n 2, 1) := by decide +kernel
theorem d_M_position_10 : decode b_M_position 10 = .ok (.invokevirtual 73, 3) := by decide +kernel
theorem d_M_position_13 : decode b_M_position 13 = .ok (.ifCond .eq 7, 3) := by decide +kernel
theorem d_M_position_16 : decode b_M_position 16 = .ok (.iconst 0, 1) := by decide +kernel
theorem d_M_position_17 : decode b_M_position 17 = .ok (.goto 4, 3) := by decide +kernel
theorem d_M_position_20 : decode b_M_position 20 = .ok (.iconst 1, 1) := by decide +kernel
theorem d_M_position_21 : decode b_M_position 21 = .ok (.putfield 43, 3) := by decide +kernel
theorem d_M_position_24 : decode b_M_position 24 = .ok (.aload_n 0, 1) := by decide +kernel
theorem d_M_position_25 : decode b_M_position 25 = .ok (.getfield 43, 3) := by decide +kernel
theorem d_M_position_28 : decode b_M_position 28 = .ok (.ifCond .ne 21, 3) := by decide +kernel
theorem d_M_position_31 : decode b_M_position 31 = .ok (.aload_n 0, 1) := by decide +kernel
theorem d_M_position_32 : decode b_M_position 32 = .ok (.iload_n 1, 1) := by decide +kernel
theorem d_M_position_33 : decode b_M_position 33 = .ok (.iload_n 2, 1) := by decide +kernel
theorem d_M_position_34 : decode b_M_position 34 = .ok (.aload_n 0, 1) := by decide +kernel
theorem d_M_position_35 : decode b_M_position 35 = .ok (.iload_n 2, 1) := by decide +kernel
theorem d_M_position_36 : decode b_M_position 36 = .ok (.sipush 1440, 3) := by decide +kernel
theorem d_M_position_39 : decode b_M_position 39 = .ok (.idiv, 1) := by decide +kernel
theorem d_M_position_40 : decode b_M_position 40 = .ok (.invokevirtual 76, 3) := by decide +kernel
theorem d_M_position_43 : decode b_M_position 43 = .ok (.invokevirtual 79, 3) := by decide +kernel
theorem d_M_position_46 : decode b_M_position 46 = .ok (.goto 4, 3) := by decide +kernel
theorem d_M_position_49 : decode b_M_position 49 = .ok (.lconst 0, 1) := by decide +kernel
theorem d_M_position_50 : decode b_M_position 50 = .ok (.lreturn, 1) := by decide +kernel
theorem d_M_cosineOf_0 : decode b_M_cosineOf 0 = .ok (.lload_n 0, 1) := by decide +kernel
theorem d_M_cosineOf_1 : decode b_M_cosineOf 1 = .ok (.ldc2_w 83, 3) := by decide +kernel
theorem d_M_cosineOf_4 : decode b_M_cosineOf 4 = .ok (.ldiv, 1) := by decide +kernel
theorem d_M_cosineOf_5 : decode b_M_cosineOf 5 = .ok (.lstore_n 2, 1) := by decide +kernel
theorem d_M_cosineOf_6 : decode b_M_cosineOf 6 = .ok (.lload_n 0, 1) := by decide +kernel
theorem d_M_cosineOf_7 : decode b_M_cosineOf 7 = .ok (.ldc2_w 85, 3) := by decide +kernel
theorem d_M_cosineOf_10 : decode b_M_cosineOf 10 = .ok (.ldiv, 1) := by decide +kernel
theorem d_M_cosineOf_11 : decode b_M_cosineOf 11 = .ok (.ldc2_w 87, 3) := by decide +kernel
theorem d_M_cosineOf_14 : decode b_M_cosineOf 14 = .ok (.lrem, 1) := by decide +kernel
theorem d_M_cosineOf_15 : decode b_M_cosineOf 15 = .ok (.lstore 4, 2) := by decide +kernel
theorem d_M_cosineOf_17 : decode b_M_cosineOf 17 = .ok (.lload_n 2, 1) := by decide +kernel
theorem d_M_cosineOf_18 : decode b_M_cosineOf 18 = .ok (.ldc2_w 89, 3) := by decide +kernel
theorem d_M_cosineOf_21 : decode b_M_cosineOf 21 = .ok (.lrem, 1) := by decide +kernel
theorem d_M_cosineOf_22 : decode b_M_cosineOf 22 = .ok (.lconst 1, 1) := by decide +kernel
theorem d_M_cosineOf_23 : decode b_M_cosineOf 23 = .ok (.lcmp, 1) := by decide +kernel
theorem d_M_cosineOf_24 : decode b_M_cosineOf 24 = .ok (.ifCond .ne 11, 3) := by decide +kernel
theorem d_M_cosineOf_27 : decode b_M_cosineOf 27 = .ok (.ldc2_w 87, 3) := by decide +kernel
theorem d_M_cosineOf_30 : decode b_M_cosineOf 30 = .ok (.lload 4, 2) := by decide +kernel
theorem d_M_cosineOf_32 : decode b_M_cosineOf 32 = .ok (.lsub, 1) := by decide +kernel
theorem d_M_cosineOf_33 : decode b_M_cosineOf 33 = .ok (.lstore 4, 2) := by decide +kernel
theorem d_M_cosineOf_35 : decode b_M_cosineOf 35 = .ok (.lload 4, 2) := by decide +kernel
theorem d_M_cosineOf_37 : decode b_M_cosineOf 37 = .ok (.lload 4, 2) := by decide +kernel
theorem d_M_cosineOf_39 : decode b_M_cosineOf 39 = .ok (.lmul, 1) := by decide +kernel
theorem d_M_cosineOf_40 : decode b_M_cosineOf 40 = .ok (.ldc2_w 87, 3) := by decide +kernel
theorem d_M_cosineOf_43 : decode b_M_cosineOf 43 = .ok (.ldiv, 1) := by decide +kernel
theorem d_M_cosineOf_44 : decode b_M_cosineOf 44 = .ok (.lstore 6, 2) := by decide +kernel
theorem d_M_cosineOf_46 : decode b_M_cosineOf 46 = .ok (.ldc2_w 91, 3) := by decide +kernel
theorem d_M_cosineOf_49 : decode b_M_cosineOf 49 = .ok (.ldc2_w 93, 3) := by decide +kernel
theorem d_M_cosineOf_52 : decode b_M_cosineOf 52 = .ok (.lload 6, 2) := by decide +kernel
theorem d_M_cosineOf_54 : decode b_M_cosineOf 54 = .ok (.lmul, 1) := by decide +kernel
theorem d_M_cosineOf_55 : decode b_M_cosineOf 55 = .ok (.ldc2_w 87, 3) := by decide +kernel
theorem d_M_cosineOf_58 : decode b_M_cosineOf 58 = .ok (.ldiv, 1) := by decide +kernel
theorem d_M_cosineOf_59 : decode b_M_cosineOf 59 = .ok (.lsub, 1) := by decide +kernel
theorem d_M_cosineOf_60 : decode b_M_cosineOf 60 = .ok (.lstore 8, 2) := by decide +kernel
theorem d_M_cosineOf_62 : decode b_M_cosineOf 62 = .ok (.ldc2_w 95, 3) := by decide +kernel
theorem d_M_cosineOf_65 : decode b_M_cosineOf 65 = .ok (.lload 8, 2) := by decide +kernel
theorem d_M_cosineOf_67 : decode b_M_cosineOf 67 = .ok (.lload 6, 2) := by decide +kernel
theorem d_M_cosineOf_69 : decode b_M_cosineOf 69 = .ok (.lmul, 1) := by decide +kernel
theorem d_M_cosineOf_70 : decode b_M_cosineOf 70 = .ok (.ldc2_w 87, 3) := by decide +kernel
theorem d_M_cosineOf_73 : decode b_M_cosineOf 73 = .ok (.ldiv, 1) := by decide +kernel
theorem d_M_cosineOf_74 : decode b_M_cosineOf 74 = .ok (.lsub, 1) := by decide +kernel
theorem d_M_cosineOf_75 : decode b_M_cosineOf 75 = .ok (.lstore 10, 2) := by decide +kernel
theorem d_M_cosineOf_77 : decode b_M_cosineOf 77 = .ok (.ldc2_w 97, 3) := by decide +kernel
theorem d_M_cosineOf_80 : decode b_M_cosineOf 80 = .ok (.lload 10, 2) := by decide +kernel
theorem d_M_cosineOf_82 : decode b_M_cosineOf 82 = .ok (.lload 6, 2) := by decide +kernel
theorem d_M_cosineOf_84 : decode b_M_cosineOf 84 = .ok (.lmul, 1) := by decide +kernel
theorem d_M_cosineOf_85 : decode b_M_cosineOf 85 = .ok (.ldc2_w 87, 3) := by decide +kernel
theorem d_M_cosineOf_88 : decode b_M_cosineOf 88 = .ok (.ldiv, 1) := by decide +kernel
theorem d_M_cosineOf_89 : decode b_M_cosineOf 89 = .ok (.lsub, 1) := by decide +kernel
theorem d_M_cosineOf_90 : decode b_M_cosineOf 90 = .ok (.lstore 12, 2) := by decide +kernel
theorem d_M_cosineOf_92 : decode b_M_cosineOf 92 = .ok (.ldc2_w 87, 3) := by decide +kernel
theorem d_M_cosineOf_95 : decode b_M_cosineOf 95 = .ok (.lload 12, 2) := by decide +kernel
theorem d_M_cosineOf_97 : decode b_M_cosineOf 97 = .ok (.lload 6, 2) := by decide +kernel
theorem d_M_cosineOf_99 : decode b_M_cosineOf 99 = .ok (.lmul, 1) := by decide +kernel
theorem d_M_cosineOf_100 : decode b_M_cosineOf 100 = .ok (.ldc2_w 87, 3) := by decide +kernel
theorem d_M_cosineOf_103 : decode b_M_cosineOf 103 = .ok (.ldiv, 1) := by decide +kernel
theorem d_M_cosineOf_104 : decode b_M_cosineOf 104 = .ok (.lsub, 1) := by decide +kernel
theorem d_M_cosineOf_105 : decode b_M_cosineOf 105 = .ok (.lstore 14, 2) := by decide +kernel
theorem d_M_cosineOf_107 : decode b_M_cosineOf 107 = .ok (.lload_n 2, 1) := by decide +kernel
theorem d_M_cosineOf_108 : decode b_M_cosineOf 108 = .ok (.lconst 1, 1) := by decide +kernel
theorem d_M_cosineOf_109 : decode b_M_cosineOf 109 = .ok (.lcmp, 1) := by decide +kernel
theorem d_M_cosineOf_110 : decode b_M_cosineOf 110 = .ok (.ifCond .eq 11, 3) := by decide +kernel
theorem d_M_cosineOf_113 : decode b_M_cosineOf 113 = .ok (.lload_n 2, 1) := by decide +kernel
theorem d_M_cosineOf_114 : decode b_M_cosineOf 114 = .ok (.ldc2_w 89, 3) := by decide +kernel
theorem d_M_cosineOf_117 : decode b_M_cosineOf 117 = .ok (.lcmp, 1) := by decide +kernel
theorem d_M_cosineOf_118 : decode b_M_cosineOf 118 = .ok (.ifCond .ne 9, 3) := by decide +kernel
theorem d_M_cosineOf_121 : decode b_M_cosineOf 121 = .ok (.lload 14, 2) := by decide +kernel
theorem d_M_cosineOf_123 : decode b_M_cosineOf 123 = .ok (.lneg, 1) := by decide +kernel
theorem d_M_cosineOf_124 : decode b_M_cosineOf 124 = .ok (.goto 5, 3) := by decide +kernel
theorem d_M_cosineOf_127 : decode b_M_cosineOf 127 = .ok (.lload 14, 2) := by decide +kernel
theorem d_M_cosineOf_129 : decode b_M_cosineOf 129 = .ok (.lreturn, 1) := by decide +kernel
theorem d_M_cosine_0 : decode b_M_cosine 0 = .ok (.aload_n 0, 1) := by decide +kernel
theorem d_M_cosine_1 : decode b_M_cosine 1 = .ok (.lload_n 1, 1) := by decide +kernel
theorem d_M_cosine_2 : decode b_M_cosine 2 = .ok (.invokestatic 57, 3) := by decide +kernel
theorem d_M_cosine_5 : decode b_M_cosine 5 = .ok (.ifCond .eq 7, 3) := by decide +kernel
theorem d_M_cosine_8 : decode b_M_cosine 8 = .ok (.iconst 0, 1) := by decide +kernel
theorem d_M_cosine_9 : decode b_M_cosine 9 = .ok (.goto 4, 3) := by decide +kernel
theorem d_M_cosine_12 : decode b_M_cosine 12 = .ok (.iconst 1, 1) := by decide +kernel
theorem d_M_cosine_13 : decode b_M_cosine 13 = .ok (.putfield 43, 3) := by decide +kernel
theorem d_M_cosine_16 : decode b_M_cosine 16 = .ok (.aload_n 0, 1) := by decide +kernel
theorem d_M_cosine_17 : decode b_M_cosine 17 = .ok (.getfield 43, 3) := by decide +kernel
theorem d_M_cosine_20 : decode b_M_cosine 20 = .ok (.ifCond .ne 11, 3) := by decide +kernel
theorem d_M_cosine_23 : decode b_M_cosine 23 = .ok (.lload_n 1, 1) := by decide +kernel
theorem d_M_cosine_24 : decode b_M_cosine 24 = .ok (.invokestatic 99, 3) := by decide +kernel
theorem d_M_cosine_27 : decode b_M_cosine 27 = .ok (.l2i, 1) := by decide +kernel
theorem d_M_cosine_28 : decode b_M_cosine 28 = .ok (.goto 4, 3) := by decide +kernel
theorem d_M_cosine_31 : decode b_M_cosine 31 = .ok (.iconst 0, 1) := by decide +kernel
theorem d_M_cosine_32 : decode b_M_cosine 32 = .ok (.ireturn, 1) := by decide +kernel
theorem d_M_floor_0 : decode b_M_floor 0 = .ok (.lload_n 0, 1) := by decide +kernel
theorem d_M_floor_1 : decode b_M_floor 1 = .ok (.lload_n 2, 1) := by decide +kernel
theorem d_M_floor_2 : decode b_M_floor 2 = .ok (.ldiv, 1) := by decide +kernel
theorem d_M_floor_3 : decode b_M_floor 3 = .ok (.lstore 4, 2) := by decide +kernel
theorem d_M_floor_5 : decode b_M_floor 5 = .ok (.lload 4, 2) := by decide +kernel
theorem d_M_floor_7 : decode b_M_floor 7 = .ok (.lload_n 2, 1) := by decide +kernel
theorem d_M_floor_8 : decode b_M_floor 8 = .ok (.lmul, 1) := by decide +kernel
theorem d_M_floor_9 : decode b_M_floor 9 = .ok (.lload_n 0, 1) := by decide +kernel
theorem d_M_floor_10 : decode b_M_floor 10 = .ok (.lcmp, 1) := by decide +kernel
theorem d_M_floor_11 : decode b_M_floor 11 = .ok (.ifCond .le 10, 3) := by decide +kernel
theorem d_M_floor_14 : decode b_M_floor 14 = .ok (.lload 4, 2) := by decide +kernel
theorem d_M_floor_16 : decode b_M_floor 16 = .ok (.lconst 1, 1) := by decide +kernel
theorem d_M_floor_17 : decode b_M_floor 17 = .ok (.lsub, 1) := by decide +kernel
theorem d_M_floor_18 : decode b_M_floor 18 = .ok (.goto 5, 3) := by decide +kernel
theorem d_M_floor_21 : decode b_M_floor 21 = .ok (.lload 4, 2) := by decide +kernel
theorem d_M_floor_23 : decode b_M_floor 23 = .ok (.lreturn, 1) := by decide +kernel
theorem d_M_heightAt_0 : decode b_M_heightAt 0 = .ok (.aload_n 0, 1) := by decide +kernel
theorem d_M_heightAt_1 : decode b_M_heightAt 1 = .ok (.iload_n 1, 1) := by decide +kernel
theorem d_M_heightAt_2 : decode b_M_heightAt 2 = .ok (.sipush 1440, 3) := by decide +kernel
theorem d_M_heightAt_5 : decode b_M_heightAt 5 = .ok (.idiv, 1) := by decide +kernel
theorem d_M_heightAt_6 : decode b_M_heightAt 6 = .ok (.invokevirtual 76, 3) := by decide +kernel
theorem d_M_heightAt_9 : decode b_M_heightAt 9 = .ok (.istore_n 2, 1) := by decide +kernel
theorem d_M_heightAt_10 : decode b_M_heightAt 10 = .ok (.ldc2_w 103, 3) := by decide +kernel
theorem d_M_heightAt_13 : decode b_M_heightAt 13 = .ok (.lstore_n 3, 1) := by decide +kernel
theorem d_M_heightAt_14 : decode b_M_heightAt 14 = .ok (.iconst 0, 1) := by decide +kernel
theorem d_M_heightAt_15 : decode b_M_heightAt 15 = .ok (.istore 5, 2) := by decide +kernel
theorem d_M_heightAt_17 : decode b_M_heightAt 17 = .ok (.iload 5, 2) := by decide +kernel
theorem d_M_heightAt_19 : decode b_M_heightAt 19 = .ok (.bipush 8, 2) := by decide +kernel
theorem d_M_heightAt_21 : decode b_M_heightAt 21 = .ok (.if_icmp .ge 52, 3) := by decide +kernel
theorem d_M_heightAt_24 : decode b_M_heightAt 24 = .ok (.lload_n 3, 1) := by decide +kernel
theorem d_M_heightAt_25 : decode b_M_heightAt 25 = .ok (.aload_n 0, 1) := by decide +kernel
theorem d_M_heightAt_26 : decode b_M_heightAt 26 = .ok (.getfield 13, 3) := by decide +kernel
theorem d_M_heightAt_29 : decode b_M_heightAt 29 = .ok (.iload 5, 2) := by decide +kernel
theorem d_M_heightAt_31 : decode b_M_heightAt 31 = .ok (.iaload, 1) := by decide +kernel
theorem d_M_heightAt_32 : decode b_M_heightAt 32 = .ok (.i2l, 1) := by decide +kernel
theorem d_M_heightAt_33 : decode b_M_heightAt 33 = .ok (.aload_n 0, 1) := by decide +kernel
theorem d_M_heightAt_34 : decode b_M_heightAt 34 = .ok (.getfield 23, 3) := by decide +kernel
theorem d_M_heightAt_37 : decode b_M_heightAt 37 = .ok (.bipush 10, 2) := by decide +kernel
theorem d_M_heightAt_39 : decode b_M_heightAt 39 = .ok (.iload 5, 2) := by decide +kernel
theorem d_M_heightAt_41 : decode b_M_heightAt 41 = .ok (.imul, 1) := by decide +kernel
theorem d_M_heightAt_42 : decode b_M_heightAt 42 = .ok (.iload_n 2, 1) := by decide +kernel
theorem d_M_heightAt_43 : decode b_M_heightAt 43 = .ok (.iadd, 1) := by decide +kernel
theorem d_M_heightAt_44 : decode b_M_heightAt 44 = .ok (.iaload, 1) := by decide +kernel
theorem d_M_heightAt_45 : decode b_M_heightAt 45 = .ok (.i2l, 1) := by decide +kernel
theorem d_M_heightAt_46 : decode b_M_heightAt 46 = .ok (.lmul, 1) := by decide +kernel
theorem d_M_heightAt_47 : decode b_M_heightAt 47 = .ok (.aload_n 0, 1) := by decide +kernel
theorem d_M_heightAt_48 : decode b_M_heightAt 48 = .ok (.iload 5, 2) := by decide +kernel
theorem d_M_heightAt_50 : decode b_M_heightAt 50 = .ok (.iload_n 1, 1) := by decide +kernel
theorem d_M_heightAt_51 : decode b_M_heightAt 51 = .ok (.iload_n 2, 1) := by decide +kernel
theorem d_M_heightAt_52 : decode b_M_heightAt 52 = .ok (.invokevirtual 79, 3) := by decide +kernel
theorem d_M_heightAt_55 : decode b_M_heightAt 55 = .ok (.invokestatic 99, 3) := by decide +kernel
theorem d_M_heightAt_58 : decode b_M_heightAt 58 = .ok (.lmul, 1) := by decide +kernel
theorem d_M_heightAt_59 : decode b_M_heightAt 59 = .ok (.ldc2_w 85, 3) := by decide +kernel
theorem d_M_heightAt_62 : decode b_M_heightAt 62 = .ok (.invokestatic 105, 3) := by decide +kernel
theorem d_M_heightAt_65 : decode b_M_heightAt 65 = .ok (.ladd, 1) := by decide +kernel
theorem d_M_heightAt_66 : decode b_M_heightAt 66 = .ok (.lstore_n 3, 1) := by decide +kernel
theorem d_M_heightAt_67 : decode b_M_heightAt 67 = .ok (.iinc 5 1, 3) := by decide +kernel
theorem d_M_heightAt_70 : decode b_M_heightAt 70 = .ok (.goto (-53), 3) := by decide +kernel
theorem d_M_heightAt_73 : decode b_M_heightAt 73 = .ok (.lload_n 3, 1) := by decide +kernel
theorem d_M_heightAt_74 : decode b_M_heightAt 74 = .ok (.ldc2_w 87, 3) := by decide +kernel
theorem d_M_heightAt_77 : decode b_M_heightAt 77 = .ok (.invokestatic 105, 3) := by decide +kernel
theorem d_M_heightAt_80 : decode b_M_heightAt 80 = .ok (.l2i, 1) := by decide +kernel
theorem d_M_heightAt_81 : decode b_M_heightAt 81 = .ok (.aload_n 0, 1) := by decide +kernel
theorem d_M_heightAt_82 : decode b_M_heightAt 82 = .ok (.getfield 51, 3) := by decide +kernel
theorem d_M_heightAt_85 : decode b_M_heightAt 85 = .ok (.iadd, 1) := by decide +kernel
theorem d_M_heightAt_86 : decode b_M_heightAt 86 = .ok (.ireturn, 1) := by decide +kernel
theorem d_M_height_0 : decode b_M_height 0 = .ok (.aload_n 0, 1) := by decide +kernel
theorem d_M_height_1 : decode b_M_height 1 = .ok (.aload_n 0, 1) := by decide +kernel
theorem d_M_height_2 : decode b_M_height 2 = .ok (.iload_n 1, 1) := by decide +kernel
theorem d_M_height_3 : decode b_M_height 3 = .ok (.invokevirtual 73, 3) := by decide +kernel
theorem d_M_height_6 : decode b_M_height 6 = .ok (.ifCond .eq 7, 3) := by decide +kernel
theorem d_M_height_9 : decode b_M_height 9 = .ok (.iconst 0, 1) := by decide +kernel
theorem d_M_height_10 : decode b_M_height 10 = .ok (.goto 4, 3) := by decide +kernel
theorem d_M_height_13 : decode b_M_height 13 = .ok (.iconst 1, 1) := by decide +kernel
theorem d_M_height_14 : decode b_M_height 14 = .ok (.putfield 43, 3) := by decide +kernel
theorem d_M_height_17 : decode b_M_height 17 = .ok (.aload_n 0, 1) := by decide +kernel
theorem d_M_height_18 : decode b_M_height 18 = .ok (.getfield 43, 3) := by decide +kernel
theorem d_M_height_21 : decode b_M_height 21 = .ok (.ifCond .ne 11, 3) := by decide +kernel
theorem d_M_height_24 : decode b_M_height 24 = .ok (.aload_n 0, 1) := by decide +kernel
theorem d_M_height_25 : decode b_M_height 25 = .ok (.iload_n 1, 1) := by decide +kernel
theorem d_M_height_26 : decode b_M_height 26 = .ok (.invokevirtual 109, 3) := by decide +kernel
theorem d_M_height_29 : decode b_M_height 29 = .ok (.goto 4, 3) := by decide +kernel
theorem d_M_height_32 : decode b_M_height 32 = .ok (.iconst 0, 1) := by decide +kernel
theorem d_M_height_33 : decode b_M_height 33 = .ok (.ireturn, 1) := by decide +kernel
theorem d_M_mean_0 : decode b_M_mean 0 = .ok (.aload_n 0, 1) := by decide +kernel
theorem d_M_mean_1 : decode b_M_mean 1 = .ok (.iload_n 2, 1) := by decide +kernel
theorem d_M_mean_2 : decode b_M_mean 2 = .ok (.iconst 1, 1) := by decide +kernel
theorem d_M_mean_3 : decode b_M_mean 3 = .ok (.if_icmp .lt 10, 3) := by decide +kernel
theorem d_M_mean_6 : decode b_M_mean 6 = .ok (.iload_n 2, 1) := by decide +kernel
theorem d_M_mean_7 : decode b_M_mean 7 = .ok (.sipush 2000, 3) := by decide +kernel
theorem d_M_mean_10 : decode b_M_mean 10 = .ok (.if_icmp .le 7, 3) := by decide +kernel
theorem d_M_mean_13 : decode b_M_mean 13 = .ok (.iconst 1, 1) := by decide +kernel
theorem d_M_mean_14 : decode b_M_mean 14 = .ok (.goto 28, 3) := by decide +kernel
theorem d_M_mean_17 : decode b_M_mean 17 = .ok (.aload_n 0, 1) := by decide +kernel
theorem d_M_mean_18 : decode b_M_mean 18 = .ok (.iload_n 1, 1) := by decide +kernel
theorem d_M_mean_19 : decode b_M_mean 19 = .ok (.invokevirtual 73, 3) := by decide +kernel
theorem d_M_mean_22 : decode b_M_mean 22 = .ok (.ifCond .eq 15, 3) := by decide +kernel
theorem d_M_mean_25 : decode b_M_mean 25 = .ok (.aload_n 0, 1) := by decide +kernel
theorem d_M_mean_26 : decode b_M_mean 26 = .ok (.iload_n 1, 1) := by decide +kernel
theorem d_M_mean_27 : decode b_M_mean 27 = .ok (.iload_n 2, 1) := by decide +kernel
theorem d_M_mean_28 : decode b_M_mean 28 = .ok (.iadd, 1) := by decide +kernel
theorem d_M_mean_29 : decode b_M_mean 29 = .ok (.iconst 1, 1) := by decide +kernel
theorem d_M_mean_30 : decode b_M_mean 30 = .ok (.isub, 1) := by decide +kernel
theorem d_M_mean_31 : decode b_M_mean 31 = .ok (.invokevirtual 73, 3) := by decide +kernel
theorem d_M_mean_34 : decode b_M_mean 34 = .ok (.ifCond .ne 7, 3) := by decide +kernel
theorem d_M_mean_37 : decode b_M_mean 37 = .ok (.iconst 2, 1) := by decide +kernel
theorem d_M_mean_38 : decode b_M_mean 38 = .ok (.goto 4, 3) := by decide +kernel
theorem d_M_mean_41 : decode b_M_mean 41 = .ok (.iconst 0, 1) := by decide +kernel
theorem d_M_mean_42 : decode b_M_mean 42 = .ok (.putfield 43, 3) := by decide +kernel
theorem d_M_mean_45 : decode b_M_mean 45 = .ok (.aload_n 0, 1) := by decide +kernel
theorem d_M_mean_46 : decode b_M_mean 46 = .ok (.getfield 43, 3) := by decide +kernel
theorem d_M_mean_49 : decode b_M_mean 49 = .ok (.ifCond .eq 5, 3) := by decide +kernel
theorem d_M_mean_52 : decode b_M_mean 52 = .ok (.iconst 0, 1) := by decide +kernel
theorem d_M_mean_53 : decode b_M_mean 53 = .ok (.ireturn, 1) := by decide +kernel
theorem d_M_mean_54 : decode b_M_mean 54 = .ok (.lconst 0, 1) := by decide +kernel
theorem d_M_mean_55 : decode b_M_mean 55 = .ok (.lstore_n 3, 1) := by decide +kernel
theorem d_M_mean_56 : decode b_M_mean 56 = .ok (.iconst 0, 1) := by decide +kernel
theorem d_M_mean_57 : decode b_M_mean 57 = .ok (.istore 5, 2) := by decide +kernel
theorem d_M_mean_59 : decode b_M_mean 59 = .ok (.iload 5, 2) := by decide +kernel
theorem d_M_mean_61 : decode b_M_mean 61 = .ok (.iload_n 2, 1) := by decide +kernel
theorem d_M_mean_62 : decode b_M_mean 62 = .ok (.if_icmp .ge 21, 3) := by decide +kernel
theorem d_M_mean_65 : decode b_M_mean 65 = .ok (.lload_n 3, 1) := by decide +kernel
theorem d_M_mean_66 : decode b_M_mean 66 = .ok (.aload_n 0, 1) := by decide +kernel
theorem d_M_mean_67 : decode b_M_mean 67 = .ok (.iload_n 1, 1) := by decide +kernel
theorem d_M_mean_68 : decode b_M_mean 68 = .ok (.iload 5, 2) := by decide +kernel
theorem d_M_mean_70 : decode b_M_mean 70 = .ok (.iadd, 1) := by decide +kernel
theorem d_M_mean_71 : decode b_M_mean 71 = .ok (.invokevirtual 109, 3) := by decide +kernel
theorem d_M_mean_74 : decode b_M_mean 74 = .ok (.i2l, 1) := by decide +kernel
theorem d_M_mean_75 : decode b_M_mean 75 = .ok (.ladd, 1) := by decide +kernel
theorem d_M_mean_76 : decode b_M_mean 76 = .ok (.lstore_n 3, 1) := by decide +kernel
theorem d_M_mean_77 : decode b_M_mean 77 = .ok (.iinc 5 1, 3) := by decide +kernel
theorem d_M_mean_80 : decode b_M_mean 80 = .ok (.goto (-21), 3) := by decide +kernel
theorem d_M_mean_83 : decode b_M_mean 83 = .ok (.lload_n 3, 1) := by decide +kernel
theorem d_M_mean_84 : decode b_M_mean 84 = .ok (.iload_n 2, 1) := by decide +kernel
theorem d_M_mean_85 : decode b_M_mean 85 = .ok (.i2l, 1) := by decide +kernel
theorem d_M_mean_86 : decode b_M_mean 86 = .ok (.invokestatic 105, 3) := by decide +kernel
theorem d_M_mean_89 : decode b_M_mean 89 = .ok (.l2i, 1) := by decide +kernel
theorem d_M_mean_90 : decode b_M_mean 90 = .ok (.ireturn, 1) := by decide +kernel
theorem d_M_look_0 : decode b_M_look 0 = .ok (.iconst 0, 1) := by decide +kernel
theorem d_M_look_1 : decode b_M_look 1 = .ok (.istore_n 2, 1) := by decide +kernel
theorem d_M_look_2 : decode b_M_look 2 = .ok (.iload_n 2, 1) := by decide +kernel
theorem d_M_look_3 : decode b_M_look 3 = .ok (.sipush 1440, 3) := by decide +kernel
theorem d_M_look_6 : decode b_M_look 6 = .ok (.if_icmp .ge 26, 3) := by decide +kernel
theorem d_M_look_9 : decode b_M_look 9 = .ok (.aload_n 0, 1) := by decide +kernel
theorem d_M_look_10 : decode b_M_look 10 = .ok (.getfield 29, 3) := by decide +kernel
theorem d_M_look_13 : decode b_M_look 13 = .ok (.iload_n 2, 1) := by decide +kernel
theorem d_M_look_14 : decode b_M_look 14 = .ok (.aload_n 0, 1) := by decide +kernel
theorem d_M_look_15 : decode b_M_look 15 = .ok (.sipush 1440, 3) := by decide +kernel
theorem d_M_look_18 : decode b_M_look 18 = .ok (.iload_n 1, 1) := by decide +kernel
theorem d_M_look_19 : decode b_M_look 19 = .ok (.imul, 1) := by decide +kernel
theorem d_M_look_20 : decode b_M_look 20 = .ok (.iload_n 2, 1) := by decide +kernel
theorem d_M_look_21 : decode b_M_look 21 = .ok (.iadd, 1) := by decide +kernel
theorem d_M_look_22 : decode b_M_look 22 = .ok (.invokevirtual 109, 3) := by decide +kernel
theorem d_M_look_25 : decode b_M_look 25 = .ok (.iastore, 1) := by decide +kernel
theorem d_M_look_26 : decode b_M_look 26 = .ok (.iinc 2 1, 3) := by decide +kernel
theorem d_M_look_29 : decode b_M_look 29 = .ok (.goto (-27), 3) := by decide +kernel
theorem d_M_look_32 : decode b_M_look 32 = .ok (.aload_n 0, 1) := by decide +kernel
theorem d_M_look_33 : decode b_M_look 33 = .ok (.iconst 0, 1) := by decide +kernel
theorem d_M_look_34 : decode b_M_look 34 = .ok (.putfield 112, 3) := by decide +kernel
theorem d_M_look_37 : decode b_M_look 37 = .ok (.iconst 1, 1) := by decide +kernel
theorem d_M_look_38 : decode b_M_look 38 = .ok (.istore_n 2, 1) := by decide +kernel
theorem d_M_look_39 : decode b_M_look 39 = .ok (.iload_n 2, 1) := by decide +kernel
theorem d_M_look_40 : decode b_M_look 40 = .ok (.sipush 1440, 3) := by decide +kernel
theorem d_M_look_43 : decode b_M_look 43 = .ok (.if_icmp .ge 188, 3) := by decide +kernel
theorem d_M_look_46 : decode b_M_look 46 = .ok (.iload_n 2, 1) := by decide +kernel
theorem d_M_look_47 : decode b_M_look 47 = .ok (.iconst 1, 1) := by decide +kernel
theorem d_M_look_48 : decode b_M_look 48 = .ok (.iadd, 1) := by decide +kernel
theorem d_M_look_49 : decode b_M_look 49 = .ok (.istore_n 3, 1) := by decide +kernel
theorem d_M_look_50 : decode b_M_look 50 = .ok (.iload_n 3, 1) := by decide +kernel
theorem d_M_look_51 : decode b_M_look 51 = .ok (.sipush 1440, 3) := by decide +kernel
theorem d_M_look_54 : decode b_M_look 54 = .ok (.if_icmp .ge 41, 3) := by decide +kernel
theorem d_M_look_57 : decode b_M_look 57 = .ok (.aload_n 0, 1) := by decide +kernel
theorem d_M_look_58 : decode b_M_look 58 = .ok (.getfield 29, 3) := by decide +kernel
theorem d_M_look_61 : decode b_M_look 61 = .ok (.iload_n 2, 1) := by decide +kernel
theorem d_M_look_62 : decode b_M_look 62 = .ok (.iconst 1, 1) := by decide +kernel
theorem d_M_look_63 : decode b_M_look 63 = .ok (.isub, 1) := by decide +kernel
theorem d_M_look_64 : decode b_M_look 64 = .ok (.iaload, 1) := by decide +kernel
theorem d_M_look_65 : decode b_M_look 65 = .ok (.aload_n 0, 1) := by decide +kernel
theorem d_M_look_66 : decode b_M_look 66 = .ok (.getfield 29, 3) := by decide +kernel
theorem d_M_look_69 : decode b_M_look 69 = .ok (.iload_n 2, 1) := by decide +kernel
theorem d_M_look_70 : decode b_M_look 70 = .ok (.iaload, 1) := by decide +kernel
theorem d_M_look_71 : decode b_M_look 71 = .ok (.if_icmp .eq 24, 3) := by decide +kernel
theorem d_M_look_74 : decode b_M_look 74 = .ok (.aload_n 0, 1) := by decide +kernel
theorem d_M_look_75 : decode b_M_look 75 = .ok (.getfield 29, 3) := by decide +kernel
theorem d_M_look_78 : decode b_M_look 78 = .ok (.iload_n 3, 1) := by decide +kernel
theorem d_M_look_79 : decode b_M_look 79 = .ok (.iaload, 1) := by decide +kernel
theorem d_M_look_80 : decode b_M_look 80 = .ok (.aload_n 0, 1) := by decide +kernel
theorem d_M_look_81 : decode b_M_look 81 = .ok (.getfield 29, 3) := by decide +kernel
theorem d_M_look_84 : decode b_M_look 84 = .ok (.iload_n 2, 1) := by decide +kernel
theorem d_M_look_85 : decode b_M_look 85 = .ok (.iaload, 1) := by decide +kernel
theorem d_M_look_86 : decode b_M_look 86 = .ok (.if_icmp .ne 9, 3) := by decide +kernel
theorem d_M_look_89 : decode b_M_look 89 = .ok (.iinc 3 1, 3) := by decide +kernel
theorem d_M_look_92 : decode b_M_look 92 = .ok (.goto (-42), 3) := by decide +kernel
theorem d_M_look_95 : decode b_M_look 95 = .ok (.aload_n 0, 1) := by decide +kernel
theorem d_M_look_96 : decode b_M_look 96 = .ok (.getfield 29, 3) := by decide +kernel
theorem d_M_look_99 : decode b_M_look 99 = .ok (.iload_n 2, 1) := by decide +kernel
theorem d_M_look_100 : decode b_M_look 100 = .ok (.iconst 1, 1) := by decide +kernel
theorem d_M_look_101 : decode b_M_look 101 = .ok (.isub, 1) := by decide +kernel
theorem d_M_look_102 : decode b_M_look 102 = .ok (.iaload, 1) := by decide +kernel
theorem d_M_look_103 : decode b_M_look 103 = .ok (.aload_n 0, 1) := by decide +kernel
theorem d_M_look_104 : decode b_M_look 104 = .ok (.getfield 29, 3) := by decide +kernel
theorem d_M_look_107 : decode b_M_look 107 = .ok (.iload_n 2, 1) := by decide +kernel
theorem d_M_look_108 : decode b_M_look 108 = .ok (.iaload, 1) := by decide +kernel
theorem d_M_look_109 : decode b_M_look 109 = .ok (.if_icmp .eq 14, 3) := by decide +kernel
theorem d_M_look_112 : decode b_M_look 112 = .ok (.iload_n 3, 1) := by decide +kernel
theorem d_M_look_113 : decode b_M_look 113 = .ok (.sipush 1440, 3) := by decide +kernel
theorem d_M_look_116 : decode b_M_look 116 = .ok (.if_icmp .ge 7, 3) := by decide +kernel
theorem d_M_look_119 : decode b_M_look 119 = .ok (.iconst 1, 1) := by decide +kernel
theorem d_M_look_120 : decode b_M_look 120 = .ok (.goto 4, 3) := by decide +kernel
theorem d_M_look_123 : decode b_M_look 123 = .ok (.iconst 0, 1) := by decide +kernel
theorem d_M_look_124 : decode b_M_look 124 = .ok (.istore 4, 2) := by decide +kernel
theorem d_M_look_126 : decode b_M_look 126 = .ok (.iload 4, 2) := by decide +kernel
theorem d_M_look_128 : decode b_M_look 128 = .ok (.ifCond .eq 97, 3) := by decide +kernel
theorem d_M_look_131 : decode b_M_look 131 = .ok (.aload_n 0, 1) := by decide +kernel
theorem d_M_look_132 : decode b_M_look 132 = .ok (.getfield 29, 3) := by decide +kernel
theorem d_M_look_135 : decode b_M_look 135 = .ok (.iload_n 2, 1) := by decide +kernel
theorem d_M_look_136 : decode b_M_look 136 = .ok (.iconst 1, 1) := by decide +kernel
theorem d_M_look_137 : decode b_M_look 137 = .ok (.isub, 1) := by decide +kernel
theorem d_M_look_138 : decode b_M_look 138 = .ok (.iaload, 1) := by decide +kernel
theorem d_M_look_139 : decode b_M_look 139 = .ok (.aload_n 0, 1) := by decide +kernel
theorem d_M_look_140 : decode b_M_look 140 = .ok (.getfield 29, 3) := by decide +kernel
theorem d_M_look_143 : decode b_M_look 143 = .ok (.iload_n 2, 1) := by decide +kernel
theorem d_M_look_144 : decode b_M_look 144 = .ok (.iaload, 1) := by decide +kernel
theorem d_M_look_145 : decode b_M_look 145 = .ok (.if_icmp .ge 7, 3) := by decide +kernel
theorem d_M_look_148 : decode b_M_look 148 = .ok (.iconst 1, 1) := by decide +kernel
theorem d_M_look_149 : decode b_M_look 149 = .ok (.goto 4, 3) := by decide +kernel
theorem d_M_look_152 : decode b_M_look 152 = .ok (.iconst 0, 1) := by decide +kernel
theorem d_M_look_153 : decode b_M_look 153 = .ok (.aload_n 0, 1) := by decide +kernel
theorem d_M_look_154 : decode b_M_look 154 = .ok (.getfield 29, 3) := by decide +kernel
theorem d_M_look_157 : decode b_M_look 157 = .ok (.iload_n 3, 1) := by decide +kernel
theorem d_M_look_158 : decode b_M_look 158 = .ok (.iaload, 1) := by decide +kernel
theorem d_M_look_159 : decode b_M_look 159 = .ok (.aload_n 0, 1) := by decide +kernel
theorem d_M_look_160 : decode b_M_look 160 = .ok (.getfield 29, 3) := by decide +kernel
theorem d_M_look_163 : decode b_M_look 163 = .ok (.iload_n 2, 1) := by decide +kernel
theorem d_M_look_164 : decode b_M_look 164 = .ok (.iaload, 1) := by decide +kernel
theorem d_M_look_165 : decode b_M_look 165 = .ok (.if_icmp .ge 7, 3) := by decide +kernel
theorem d_M_look_168 : decode b_M_look 168 = .ok (.iconst 1, 1) := by decide +kernel
theorem d_M_look_169 : decode b_M_look 169 = .ok (.goto 4, 3) := by decide +kernel
theorem d_M_look_172 : decode b_M_look 172 = .ok (.iconst 0, 1) := by decide +kernel
theorem d_M_look_173 : decode b_M_look 173 = .ok (.if_icmp .ne 52, 3) := by decide +kernel
theorem d_M_look_176 : decode b_M_look 176 = .ok (.aload_n 0, 1) := by decide +kernel
theorem d_M_look_177 : decode b_M_look 177 = .ok (.getfield 32, 3) := by decide +kernel
theorem d_M_look_180 : decode b_M_look 180 = .ok (.aload_n 0, 1) := by decide +kernel
theorem d_M_look_181 : decode b_M_look 181 = .ok (.getfield 112, 3) := by decide +kernel
theorem d_M_look_184 : decode b_M_look 184 = .ok (.iload_n 2, 1) := by decide +kernel
theorem d_M_look_185 : decode b_M_look 185 = .ok (.iastore, 1) := by decide +kernel
theorem d_M_look_186 : decode b_M_look 186 = .ok (.aload_n 0, 1) := by decide +kernel
theorem d_M_look_187 : decode b_M_look 187 = .ok (.getfield 35, 3) := by decide +kernel
theorem d_M_look_190 : decode b_M_look 190 = .ok (.aload_n 0, 1) := by decide +kernel
theorem d_M_look_191 : decode b_M_look 191 = .ok (.getfield 112, 3) := by decide +kernel
theorem d_M_look_194 : decode b_M_look 194 = .ok (.aload_n 0, 1) := by decide +kernel
theorem d_M_look_195 : decode b_M_look 195 = .ok (.getfield 29, 3) := by decide +kernel
theorem d_M_look_198 : decode b_M_look 198 = .ok (.iload_n 3, 1) := by decide +kernel
theorem d_M_look_199 : decode b_M_look 199 = .ok (.iaload, 1) := by decide +kernel
theorem d_M_look_200 : decode b_M_look 200 = .ok (.aload_n 0, 1) := by decide +kernel
theorem d_M_look_201 : decode b_M_look 201 = .ok (.getfield 29, 3) := by decide +kernel
theorem d_M_look_204 : decode b_M_look 204 = .ok (.iload_n 2, 1) := by decide +kernel
theorem d_M_look_205 : decode b_M_look 205 = .ok (.iaload, 1) := by decide +kernel
theorem d_M_look_206 : decode b_M_look 206 = .ok (.if_icmp .ge 7, 3) := by decide +kernel
theorem d_M_look_209 : decode b_M_look 209 = .ok (.iconst 1, 1) := by decide +kernel
theorem d_M_look_210 : decode b_M_look 210 = .ok (.goto 4, 3) := by decide +kernel
theorem d_M_look_213 : decode b_M_look 213 = .ok (.iconst 0, 1) := by decide +kernel
theorem d_M_look_214 : decode b_M_look 214 = .ok (.bastore, 1) := by decide +kernel
theorem d_M_look_215 : decode b_M_look 215 = .ok (.aload_n 0, 1) := by decide +kernel
theorem d_M_look_216 : decode b_M_look 216 = .ok (.dup, 1) := by decide +kernel
theorem d_M_look_217 : decode b_M_look 217 = .ok (.getfield 112, 3) := by decide +kernel
theorem d_M_look_220 : decode b_M_look 220 = .ok (.iconst 1, 1) := by decide +kernel
theorem d_M_look_221 : decode b_M_look 221 = .ok (.iadd, 1) := by decide +kernel
theorem d_M_look_222 : decode b_M_look 222 = .ok (.putfield 112, 3) := by decide +kernel
theorem d_M_look_225 : decode b_M_look 225 = .ok (.iinc 2 1, 3) := by decide +kernel
theorem d_M_look_228 : decode b_M_look 228 = .ok (.goto (-189), 3) := by decide +kernel
theorem d_M_look_231 : decode b_M_look 231 = .ok (.return_, 1) := by decide +kernel
theorem d_M_extremes_0 : decode b_M_extremes 0 = .ok (.aload_n 0, 1) := by decide +kernel
theorem d_M_extremes_1 : decode b_M_extremes 1 = .ok (.aload_n 0, 1) := by decide +kernel
theorem d_M_extremes_2 : decode b_M_extremes 2 = .ok (.iload_n 1, 1) := by decide +kernel
theorem d_M_extremes_3 : decode b_M_extremes 3 = .ok (.invokevirtual 115, 3) := by decide +kernel
theorem d_M_extremes_6 : decode b_M_extremes 6 = .ok (.ifCond .eq 7, 3) := by decide +kernel
theorem d_M_extremes_9 : decode b_M_extremes 9 = .ok (.iconst 0, 1) := by decide +kernel
theorem d_M_extremes_10 : decode b_M_extremes 10 = .ok (.goto 4, 3) := by decide +kernel
theorem d_M_extremes_13 : decode b_M_extremes 13 = .ok (.iconst 1, 1) := by decide +kernel
theorem d_M_extremes_14 : decode b_M_extremes 14 = .ok (.putfield 43, 3) := by decide +kernel
theorem d_M_extremes_17 : decode b_M_extremes 17 = .ok (.aload_n 0, 1) := by decide +kernel
theorem d_M_extremes_18 : decode b_M_extremes 18 = .ok (.getfield 43, 3) := by decide +kernel
theorem d_M_extremes_21 : decode b_M_extremes 21 = .ok (.ifCond .eq 5, 3) := by decide +kernel
theorem d_M_extremes_24 : decode b_M_extremes 24 = .ok (.iconst 0, 1) := by decide +kernel
theorem d_M_extremes_25 : decode b_M_extremes 25 = .ok (.ireturn, 1) := by decide +kernel
theorem d_M_extremes_26 : decode b_M_extremes 26 = .ok (.aload_n 0, 1) := by decide +kernel
theorem d_M_extremes_27 : decode b_M_extremes 27 = .ok (.iload_n 1, 1) := by decide +kernel
theorem d_M_extremes_28 : decode b_M_extremes 28 = .ok (.invokevirtual 118, 3) := by decide +kernel
theorem d_M_extremes_31 : decode b_M_extremes 31 = .ok (.aload_n 0, 1) := by decide +kernel
theorem d_M_extremes_32 : decode b_M_extremes 32 = .ok (.getfield 112, 3) := by decide +kernel
theorem d_M_extremes_35 : decode b_M_extremes 35 = .ok (.ireturn, 1) := by decide +kernel
theorem d_M_isExtreme_0 : decode b_M_isExtreme 0 = .ok (.aload_n 0, 1) := by decide +kernel
theorem d_M_isExtreme_1 : decode b_M_isExtreme 1 = .ok (.iload_n 1, 1) := by decide +kernel
theorem d_M_isExtreme_2 : decode b_M_isExtreme 2 = .ok (.invokevirtual 115, 3) := by decide +kernel
theorem d_M_isExtreme_5 : decode b_M_isExtreme 5 = .ok (.ifCond .ne 5, 3) := by decide +kernel
theorem d_M_isExtreme_8 : decode b_M_isExtreme 8 = .ok (.iconst 0, 1) := by decide +kernel
theorem d_M_isExtreme_9 : decode b_M_isExtreme 9 = .ok (.ireturn, 1) := by decide +kernel
theorem d_M_isExtreme_10 : decode b_M_isExtreme 10 = .ok (.aload_n 0, 1) := by decide +kernel
theorem d_M_isExtreme_11 : decode b_M_isExtreme 11 = .ok (.iload_n 1, 1) := by decide +kernel
theorem d_M_isExtreme_12 : decode b_M_isExtreme 12 = .ok (.invokevirtual 118, 3) := by decide +kernel
theorem d_M_isExtreme_15 : decode b_M_isExtreme 15 = .ok (.iload_n 2, 1) := by decide +kernel
theorem d_M_isExtreme_16 : decode b_M_isExtreme 16 = .ok (.ifCond .lt 15, 3) := by decide +kernel
theorem d_M_isExtreme_19 : decode b_M_isExtreme 19 = .ok (.iload_n 2, 1) := by decide +kernel
theorem d_M_isExtreme_20 : decode b_M_isExtreme 20 = .ok (.aload_n 0, 1) := by decide +kernel
theorem d_M_isExtreme_21 : decode b_M_isExtreme 21 = .ok (.getfield 112, 3) := by decide +kernel
theorem d_M_isExtreme_24 : decode b_M_isExtreme 24 = .ok (.if_icmp .ge 7, 3) := by decide +kernel
theorem d_M_isExtreme_27 : decode b_M_isExtreme 27 = .ok (.iconst 1, 1) := by decide +kernel
theorem d_M_isExtreme_28 : decode b_M_isExtreme 28 = .ok (.goto 4, 3) := by decide +kernel
theorem d_M_isExtreme_31 : decode b_M_isExtreme 31 = .ok (.iconst 0, 1) := by decide +kernel
theorem d_M_isExtreme_32 : decode b_M_isExtreme 32 = .ok (.ireturn, 1) := by decide +kernel
theorem d_M_extreme_0 : decode b_M_extreme 0 = .ok (.aload_n 0, 1) := by decide +kernel
theorem d_M_extreme_1 : decode b_M_extreme 1 = .ok (.aload_n 0, 1) := by decide +kernel
theorem d_M_extreme_2 : decode b_M_extreme 2 = .ok (.iload_n 1, 1) := by decide +kernel
theorem d_M_extreme_3 : decode b_M_extreme 3 = .ok (.iload_n 2, 1) := by decide +kernel
theorem d_M_extreme_4 : decode b_M_extreme 4 = .ok (.invokevirtual 122, 3) := by decide +kernel
theorem d_M_extreme_7 : decode b_M_extreme 7 = .ok (.ifCond .ne 7, 3) := by decide +kernel
theorem d_M_extreme_10 : decode b_M_extreme 10 = .ok (.iconst 1, 1) := by decide +kernel
theorem d_M_extreme_11 : decode b_M_extreme 11 = .ok (.goto 17, 3) := by decide +kernel
theorem d_M_extreme_14 : decode b_M_extreme 14 = .ok (.iload_n 3, 1) := by decide +kernel
theorem d_M_extreme_15 : decode b_M_extreme 15 = .ok (.ifCond .lt 8, 3) := by decide +kernel
theorem d_M_extreme_18 : decode b_M_extreme 18 = .ok (.iload_n 3, 1) := by decide +kernel
theorem d_M_extreme_19 : decode b_M_extreme 19 = .ok (.iconst 2, 1) := by decide +kernel
theorem d_M_extreme_20 : decode b_M_extreme 20 = .ok (.if_icmp .le 7, 3) := by decide +kernel
theorem d_M_extreme_23 : decode b_M_extreme 23 = .ok (.iconst 2, 1) := by decide +kernel
theorem d_M_extreme_24 : decode b_M_extreme 24 = .ok (.goto 4, 3) := by decide +kernel
theorem d_M_extreme_27 : decode b_M_extreme 27 = .ok (.iconst 0, 1) := by decide +kernel
theorem d_M_extreme_28 : decode b_M_extreme 28 = .ok (.putfield 43, 3) := by decide +kernel
theorem d_M_extreme_31 : decode b_M_extreme 31 = .ok (.aload_n 0, 1) := by decide +kernel
theorem d_M_extreme_32 : decode b_M_extreme 32 = .ok (.getfield 43, 3) := by decide +kernel
theorem d_M_extreme_35 : decode b_M_extreme 35 = .ok (.ifCond .eq 5, 3) := by decide +kernel
theorem d_M_extreme_38 : decode b_M_extreme 38 = .ok (.iconst 0, 1) := by decide +kernel
theorem d_M_extreme_39 : decode b_M_extreme 39 = .ok (.ireturn, 1) := by decide +kernel
theorem d_M_extreme_40 : decode b_M_extreme 40 = .ok (.iload_n 3, 1) := by decide +kernel
theorem d_M_extreme_41 : decode b_M_extreme 41 = .ok (.ifCond .ne 18, 3) := by decide +kernel
theorem d_M_extreme_44 : decode b_M_extreme 44 = .ok (.sipush 1440, 3) := by decide +kernel
theorem d_M_extreme_47 : decode b_M_extreme 47 = .ok (.iload_n 1, 1) := by decide +kernel
theorem d_M_extreme_48 : decode b_M_extreme 48 = .ok (.imul, 1) := by decide +kernel
theorem d_M_extreme_49 : decode b_M_extreme 49 = .ok (.aload_n 0, 1) := by decide +kernel
theorem d_M_extreme_50 : decode b_M_extreme 50 = .ok (.getfield 32, 3) := by decide +kernel
theorem d_M_extreme_53 : decode b_M_extreme 53 = .ok (.iload_n 2, 1) := by decide +kernel
theorem d_M_extreme_54 : decode b_M_extreme 54 = .ok (.iaload, 1) := by decide +kernel
theorem d_M_extreme_55 : decode b_M_extreme 55 = .ok (.iadd, 1) := by decide +kernel
theorem d_M_extreme_56 : decode b_M_extreme 56 = .ok (.goto 36, 3) := by decide +kernel
theorem d_M_extreme_59 : decode b_M_extreme 59 = .ok (.iload_n 3, 1) := by decide +kernel
theorem d_M_extreme_60 : decode b_M_extreme 60 = .ok (.iconst 1, 1) := by decide +kernel
theorem d_M_extreme_61 : decode b_M_extreme 61 = .ok (.if_icmp .ne 17, 3) := by decide +kernel
theorem d_M_extreme_64 : decode b_M_extreme 64 = .ok (.aload_n 0, 1) := by decide +kernel
theorem d_M_extreme_65 : decode b_M_extreme 65 = .ok (.getfield 29, 3) := by decide +kernel
theorem d_M_extreme_68 : decode b_M_extreme 68 = .ok (.aload_n 0, 1) := by decide +kernel
theorem d_M_extreme_69 : decode b_M_extreme 69 = .ok (.getfield 32, 3) := by decide +kernel
theorem d_M_extreme_72 : decode b_M_extreme 72 = .ok (.iload_n 2, 1) := by decide +kernel
theorem d_M_extreme_73 : decode b_M_extreme 73 = .ok (.iaload, 1) := by decide +kernel
theorem d_M_extreme_74 : decode b_M_extreme 74 = .ok (.iaload, 1) := by decide +kernel
theorem d_M_extreme_75 : decode b_M_extreme 75 = .ok (.goto 17, 3) := by decide +kernel
theorem d_M_extreme_78 : decode b_M_extreme 78 = .ok (.aload_n 0, 1) := by decide +kernel
theorem d_M_extreme_79 : decode b_M_extreme 79 = .ok (.getfield 35, 3) := by decide +kernel
theorem d_M_extreme_82 : decode b_M_extreme 82 = .ok (.iload_n 2, 1) := by decide +kernel
theorem d_M_extreme_83 : decode b_M_extreme 83 = .ok (.baload, 1) := by decide +kernel
theorem d_M_extreme_84 : decode b_M_extreme 84 = .ok (.ifCond .eq 7, 3) := by decide +kernel
theorem d_M_extreme_87 : decode b_M_extreme 87 = .ok (.iconst 1, 1) := by decide +kernel
theorem d_M_extreme_88 : decode b_M_extreme 88 = .ok (.goto 4, 3) := by decide +kernel
theorem d_M_extreme_91 : decode b_M_extreme 91 = .ok (.iconst 0, 1) := by decide +kernel
theorem d_M_extreme_92 : decode b_M_extreme 92 = .ok (.ireturn, 1) := by decide +kernel
theorem d_M_put_0 : decode b_M_put 0 = .ok (.aload_n 0, 1) := by decide +kernel
theorem d_M_put_1 : decode b_M_put 1 = .ok (.getfield 39, 3) := by decide +kernel
theorem d_M_put_4 : decode b_M_put 4 = .ok (.aload_n 0, 1) := by decide +kernel
theorem d_M_put_5 : decode b_M_put 5 = .ok (.getfield 126, 3) := by decide +kernel
theorem d_M_put_8 : decode b_M_put 8 = .ok (.iload_n 1, 1) := by decide +kernel
theorem d_M_put_9 : decode b_M_put 9 = .ok (.iastore, 1) := by decide +kernel
theorem d_M_put_10 : decode b_M_put 10 = .ok (.aload_n 0, 1) := by decide +kernel
theorem d_M_put_11 : decode b_M_put 11 = .ok (.dup, 1) := by decide +kernel
theorem d_M_put_12 : decode b_M_put 12 = .ok (.getfield 126, 3) := by decide +kernel
theorem d_M_put_15 : decode b_M_put 15 = .ok (.iconst 1, 1) := by decide +kernel
theorem d_M_put_16 : decode b_M_put 16 = .ok (.iadd, 1) := by decide +kernel
theorem d_M_put_17 : decode b_M_put 17 = .ok (.putfield 126, 3) := by decide +kernel
theorem d_M_put_20 : decode b_M_put 20 = .ok (.return_, 1) := by decide +kernel
theorem d_M_putDigits_0 : decode b_M_putDigits 0 = .ok (.iconst 1, 1) := by decide +kernel
theorem d_M_putDigits_1 : decode b_M_putDigits 1 = .ok (.istore_n 3, 1) := by decide +kernel
theorem d_M_putDigits_2 : decode b_M_putDigits 2 = .ok (.iconst 1, 1) := by decide +kernel
theorem d_M_putDigits_3 : decode b_M_putDigits 3 = .ok (.istore 4, 2) := by decide +kernel
theorem d_M_putDigits_5 : decode b_M_putDigits 5 = .ok (.iload 4, 2) := by decide +kernel
theorem d_M_putDigits_7 : decode b_M_putDigits 7 = .ok (.iload_n 2, 1) := by decide +kernel
theorem d_M_putDigits_8 : decode b_M_putDigits 8 = .ok (.if_icmp .ge 14, 3) := by decide +kernel
theorem d_M_putDigits_11 : decode b_M_putDigits 11 = .ok (.bipush 10, 2) := by decide +kernel
theorem d_M_putDigits_13 : decode b_M_putDigits 13 = .ok (.iload_n 3, 1) := by decide +kernel
theorem d_M_putDigits_14 : decode b_M_putDigits 14 = .ok (.imul, 1) := by decide +kernel
theorem d_M_putDigits_15 : decode b_M_putDigits 15 = .ok (.istore_n 3, 1) := by decide +kernel
theorem d_M_putDigits_16 : decode b_M_putDigits 16 = .ok (.iinc 4 1, 3) := by decide +kernel
theorem d_M_putDigits_19 : decode b_M_putDigits 19 = .ok (.goto (-14), 3) := by decide +kernel
theorem d_M_putDigits_22 : decode b_M_putDigits 22 = .ok (.iload_n 3, 1) := by decide +kernel
theorem d_M_putDigits_23 : decode b_M_putDigits 23 = .ok (.istore 4, 2) := by decide +kernel
theorem d_M_putDigits_25 : decode b_M_putDigits 25 = .ok (.iload 4, 2) := by decide +kernel
theorem d_M_putDigits_27 : decode b_M_putDigits 27 = .ok (.ifCond .le 27, 3) := by decide +kernel
theorem d_M_putDigits_30 : decode b_M_putDigits 30 = .ok (.aload_n 0, 1) := by decide +kernel
theorem d_M_putDigits_31 : decode b_M_putDigits 31 = .ok (.bipush 48, 2) := by decide +kernel
theorem d_M_putDigits_33 : decode b_M_putDigits 33 = .ok (.iload_n 1, 1) := by decide +kernel
theorem d_M_putDigits_34 : decode b_M_putDigits 34 = .ok (.iload 4, 2) := by decide +kernel
theorem d_M_putDigits_36 : decode b_M_putDigits 36 = .ok (.idiv, 1) := by decide +kernel
theorem d_M_putDigits_37 : decode b_M_putDigits 37 = .ok (.bipush 10, 2) := by decide +kernel
theorem d_M_putDigits_39 : decode b_M_putDigits 39 = .ok (.irem, 1) := by decide +kernel
theorem d_M_putDigits_40 : decode b_M_putDigits 40 = .ok (.iadd, 1) := by decide +kernel
theorem d_M_putDigits_41 : decode b_M_putDigits 41 = .ok (.invokevirtual 129, 3) := by decide +kernel
theorem d_M_putDigits_44 : decode b_M_putDigits 44 = .ok (.iload 4, 2) := by decide +kernel
theorem d_M_putDigits_46 : decode b_M_putDigits 46 = .ok (.bipush 10, 2) := by decide +kernel
theorem d_M_putDigits_48 : decode b_M_putDigits 48 = .ok (.idiv, 1) := by decide +kernel
theorem d_M_putDigits_49 : decode b_M_putDigits 49 = .ok (.istore 4, 2) := by decide +kernel
theorem d_M_putDigits_51 : decode b_M_putDigits 51 = .ok (.goto (-26), 3) := by decide +kernel
theorem d_M_putDigits_54 : decode b_M_putDigits 54 = .ok (.return_, 1) := by decide +kernel
theorem d_M_write_0 : decode b_M_write 0 = .ok (.aload_n 0, 1) := by decide +kernel
theorem d_M_write_1 : decode b_M_write 1 = .ok (.iload_n 1, 1) := by decide +kernel
theorem d_M_write_2 : decode b_M_write 2 = .ok (.invokevirtual 76, 3) := by decide +kernel
theorem d_M_write_5 : decode b_M_write 5 = .ok (.istore_n 3, 1) := by decide +kernel
theorem d_M_write_6 : decode b_M_write 6 = .ok (.aload_n 0, 1) := by decide +kernel
theorem d_M_write_7 : decode b_M_write 7 = .ok (.iconst 0, 1) := by decide +kernel
theorem d_M_write_8 : decode b_M_write 8 = .ok (.putfield 126, 3) := by decide +kernel
theorem d_M_write_11 : decode b_M_write 11 = .ok (.aload_n 0, 1) := by decide +kernel
theorem d_M_write_12 : decode b_M_write 12 = .ok (.iload_n 3, 1) := by decide +kernel
theorem d_M_write_13 : decode b_M_write 13 = .ok (.iconst 1, 1) := by decide +kernel
theorem d_M_write_14 : decode b_M_write 14 = .ok (.invokevirtual 132, 3) := by decide +kernel
theorem d_M_write_17 : decode b_M_write 17 = .ok (.aload_n 0, 1) := by decide +kernel
theorem d_M_write_18 : decode b_M_write 18 = .ok (.bipush 32, 2) := by decide +kernel
theorem d_M_write_20 : decode b_M_write 20 = .ok (.invokevirtual 129, 3) := by decide +kernel
theorem d_M_write_23 : decode b_M_write 23 = .ok (.aload_n 0, 1) := by decide +kernel
theorem d_M_write_24 : decode b_M_write 24 = .ok (.iload_n 1, 1) := by decide +kernel
theorem d_M_write_25 : decode b_M_write 25 = .ok (.aload_n 0, 1) := by decide +kernel
theorem d_M_write_26 : decode b_M_write 26 = .ok (.iload_n 3, 1) := by decide +kernel
theorem d_M_write_27 : decode b_M_write 27 = .ok (.invokevirtual 69, 3) := by decide +kernel
theorem d_M_write_30 : decode b_M_write 30 = .ok (.isub, 1) := by decide +kernel
theorem d_M_write_31 : decode b_M_write 31 = .ok (.iconst 3, 1) := by decide +kernel
theorem d_M_write_32 : decode b_M_write 32 = .ok (.invokevirtual 132, 3) := by decide +kernel
theorem d_M_write_35 : decode b_M_write 35 = .ok (.aload_n 0, 1) := by decide +kernel
theorem d_M_write_36 : decode b_M_write 36 = .ok (.bipush 32, 2) := by decide +kernel
theorem d_M_write_38 : decode b_M_write 38 = .ok (.invokevirtual 129, 3) := by decide +kernel
theorem d_M_write_41 : decode b_M_write 41 = .ok (.aload_n 0, 1) := by decide +kernel
theorem d_M_write_42 : decode b_M_write 42 = .ok (.aload_n 0, 1) := by decide +kernel
theorem d_M_write_43 : decode b_M_write 43 = .ok (.getfield 32, 3) := by decide +kernel
theorem d_M_write_46 : decode b_M_write 46 = .ok (.iload_n 2, 1) := by decide +kernel
theorem d_M_write_47 : decode b_M_write 47 = .ok (.iaload, 1) := by decide +kernel
theorem d_M_write_48 : decode b_M_write 48 = .ok (.bipush 60, 2) := by decide +kernel
theorem d_M_write_50 : decode b_M_write 50 = .ok (.idiv, 1) := by decide +kernel
theorem d_M_write_51 : decode b_M_write 51 = .ok (.iconst 2, 1) := by decide +kernel
theorem d_M_write_52 : decode b_M_write 52 = .ok (.invokevirtual 132, 3) := by decide +kernel
theorem d_M_write_55 : decode b_M_write 55 = .ok (.aload_n 0, 1) := by decide +kernel
theorem d_M_write_56 : decode b_M_write 56 = .ok (.bipush 58, 2) := by decide +kernel
theorem d_M_write_58 : decode b_M_write 58 = .ok (.invokevirtual 129, 3) := by decide +kernel
theorem d_M_write_61 : decode b_M_write 61 = .ok (.aload_n 0, 1) := by decide +kernel
theorem d_M_write_62 : decode b_M_write 62 = .ok (.aload_n 0, 1) := by decide +kernel
theorem d_M_write_63 : decode b_M_write 63 = .ok (.getfield 32, 3) := by decide +kernel
theorem d_M_write_66 : decode b_M_write 66 = .ok (.iload_n 2, 1) := by decide +kernel
theorem d_M_write_67 : decode b_M_write 67 = .ok (.iaload, 1) := by decide +kernel
theorem d_M_write_68 : decode b_M_write 68 = .ok (.bipush 60, 2) := by decide +kernel
theorem d_M_write_70 : decode b_M_write 70 = .ok (.irem, 1) := by decide +kernel
theorem d_M_write_71 : decode b_M_write 71 = .ok (.iconst 2, 1) := by decide +kernel
theorem d_M_write_72 : decode b_M_write 72 = .ok (.invokevirtual 132, 3) := by decide +kernel
theorem d_M_write_75 : decode b_M_write 75 = .ok (.aload_n 0, 1) := by decide +kernel
theorem d_M_write_76 : decode b_M_write 76 = .ok (.bipush 32, 2) := by decide +kernel
theorem d_M_write_78 : decode b_M_write 78 = .ok (.invokevirtual 129, 3) := by decide +kernel
theorem d_M_write_81 : decode b_M_write 81 = .ok (.aload_n 0, 1) := by decide +kernel
theorem d_M_write_82 : decode b_M_write 82 = .ok (.aload_n 0, 1) := by decide +kernel
theorem d_M_write_83 : decode b_M_write 83 = .ok (.getfield 35, 3) := by decide +kernel
theorem d_M_write_86 : decode b_M_write 86 = .ok (.iload_n 2, 1) := by decide +kernel
theorem d_M_write_87 : decode b_M_write 87 = .ok (.baload, 1) := by decide +kernel
theorem d_M_write_88 : decode b_M_write 88 = .ok (.ifCond .eq 8, 3) := by decide +kernel
theorem d_M_write_91 : decode b_M_write 91 = .ok (.bipush 72, 2) := by decide +kernel
theorem d_M_write_93 : decode b_M_write 93 = .ok (.goto 5, 3) := by decide +kernel
theorem d_M_write_96 : decode b_M_write 96 = .ok (.bipush 76, 2) := by decide +kernel
theorem d_M_write_98 : decode b_M_write 98 = .ok (.invokevirtual 129, 3) := by decide +kernel
theorem d_M_write_101 : decode b_M_write 101 = .ok (.aload_n 0, 1) := by decide +kernel
theorem d_M_write_102 : decode b_M_write 102 = .ok (.aload_n 0, 1) := by decide +kernel
theorem d_M_write_103 : decode b_M_write 103 = .ok (.getfield 35, 3) := by decide +kernel
theorem d_M_write_106 : decode b_M_write 106 = .ok (.iload_n 2, 1) := by decide +kernel
theorem d_M_write_107 : decode b_M_write 107 = .ok (.baload, 1) := by decide +kernel
theorem d_M_write_108 : decode b_M_write 108 = .ok (.ifCond .eq 8, 3) := by decide +kernel
theorem d_M_write_111 : decode b_M_write 111 = .ok (.bipush 73, 2) := by decide +kernel
theorem d_M_write_113 : decode b_M_write 113 = .ok (.goto 5, 3) := by decide +kernel
theorem d_M_write_116 : decode b_M_write 116 = .ok (.bipush 79, 2) := by decide +kernel
theorem d_M_write_118 : decode b_M_write 118 = .ok (.invokevirtual 129, 3) := by decide +kernel
theorem d_M_write_121 : decode b_M_write 121 = .ok (.aload_n 0, 1) := by decide +kernel
theorem d_M_write_122 : decode b_M_write 122 = .ok (.aload_n 0, 1) := by decide +kernel
theorem d_M_write_123 : decode b_M_write 123 = .ok (.getfield 35, 3) := by decide +kernel
theorem d_M_write_126 : decode b_M_write 126 = .ok (.iload_n 2, 1) := by decide +kernel
theorem d_M_write_127 : decode b_M_write 127 = .ok (.baload, 1) := by decide +kernel
theorem d_M_write_128 : decode b_M_write 128 = .ok (.ifCond .eq 8, 3) := by decide +kernel
theorem d_M_write_131 : decode b_M_write 131 = .ok (.bipush 71, 2) := by decide +kernel
theorem d_M_write_133 : decode b_M_write 133 = .ok (.goto 5, 3) := by decide +kernel
theorem d_M_write_136 : decode b_M_write 136 = .ok (.bipush 87, 2) := by decide +kernel
theorem d_M_write_138 : decode b_M_write 138 = .ok (.invokevirtual 129, 3) := by decide +kernel
theorem d_M_write_141 : decode b_M_write 141 = .ok (.aload_n 0, 1) := by decide +kernel
theorem d_M_write_142 : decode b_M_write 142 = .ok (.getfield 35, 3) := by decide +kernel
theorem d_M_write_145 : decode b_M_write 145 = .ok (.iload_n 2, 1) := by decide +kernel
theorem d_M_write_146 : decode b_M_write 146 = .ok (.baload, 1) := by decide +kernel
theorem d_M_write_147 : decode b_M_write 147 = .ok (.ifCond .eq 9, 3) := by decide +kernel
theorem d_M_write_150 : decode b_M_write 150 = .ok (.aload_n 0, 1) := by decide +kernel
theorem d_M_write_151 : decode b_M_write 151 = .ok (.bipush 72, 2) := by decide +kernel
theorem d_M_write_153 : decode b_M_write 153 = .ok (.invokevirtual 129, 3) := by decide +kernel
theorem d_M_write_156 : decode b_M_write 156 = .ok (.aload_n 0, 1) := by decide +kernel
theorem d_M_write_157 : decode b_M_write 157 = .ok (.bipush 32, 2) := by decide +kernel
theorem d_M_write_159 : decode b_M_write 159 = .ok (.invokevirtual 129, 3) := by decide +kernel
theorem d_M_write_162 : decode b_M_write 162 = .ok (.aload_n 0, 1) := by decide +kernel
theorem d_M_write_163 : decode b_M_write 163 = .ok (.getfield 29, 3) := by decide +kernel
theorem d_M_write_166 : decode b_M_write 166 = .ok (.aload_n 0, 1) := by decide +kernel
theorem d_M_write_167 : decode b_M_write 167 = .ok (.getfield 32, 3) := by decide +kernel
theorem d_M_write_170 : decode b_M_write 170 = .ok (.iload_n 2, 1) := by decide +kernel
theorem d_M_write_171 : decode b_M_write 171 = .ok (.iaload, 1) := by decide +kernel
theorem d_M_write_172 : decode b_M_write 172 = .ok (.iaload, 1) := by decide +kernel
theorem d_M_write_173 : decode b_M_write 173 = .ok (.istore 4, 2) := by decide +kernel
theorem d_M_write_175 : decode b_M_write 175 = .ok (.iload 4, 2) := by decide +kernel
theorem d_M_write_177 : decode b_M_write 177 = .ok (.ifCond .ge 9, 3) := by decide +kernel
theorem d_M_write_180 : decode b_M_write 180 = .ok (.aload_n 0, 1) := by decide +kernel
theorem d_M_write_181 : decode b_M_write 181 = .ok (.bipush 45, 2) := by decide +kernel
theorem d_M_write_183 : decode b_M_write 183 = .ok (.invokevirtual 129, 3) := by decide +kernel
theorem d_M_write_186 : decode b_M_write 186 = .ok (.iload 4, 2) := by decide +kernel
theorem d_M_write_188 : decode b_M_write 188 = .ok (.ifCond .ge 9, 3) := by decide +kernel
theorem d_M_write_191 : decode b_M_write 191 = .ok (.iload 4, 2) := by decide +kernel
theorem d_M_write_193 : decode b_M_write 193 = .ok (.ineg, 1) := by decide +kernel
theorem d_M_write_194 : decode b_M_write 194 = .ok (.goto 5, 3) := by decide +kernel
theorem d_M_write_197 : decode b_M_write 197 = .ok (.iload 4, 2) := by decide +kernel
theorem d_M_write_199 : decode b_M_write 199 = .ok (.istore 4, 2) := by decide +kernel
theorem d_M_write_201 : decode b_M_write 201 = .ok (.iload 4, 2) := by decide +kernel
theorem d_M_write_203 : decode b_M_write 203 = .ok (.sipush 10000, 3) := by decide +kernel
theorem d_M_write_206 : decode b_M_write 206 = .ok (.idiv, 1) := by decide +kernel
theorem d_M_write_207 : decode b_M_write 207 = .ok (.istore 5, 2) := by decide +kernel
theorem d_M_write_209 : decode b_M_write 209 = .ok (.aload_n 0, 1) := by decide +kernel
theorem d_M_write_210 : decode b_M_write 210 = .ok (.iload 5, 2) := by decide +kernel
theorem d_M_write_212 : decode b_M_write 212 = .ok (.iload 5, 2) := by decide +kernel
theorem d_M_write_214 : decode b_M_write 214 = .ok (.bipush 10, 2) := by decide +kernel
theorem d_M_write_216 : decode b_M_write 216 = .ok (.if_icmp .ge 7, 3) := by decide +kernel
theorem d_M_write_219 : decode b_M_write 219 = .ok (.iconst 1, 1) := by decide +kernel
theorem d_M_write_220 : decode b_M_write 220 = .ok (.goto 15, 3) := by decide +kernel
theorem d_M_write_223 : decode b_M_write 223 = .ok (.iload 5, 2) := by decide +kernel
theorem d_M_write_225 : decode b_M_write 225 = .ok (.bipush 100, 2) := by decide +kernel
theorem d_M_write_227 : decode b_M_write 227 = .ok (.if_icmp .ge 7, 3) := by decide +kernel
theorem d_M_write_230 : decode b_M_write 230 = .ok (.iconst 2, 1) := by decide +kernel
theorem d_M_write_231 : decode b_M_write 231 = .ok (.goto 4, 3) := by decide +kernel
theorem d_M_write_234 : decode b_M_write 234 = .ok (.iconst 3, 1) := by decide +kernel
theorem d_M_write_235 : decode b_M_write 235 = .ok (.invokevirtual 132, 3) := by decide +kernel
theorem d_M_write_238 : decode b_M_write 238 = .ok (.aload_n 0, 1) := by decide +kernel
theorem d_M_write_239 : decode b_M_write 239 = .ok (.bipush 46, 2) := by decide +kernel
theorem d_M_write_241 : decode b_M_write 241 = .ok (.invokevirtual 129, 3) := by decide +kernel
theorem d_M_write_244 : decode b_M_write 244 = .ok (.aload_n 0, 1) := by decide +kernel
theorem d_M_write_245 : decode b_M_write 245 = .ok (.iload 4, 2) := by decide +kernel
theorem d_M_write_247 : decode b_M_write 247 = .ok (.sipush 10000, 3) := by decide +kernel
theorem d_M_write_250 : decode b_M_write 250 = .ok (.irem, 1) := by decide +kernel
theorem d_M_write_251 : decode b_M_write 251 = .ok (.iconst 4, 1) := by decide +kernel
theorem d_M_write_252 : decode b_M_write 252 = .ok (.invokevirtual 132, 3) := by decide +kernel
theorem d_M_write_255 : decode b_M_write 255 = .ok (.return_, 1) := by decide +kernel
theorem d_M_line_0 : decode b_M_line 0 = .ok (.aload_n 0, 1) := by decide +kernel
theorem d_M_line_1 : decode b_M_line 1 = .ok (.aload_n 0, 1) := by decide +kernel
theorem d_M_line_2 : decode b_M_line 2 = .ok (.iload_n 1, 1) := by decide +kernel
theorem d_M_line_3 : decode b_M_line 3 = .ok (.iload_n 2, 1) := by decide +kernel
theorem d_M_line_4 : decode b_M_line 4 = .ok (.invokevirtual 122, 3) := by decide +kernel
theorem d_M_line_7 : decode b_M_line 7 = .ok (.ifCond .eq 7, 3) := by decide +kernel
theorem d_M_line_10 : decode b_M_line 10 = .ok (.iconst 0, 1) := by decide +kernel
theorem d_M_line_11 : decode b_M_line 11 = .ok (.goto 4, 3) := by decide +kernel
theorem d_M_line_14 : decode b_M_line 14 = .ok (.iconst 1, 1) := by decide +kernel
theorem d_M_line_15 : decode b_M_line 15 = .ok (.putfield 43, 3) := by decide +kernel
theorem d_M_line_18 : decode b_M_line 18 = .ok (.aload_n 0, 1) := by decide +kernel
theorem d_M_line_19 : decode b_M_line 19 = .ok (.getfield 43, 3) := by decide +kernel
theorem d_M_line_22 : decode b_M_line 22 = .ok (.ifCond .eq 5, 3) := by decide +kernel
theorem d_M_line_25 : decode b_M_line 25 = .ok (.iconst 0, 1) := by decide +kernel
theorem d_M_line_26 : decode b_M_line 26 = .ok (.ireturn, 1) := by decide +kernel
theorem d_M_line_27 : decode b_M_line 27 = .ok (.aload_n 0, 1) := by decide +kernel
theorem d_M_line_28 : decode b_M_line 28 = .ok (.iload_n 1, 1) := by decide +kernel
theorem d_M_line_29 : decode b_M_line 29 = .ok (.iload_n 2, 1) := by decide +kernel
theorem d_M_line_30 : decode b_M_line 30 = .ok (.invokevirtual 136, 3) := by decide +kernel
theorem d_M_line_33 : decode b_M_line 33 = .ok (.aload_n 0, 1) := by decide +kernel
theorem d_M_line_34 : decode b_M_line 34 = .ok (.getfield 126, 3) := by decide +kernel
theorem d_M_line_37 : decode b_M_line 37 = .ok (.ireturn, 1) := by decide +kernel
theorem d_M_sign_0 : decode b_M_sign 0 = .ok (.aload_n 0, 1) := by decide +kernel
theorem d_M_sign_1 : decode b_M_sign 1 = .ok (.aload_n 0, 1) := by decide +kernel
theorem d_M_sign_2 : decode b_M_sign 2 = .ok (.iload_n 1, 1) := by decide +kernel
theorem d_M_sign_3 : decode b_M_sign 3 = .ok (.iload_n 2, 1) := by decide +kernel
theorem d_M_sign_4 : decode b_M_sign 4 = .ok (.invokevirtual 122, 3) := by decide +kernel
theorem d_M_sign_7 : decode b_M_sign 7 = .ok (.ifCond .eq 7, 3) := by decide +kernel
theorem d_M_sign_10 : decode b_M_sign 10 = .ok (.iconst 0, 1) := by decide +kernel
theorem d_M_sign_11 : decode b_M_sign 11 = .ok (.goto 4, 3) := by decide +kernel
theorem d_M_sign_14 : decode b_M_sign 14 = .ok (.iconst 1, 1) := by decide +kernel
theorem d_M_sign_15 : decode b_M_sign 15 = .ok (.putfield 43, 3) := by decide +kernel
theorem d_M_sign_18 : decode b_M_sign 18 = .ok (.aload_n 0, 1) := by decide +kernel
theorem d_M_sign_19 : decode b_M_sign 19 = .ok (.getfield 43, 3) := by decide +kernel
theorem d_M_sign_22 : decode b_M_sign 22 = .ok (.ifCond .eq 5, 3) := by decide +kernel
theorem d_M_sign_25 : decode b_M_sign 25 = .ok (.iconst 0, 1) := by decide +kernel
theorem d_M_sign_26 : decode b_M_sign 26 = .ok (.ireturn, 1) := by decide +kernel
theorem d_M_sign_27 : decode b_M_sign 27 = .ok (.aload_n 0, 1) := by decide +kernel
theorem d_M_sign_28 : decode b_M_sign 28 = .ok (.iload_n 1, 1) := by decide +kernel
theorem d_M_sign_29 : decode b_M_sign 29 = .ok (.iload_n 2, 1) := by decide +kernel
theorem d_M_sign_30 : decode b_M_sign 30 = .ok (.invokevirtual 136, 3) := by decide +kernel
theorem d_M_sign_33 : decode b_M_sign 33 = .ok (.aload_n 0, 1) := by decide +kernel
theorem d_M_sign_34 : decode b_M_sign 34 = .ok (.iload_n 3, 1) := by decide +kernel
theorem d_M_sign_35 : decode b_M_sign 35 = .ok (.ifCond .lt 11, 3) := by decide +kernel
theorem d_M_sign_38 : decode b_M_sign 38 = .ok (.iload_n 3, 1) := by decide +kernel
theorem d_M_sign_39 : decode b_M_sign 39 = .ok (.aload_n 0, 1) := by decide +kernel
theorem d_M_sign_40 : decode b_M_sign 40 = .ok (.getfield 126, 3) := by decide +kernel
theorem d_M_sign_43 : decode b_M_sign 43 = .ok (.if_icmp .lt 7, 3) := by decide +kernel
theorem d_M_sign_46 : decode b_M_sign 46 = .ok (.iconst 1, 1) := by decide +kernel
theorem d_M_sign_47 : decode b_M_sign 47 = .ok (.goto 4, 3) := by decide +kernel
theorem d_M_sign_50 : decode b_M_sign 50 = .ok (.iconst 0, 1) := by decide +kernel
theorem d_M_sign_51 : decode b_M_sign 51 = .ok (.putfield 43, 3) := by decide +kernel
theorem d_M_sign_54 : decode b_M_sign 54 = .ok (.aload_n 0, 1) := by decide +kernel
theorem d_M_sign_55 : decode b_M_sign 55 = .ok (.getfield 43, 3) := by decide +kernel
theorem d_M_sign_58 : decode b_M_sign 58 = .ok (.ifCond .ne 12, 3) := by decide +kernel
theorem d_M_sign_61 : decode b_M_sign 61 = .ok (.aload_n 0, 1) := by decide +kernel
theorem d_M_sign_62 : decode b_M_sign 62 = .ok (.getfield 39, 3) := by decide +kernel
theorem d_M_sign_65 : decode b_M_sign 65 = .ok (.iload_n 3, 1) := by decide +kernel
theorem d_M_sign_66 : decode b_M_sign 66 = .ok (.iaload, 1) := by decide +kernel
theorem d_M_sign_67 : decode b_M_sign 67 = .ok (.goto 4, 3) := by decide +kernel
theorem d_M_sign_70 : decode b_M_sign 70 = .ok (.iconst 0, 1) := by decide +kernel
theorem d_M_sign_71 : decode b_M_sign 71 = .ok (.ireturn, 1) := by decide +kernel
theorem d_M_above_0 : decode b_M_above 0 = .ok (.aload_n 0, 1) := by decide +kernel
theorem d_M_above_1 : decode b_M_above 1 = .ok (.iload_n 3, 1) := by decide +kernel
theorem d_M_above_2 : decode b_M_above 2 = .ok (.iconst 1, 1) := by decide +kernel
theorem d_M_above_3 : decode b_M_above 3 = .ok (.if_icmp .lt 10, 3) := by decide +kernel
theorem d_M_above_6 : decode b_M_above 6 = .ok (.iload_n 3, 1) := by decide +kernel
theorem d_M_above_7 : decode b_M_above 7 = .ok (.sipush 1000, 3) := by decide +kernel
theorem d_M_above_10 : decode b_M_above 10 = .ok (.if_icmp .le 7, 3) := by decide +kernel
theorem d_M_above_13 : decode b_M_above 13 = .ok (.iconst 1, 1) := by decide +kernel
theorem d_M_above_14 : decode b_M_above 14 = .ok (.goto 16, 3) := by decide +kernel
theorem d_M_above_17 : decode b_M_above 17 = .ok (.aload_n 0, 1) := by decide +kernel
theorem d_M_above_18 : decode b_M_above 18 = .ok (.iload_n 1, 1) := by decide +kernel
theorem d_M_above_19 : decode b_M_above 19 = .ok (.invokevirtual 73, 3) := by decide +kernel
theorem d_M_above_22 : decode b_M_above 22 = .ok (.ifCond .ne 7, 3) := by decide +kernel
theorem d_M_above_25 : decode b_M_above 25 = .ok (.iconst 2, 1) := by decide +kernel
theorem d_M_above_26 : decode b_M_above 26 = .ok (.goto 4, 3) := by decide +kernel
theorem d_M_above_29 : decode b_M_above 29 = .ok (.iconst 0, 1) := by decide +kernel
theorem d_M_above_30 : decode b_M_above 30 = .ok (.putfield 43, 3) := by decide +kernel
theorem d_M_above_33 : decode b_M_above 33 = .ok (.aload_n 0, 1) := by decide +kernel
theorem d_M_above_34 : decode b_M_above 34 = .ok (.getfield 43, 3) := by decide +kernel
theorem d_M_above_37 : decode b_M_above 37 = .ok (.ifCond .eq 5, 3) := by decide +kernel
theorem d_M_above_40 : decode b_M_above 40 = .ok (.iconst 0, 1) := by decide +kernel
theorem d_M_above_41 : decode b_M_above 41 = .ok (.ireturn, 1) := by decide +kernel
theorem d_M_above_42 : decode b_M_above 42 = .ok (.iconst 0, 1) := by decide +kernel
theorem d_M_above_43 : decode b_M_above 43 = .ok (.istore 4, 2) := by decide +kernel
theorem d_M_above_45 : decode b_M_above 45 = .ok (.iload_n 1, 1) := by decide +kernel
theorem d_M_above_46 : decode b_M_above 46 = .ok (.istore 5, 2) := by decide +kernel
theorem d_M_above_48 : decode b_M_above 48 = .ok (.iconst (-1), 1) := by decide +kernel
theorem d_M_above_49 : decode b_M_above 49 = .ok (.istore 6, 2) := by decide +kernel
theorem d_M_above_51 : decode b_M_above 51 = .ok (.iload 6, 2) := by decide +kernel
theorem d_M_above_53 : decode b_M_above 53 = .ok (.iconst (-1), 1) := by decide +kernel
theorem d_M_above_54 : decode b_M_above 54 = .ok (.if_icmp .ne 68, 3) := by decide +kernel
theorem d_M_above_57 : decode b_M_above 57 = .ok (.aload_n 0, 1) := by decide +kernel
theorem d_M_above_58 : decode b_M_above 58 = .ok (.iload 5, 2) := by decide +kernel
theorem d_M_above_60 : decode b_M_above 60 = .ok (.invokevirtual 73, 3) := by decide +kernel
theorem d_M_above_63 : decode b_M_above 63 = .ok (.ifCond .eq 59, 3) := by decide +kernel
theorem d_M_above_66 : decode b_M_above 66 = .ok (.iload 5, 2) := by decide +kernel
theorem d_M_above_68 : decode b_M_above 68 = .ok (.iload_n 3, 1) := by decide +kernel
theorem d_M_above_69 : decode b_M_above 69 = .ok (.isub, 1) := by decide +kernel
theorem d_M_above_70 : decode b_M_above 70 = .ok (.iload_n 1, 1) := by decide +kernel
theorem d_M_above_71 : decode b_M_above 71 = .ok (.sipush 2999, 3) := by decide +kernel
theorem d_M_above_74 : decode b_M_above 74 = .ok (.iadd, 1) := by decide +kernel
theorem d_M_above_75 : decode b_M_above 75 = .ok (.if_icmp .ge 47, 3) := by decide +kernel
theorem d_M_above_78 : decode b_M_above 78 = .ok (.aload_n 0, 1) := by decide +kernel
theorem d_M_above_79 : decode b_M_above 79 = .ok (.iload 5, 2) := by decide +kernel
theorem d_M_above_81 : decode b_M_above 81 = .ok (.invokevirtual 109, 3) := by decide +kernel
theorem d_M_above_84 : decode b_M_above 84 = .ok (.iload_n 2, 1) := by decide +kernel
theorem d_M_above_85 : decode b_M_above 85 = .ok (.if_icmp .lt 10, 3) := by decide +kernel
theorem d_M_above_88 : decode b_M_above 88 = .ok (.iload 4, 2) := by decide +kernel
theorem d_M_above_90 : decode b_M_above 90 = .ok (.iconst 1, 1) := by decide +kernel
theorem d_M_above_91 : decode b_M_above 91 = .ok (.iadd, 1) := by decide +kernel
theorem d_M_above_92 : decode b_M_above 92 = .ok (.goto 4, 3) := by decide +kernel
theorem d_M_above_95 : decode b_M_above 95 = .ok (.iconst 0, 1) := by decide +kernel
theorem d_M_above_96 : decode b_M_above 96 = .ok (.istore 4, 2) := by decide +kernel
theorem d_M_above_98 : decode b_M_above 98 = .ok (.iload 4, 2) := by decide +kernel
theorem d_M_above_100 : decode b_M_above 100 = .ok (.iload_n 3, 1) := by decide +kernel
theorem d_M_above_101 : decode b_M_above 101 = .ok (.if_icmp .lt 12, 3) := by decide +kernel
theorem d_M_above_104 : decode b_M_above 104 = .ok (.iload 5, 2) := by decide +kernel
theorem d_M_above_106 : decode b_M_above 106 = .ok (.iload_n 3, 1) := by decide +kernel
theorem d_M_above_107 : decode b_M_above 107 = .ok (.isub, 1) := by decide +kernel
theorem d_M_above_108 : decode b_M_above 108 = .ok (.iconst 1, 1) := by decide +kernel
theorem d_M_above_109 : decode b_M_above 109 = .ok (.iadd, 1) := by decide +kernel
theorem d_M_above_110 : decode b_M_above 110 = .ok (.goto 4, 3) := by decide +kernel
theorem d_M_above_113 : decode b_M_above 113 = .ok (.iconst (-1), 1) := by decide +kernel
theorem d_M_above_114 : decode b_M_above 114 = .ok (.istore 6, 2) := by decide +kernel
theorem d_M_above_116 : decode b_M_above 116 = .ok (.iinc 5 1, 3) := by decide +kernel
theorem d_M_above_119 : decode b_M_above 119 = .ok (.goto (-68), 3) := by decide +kernel
theorem d_M_above_122 : decode b_M_above 122 = .ok (.iload 6, 2) := by decide +kernel
theorem d_M_above_124 : decode b_M_above 124 = .ok (.ireturn, 1) := by decide +kernel
