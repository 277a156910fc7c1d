/-! the JDK's methods of a StringBuilder: names, decoding, call sites. Written by wip/whole/names.py -/
abbrev RS : String := "java/lang/StringBuilder"
abbrev RA : String := "java/lang/AbstractStringBuilder"
abbrev RT : String := "java/lang/String"
abbrev RI : String := "java/lang/Integer"
abbrev RN : String := "java/lang/StringLatin1"
abbrev RP : String := "jdk/internal/util/ArraysSupport"
abbrev RR : String := "java/util/Arrays"
abbrev RO : String := "jdk/internal/util/Preconditions"
abbrev b_S_init : ByteArray := prog_13_method_1_code
def y_S_init : MethodName := ⟨"java/lang/StringBuilder", "<init>", "()V"⟩
theorem d_S_init_0 : decode b_S_init 0 = .ok (.aload_n 0, 1) := by decide +kernel
theorem d_S_init_1 : decode b_S_init 1 = .ok (.bipush 16, 2) := by decide +kernel
theorem d_S_init_3 : decode b_S_init 3 = .ok (.invokespecial 1, 3) := by decide +kernel
theorem d_S_init_6 : decode b_S_init 6 = .ok (.return_, 1) := by decide +kernel
abbrev b_A_init : ByteArray := prog_4_method_2_code
def y_A_init : MethodName := ⟨"java/lang/AbstractStringBuilder", "<init>", "(I)V"⟩
theorem d_A_init_0 : decode b_A_init 0 = .ok (.aload_n 0, 1) := by decide +kernel
theorem d_A_init_1 : decode b_A_init 1 = .ok (.invokespecial 3, 3) := by decide +kernel
theorem d_A_init_4 : decode b_A_init 4 = .ok (.getstatic 18, 3) := by decide +kernel
theorem d_A_init_7 : decode b_A_init 7 = .ok (.ifCond .eq 18, 3) := by decide +kernel
theorem d_A_init_10 : decode b_A_init 10 = .ok (.aload_n 0, 1) := by decide +kernel
theorem d_A_init_11 : decode b_A_init 11 = .ok (.iload_n 1, 1) := by decide +kernel
theorem d_A_init_12 : decode b_A_init 12 = .ok (.newarray .byte, 2) := by decide +kernel
theorem d_A_init_14 : decode b_A_init 14 = .ok (.putfield 15, 3) := by decide +kernel
theorem d_A_init_17 : decode b_A_init 17 = .ok (.aload_n 0, 1) := by decide +kernel
theorem d_A_init_18 : decode b_A_init 18 = .ok (.iconst 0, 1) := by decide +kernel
theorem d_A_init_19 : decode b_A_init 19 = .ok (.putfield 22, 3) := by decide +kernel
theorem d_A_init_22 : decode b_A_init 22 = .ok (.goto 16, 3) := by decide +kernel
theorem d_A_init_25 : decode b_A_init 25 = .ok (.aload_n 0, 1) := by decide +kernel
theorem d_A_init_26 : decode b_A_init 26 = .ok (.iload_n 1, 1) := by decide +kernel
theorem d_A_init_27 : decode b_A_init 27 = .ok (.invokestatic 26, 3) := by decide +kernel
theorem d_A_init_30 : decode b_A_init 30 = .ok (.putfield 15, 3) := by decide +kernel
theorem d_A_init_33 : decode b_A_init 33 = .ok (.aload_n 0, 1) := by decide +kernel
theorem d_A_init_34 : decode b_A_init 34 = .ok (.iconst 1, 1) := by decide +kernel
theorem d_A_init_35 : decode b_A_init 35 = .ok (.putfield 22, 3) := by decide +kernel
theorem d_A_init_38 : decode b_A_init 38 = .ok (.return_, 1) := by decide +kernel
abbrev b_S_appC : ByteArray := prog_13_method_14_code
def y_S_appC : MethodName := ⟨"java/lang/StringBuilder", "append", "(C)Ljava/lang/StringBuilder;"⟩
theorem d_S_appC_0 : decode b_S_appC 0 = .ok (.aload_n 0, 1) := by decide +kernel
theorem d_S_appC_1 : decode b_S_appC 1 = .ok (.iload_n 1, 1) := by decide +kernel
theorem d_S_appC_2 : decode b_S_appC 2 = .ok (.invokespecial 50, 3) := by decide +kernel
theorem d_S_appC_5 : decode b_S_appC 5 = .ok (.pop, 1) := by decide +kernel
theorem d_S_appC_6 : decode b_S_appC 6 = .ok (.aload_n 0, 1) := by decide +kernel
theorem d_S_appC_7 : decode b_S_appC 7 = .ok (.areturn, 1) := by decide +kernel
abbrev b_A_appC : ByteArray := prog_4_method_31_code
def y_A_appC : MethodName := ⟨"java/lang/AbstractStringBuilder", "append", "(C)Ljava/lang/AbstractStringBuilder;"⟩
theorem d_A_appC_0 : decode b_A_appC 0 = .ok (.aload_n 0, 1) := by decide +kernel
theorem d_A_appC_1 : decode b_A_appC 1 = .ok (.aload_n 0, 1) := by decide +kernel
theorem d_A_appC_2 : decode b_A_appC 2 = .ok (.getfield 79, 3) := by decide +kernel
theorem d_A_appC_5 : decode b_A_appC 5 = .ok (.iconst 1, 1) := by decide +kernel
theorem d_A_appC_6 : decode b_A_appC 6 = .ok (.iadd, 1) := by decide +kernel
theorem d_A_appC_7 : decode b_A_appC 7 = .ok (.invokevirtual 100, 3) := by decide +kernel
theorem d_A_appC_10 : decode b_A_appC 10 = .ok (.aload_n 0, 1) := by decide +kernel
theorem d_A_appC_11 : decode b_A_appC 11 = .ok (.invokevirtual 83, 3) := by decide +kernel
theorem d_A_appC_14 : decode b_A_appC 14 = .ok (.ifCond .eq 31, 3) := by decide +kernel
theorem d_A_appC_17 : decode b_A_appC 17 = .ok (.iload_n 1, 1) := by decide +kernel
theorem d_A_appC_18 : decode b_A_appC 18 = .ok (.invokestatic 191, 3) := by decide +kernel
theorem d_A_appC_21 : decode b_A_appC 21 = .ok (.ifCond .eq 24, 3) := by decide +kernel
theorem d_A_appC_24 : decode b_A_appC 24 = .ok (.aload_n 0, 1) := by decide +kernel
theorem d_A_appC_25 : decode b_A_appC 25 = .ok (.getfield 15, 3) := by decide +kernel
theorem d_A_appC_28 : decode b_A_appC 28 = .ok (.aload_n 0, 1) := by decide +kernel
theorem d_A_appC_29 : decode b_A_appC 29 = .ok (.dup, 1) := by decide +kernel
theorem d_A_appC_30 : decode b_A_appC 30 = .ok (.getfield 79, 3) := by decide +kernel
theorem d_A_appC_33 : decode b_A_appC 33 = .ok (.dup_x1, 1) := by decide +kernel
theorem d_A_appC_34 : decode b_A_appC 34 = .ok (.iconst 1, 1) := by decide +kernel
theorem d_A_appC_35 : decode b_A_appC 35 = .ok (.iadd, 1) := by decide +kernel
theorem d_A_appC_36 : decode b_A_appC 36 = .ok (.putfield 79, 3) := by decide +kernel
theorem d_A_appC_39 : decode b_A_appC 39 = .ok (.iload_n 1, 1) := by decide +kernel
theorem d_A_appC_40 : decode b_A_appC 40 = .ok (.i2b, 1) := by decide +kernel
theorem d_A_appC_41 : decode b_A_appC 41 = .ok (.bastore, 1) := by decide +kernel
theorem d_A_appC_42 : decode b_A_appC 42 = .ok (.goto 33, 3) := by decide +kernel
theorem d_A_appC_45 : decode b_A_appC 45 = .ok (.aload_n 0, 1) := by decide +kernel
theorem d_A_appC_46 : decode b_A_appC 46 = .ok (.invokevirtual 83, 3) := by decide +kernel
theorem d_A_appC_49 : decode b_A_appC 49 = .ok (.ifCond .eq 7, 3) := by decide +kernel
theorem d_A_appC_52 : decode b_A_appC 52 = .ok (.aload_n 0, 1) := by decide +kernel
theorem d_A_appC_53 : decode b_A_appC 53 = .ok (.invokevirtual 195, 3) := by decide +kernel
theorem d_A_appC_56 : decode b_A_appC 56 = .ok (.aload_n 0, 1) := by decide +kernel
theorem d_A_appC_57 : decode b_A_appC 57 = .ok (.getfield 15, 3) := by decide +kernel
theorem d_A_appC_60 : decode b_A_appC 60 = .ok (.aload_n 0, 1) := by decide +kernel
theorem d_A_appC_61 : decode b_A_appC 61 = .ok (.dup, 1) := by decide +kernel
theorem d_A_appC_62 : decode b_A_appC 62 = .ok (.getfield 79, 3) := by decide +kernel
theorem d_A_appC_65 : decode b_A_appC 65 = .ok (.dup_x1, 1) := by decide +kernel
theorem d_A_appC_66 : decode b_A_appC 66 = .ok (.iconst 1, 1) := by decide +kernel
theorem d_A_appC_67 : decode b_A_appC 67 = .ok (.iadd, 1) := by decide +kernel
theorem d_A_appC_68 : decode b_A_appC 68 = .ok (.putfield 79, 3) := by decide +kernel
theorem d_A_appC_71 : decode b_A_appC 71 = .ok (.iload_n 1, 1) := by decide +kernel
theorem d_A_appC_72 : decode b_A_appC 72 = .ok (.invokestatic 197, 3) := by decide +kernel
theorem d_A_appC_75 : decode b_A_appC 75 = .ok (.aload_n 0, 1) := by decide +kernel
theorem d_A_appC_76 : decode b_A_appC 76 = .ok (.areturn, 1) := by decide +kernel
abbrev b_A_ens : ByteArray := prog_4_method_9_code
def y_A_ens : MethodName := ⟨"java/lang/AbstractStringBuilder", "ensureCapacityInternal", "(I)V"⟩
theorem d_A_ens_0 : decode b_A_ens 0 = .ok (.aload_n 0, 1) := by decide +kernel
theorem d_A_ens_1 : decode b_A_ens 1 = .ok (.getfield 15, 3) := by decide +kernel
theorem d_A_ens_4 : decode b_A_ens 4 = .ok (.arraylength, 1) := by decide +kernel
theorem d_A_ens_5 : decode b_A_ens 5 = .ok (.aload_n 0, 1) := by decide +kernel
theorem d_A_ens_6 : decode b_A_ens 6 = .ok (.getfield 22, 3) := by decide +kernel
theorem d_A_ens_9 : decode b_A_ens 9 = .ok (.ishr, 1) := by decide +kernel
theorem d_A_ens_10 : decode b_A_ens 10 = .ok (.istore_n 2, 1) := by decide +kernel
theorem d_A_ens_11 : decode b_A_ens 11 = .ok (.iload_n 1, 1) := by decide +kernel
theorem d_A_ens_12 : decode b_A_ens 12 = .ok (.iload_n 2, 1) := by decide +kernel
theorem d_A_ens_13 : decode b_A_ens 13 = .ok (.isub, 1) := by decide +kernel
theorem d_A_ens_14 : decode b_A_ens 14 = .ok (.ifCond .le 24, 3) := by decide +kernel
theorem d_A_ens_17 : decode b_A_ens 17 = .ok (.aload_n 0, 1) := by decide +kernel
theorem d_A_ens_18 : decode b_A_ens 18 = .ok (.aload_n 0, 1) := by decide +kernel
theorem d_A_ens_19 : decode b_A_ens 19 = .ok (.getfield 15, 3) := by decide +kernel
theorem d_A_ens_22 : decode b_A_ens 22 = .ok (.aload_n 0, 1) := by decide +kernel
theorem d_A_ens_23 : decode b_A_ens 23 = .ok (.iload_n 1, 1) := by decide +kernel
theorem d_A_ens_24 : decode b_A_ens 24 = .ok (.invokevirtual 104, 3) := by decide +kernel
theorem d_A_ens_27 : decode b_A_ens 27 = .ok (.aload_n 0, 1) := by decide +kernel
theorem d_A_ens_28 : decode b_A_ens 28 = .ok (.getfield 22, 3) := by decide +kernel
theorem d_A_ens_31 : decode b_A_ens 31 = .ok (.ishl, 1) := by decide +kernel
theorem d_A_ens_32 : decode b_A_ens 32 = .ok (.invokestatic 108, 3) := by decide +kernel
theorem d_A_ens_35 : decode b_A_ens 35 = .ok (.putfield 15, 3) := by decide +kernel
theorem d_A_ens_38 : decode b_A_ens 38 = .ok (.return_, 1) := by decide +kernel
abbrev b_A_newCap : ByteArray := prog_4_method_10_code
def y_A_newCap : MethodName := ⟨"java/lang/AbstractStringBuilder", "newCapacity", "(I)I"⟩
theorem d_A_newCap_0 : decode b_A_newCap 0 = .ok (.aload_n 0, 1) := by decide +kernel
theorem d_A_newCap_1 : decode b_A_newCap 1 = .ok (.getfield 15, 3) := by decide +kernel
theorem d_A_newCap_4 : decode b_A_newCap 4 = .ok (.arraylength, 1) := by decide +kernel
theorem d_A_newCap_5 : decode b_A_newCap 5 = .ok (.istore_n 2, 1) := by decide +kernel
theorem d_A_newCap_6 : decode b_A_newCap 6 = .ok (.iload_n 1, 1) := by decide +kernel
theorem d_A_newCap_7 : decode b_A_newCap 7 = .ok (.aload_n 0, 1) := by decide +kernel
theorem d_A_newCap_8 : decode b_A_newCap 8 = .ok (.getfield 22, 3) := by decide +kernel
theorem d_A_newCap_11 : decode b_A_newCap 11 = .ok (.ishl, 1) := by decide +kernel
theorem d_A_newCap_12 : decode b_A_newCap 12 = .ok (.istore_n 3, 1) := by decide +kernel
theorem d_A_newCap_13 : decode b_A_newCap 13 = .ok (.iload_n 3, 1) := by decide +kernel
theorem d_A_newCap_14 : decode b_A_newCap 14 = .ok (.iload_n 2, 1) := by decide +kernel
theorem d_A_newCap_15 : decode b_A_newCap 15 = .ok (.isub, 1) := by decide +kernel
theorem d_A_newCap_16 : decode b_A_newCap 16 = .ok (.istore 4, 2) := by decide +kernel
theorem d_A_newCap_18 : decode b_A_newCap 18 = .ok (.iload_n 2, 1) := by decide +kernel
theorem d_A_newCap_19 : decode b_A_newCap 19 = .ok (.iload 4, 2) := by decide +kernel
theorem d_A_newCap_21 : decode b_A_newCap 21 = .ok (.iload_n 2, 1) := by decide +kernel
theorem d_A_newCap_22 : decode b_A_newCap 22 = .ok (.iconst 2, 1) := by decide +kernel
theorem d_A_newCap_23 : decode b_A_newCap 23 = .ok (.aload_n 0, 1) := by decide +kernel
theorem d_A_newCap_24 : decode b_A_newCap 24 = .ok (.getfield 22, 3) := by decide +kernel
theorem d_A_newCap_27 : decode b_A_newCap 27 = .ok (.ishl, 1) := by decide +kernel
theorem d_A_newCap_28 : decode b_A_newCap 28 = .ok (.iadd, 1) := by decide +kernel
theorem d_A_newCap_29 : decode b_A_newCap 29 = .ok (.invokestatic 114, 3) := by decide +kernel
theorem d_A_newCap_32 : decode b_A_newCap 32 = .ok (.istore 5, 2) := by decide +kernel
theorem d_A_newCap_34 : decode b_A_newCap 34 = .ok (.iload 5, 2) := by decide +kernel
theorem d_A_newCap_36 : decode b_A_newCap 36 = .ok (.ldc 39, 2) := by decide +kernel
theorem d_A_newCap_38 : decode b_A_newCap 38 = .ok (.if_icmp .ne 13, 3) := by decide +kernel
theorem d_A_newCap_41 : decode b_A_newCap 41 = .ok (.new 120, 3) := by decide +kernel
theorem d_A_newCap_44 : decode b_A_newCap 44 = .ok (.dup, 1) := by decide +kernel
theorem d_A_newCap_45 : decode b_A_newCap 45 = .ok (.ldc 122, 2) := by decide +kernel
theorem d_A_newCap_47 : decode b_A_newCap 47 = .ok (.invokespecial 124, 3) := by decide +kernel
theorem d_A_newCap_50 : decode b_A_newCap 50 = .ok (.athrow, 1) := by decide +kernel
theorem d_A_newCap_51 : decode b_A_newCap 51 = .ok (.iload 5, 2) := by decide +kernel
theorem d_A_newCap_53 : decode b_A_newCap 53 = .ok (.aload_n 0, 1) := by decide +kernel
theorem d_A_newCap_54 : decode b_A_newCap 54 = .ok (.getfield 22, 3) := by decide +kernel
theorem d_A_newCap_57 : decode b_A_newCap 57 = .ok (.ishr, 1) := by decide +kernel
theorem d_A_newCap_58 : decode b_A_newCap 58 = .ok (.ireturn, 1) := by decide +kernel
abbrev b_P_newLen : ByteArray := prog_19_method_27_code
def y_P_newLen : MethodName := ⟨"jdk/internal/util/ArraysSupport", "newLength", "(III)I"⟩
theorem d_P_newLen_0 : decode b_P_newLen 0 = .ok (.iload_n 0, 1) := by decide +kernel
theorem d_P_newLen_1 : decode b_P_newLen 1 = .ok (.iload_n 1, 1) := by decide +kernel
theorem d_P_newLen_2 : decode b_P_newLen 2 = .ok (.iload_n 2, 1) := by decide +kernel
theorem d_P_newLen_3 : decode b_P_newLen 3 = .ok (.invokestatic 194, 3) := by decide +kernel
theorem d_P_newLen_6 : decode b_P_newLen 6 = .ok (.iadd, 1) := by decide +kernel
theorem d_P_newLen_7 : decode b_P_newLen 7 = .ok (.istore_n 3, 1) := by decide +kernel
theorem d_P_newLen_8 : decode b_P_newLen 8 = .ok (.iconst 0, 1) := by decide +kernel
theorem d_P_newLen_9 : decode b_P_newLen 9 = .ok (.iload_n 3, 1) := by decide +kernel
theorem d_P_newLen_10 : decode b_P_newLen 10 = .ok (.if_icmp .ge 11, 3) := by decide +kernel
theorem d_P_newLen_13 : decode b_P_newLen 13 = .ok (.iload_n 3, 1) := by decide +kernel
theorem d_P_newLen_14 : decode b_P_newLen 14 = .ok (.ldc 200, 2) := by decide +kernel
theorem d_P_newLen_16 : decode b_P_newLen 16 = .ok (.if_icmp .gt 5, 3) := by decide +kernel
theorem d_P_newLen_19 : decode b_P_newLen 19 = .ok (.iload_n 3, 1) := by decide +kernel
theorem d_P_newLen_20 : decode b_P_newLen 20 = .ok (.ireturn, 1) := by decide +kernel
theorem d_P_newLen_21 : decode b_P_newLen 21 = .ok (.iload_n 0, 1) := by decide +kernel
theorem d_P_newLen_22 : decode b_P_newLen 22 = .ok (.iload_n 1, 1) := by decide +kernel
theorem d_P_newLen_23 : decode b_P_newLen 23 = .ok (.invokestatic 201, 3) := by decide +kernel
theorem d_P_newLen_26 : decode b_P_newLen 26 = .ok (.ireturn, 1) := by decide +kernel
abbrev b_R_copyOf : ByteArray := prog_18_method_121_code
def y_R_copyOf : MethodName := ⟨"java/util/Arrays", "copyOf", "([BI)[B"⟩
theorem d_R_copyOf_0 : decode b_R_copyOf 0 = .ok (.iload_n 1, 1) := by decide +kernel
theorem d_R_copyOf_1 : decode b_R_copyOf 1 = .ok (.aload_n 0, 1) := by decide +kernel
theorem d_R_copyOf_2 : decode b_R_copyOf 2 = .ok (.arraylength, 1) := by decide +kernel
theorem d_R_copyOf_3 : decode b_R_copyOf 3 = .ok (.if_icmp .ne 11, 3) := by decide +kernel
theorem d_R_copyOf_6 : decode b_R_copyOf 6 = .ok (.aload_n 0, 1) := by decide +kernel
theorem d_R_copyOf_7 : decode b_R_copyOf 7 = .ok (.invokevirtual 310, 3) := by decide +kernel
theorem d_R_copyOf_10 : decode b_R_copyOf 10 = .ok (.checkcast 311, 3) := by decide +kernel
theorem d_R_copyOf_13 : decode b_R_copyOf 13 = .ok (.areturn, 1) := by decide +kernel
theorem d_R_copyOf_14 : decode b_R_copyOf 14 = .ok (.iload_n 1, 1) := by decide +kernel
theorem d_R_copyOf_15 : decode b_R_copyOf 15 = .ok (.newarray .byte, 2) := by decide +kernel
theorem d_R_copyOf_17 : decode b_R_copyOf 17 = .ok (.astore_n 2, 1) := by decide +kernel
theorem d_R_copyOf_18 : decode b_R_copyOf 18 = .ok (.aload_n 0, 1) := by decide +kernel
theorem d_R_copyOf_19 : decode b_R_copyOf 19 = .ok (.iconst 0, 1) := by decide +kernel
theorem d_R_copyOf_20 : decode b_R_copyOf 20 = .ok (.aload_n 2, 1) := by decide +kernel
theorem d_R_copyOf_21 : decode b_R_copyOf 21 = .ok (.iconst 0, 1) := by decide +kernel
theorem d_R_copyOf_22 : decode b_R_copyOf 22 = .ok (.aload_n 0, 1) := by decide +kernel
theorem d_R_copyOf_23 : decode b_R_copyOf 23 = .ok (.arraylength, 1) := by decide +kernel
theorem d_R_copyOf_24 : decode b_R_copyOf 24 = .ok (.iload_n 1, 1) := by decide +kernel
theorem d_R_copyOf_25 : decode b_R_copyOf 25 = .ok (.invokestatic 304, 3) := by decide +kernel
theorem d_R_copyOf_28 : decode b_R_copyOf 28 = .ok (.invokestatic 150, 3) := by decide +kernel
theorem d_R_copyOf_31 : decode b_R_copyOf 31 = .ok (.aload_n 2, 1) := by decide +kernel
theorem d_R_copyOf_32 : decode b_R_copyOf 32 = .ok (.areturn, 1) := by decide +kernel
abbrev b_A_isL1 : ByteArray := prog_4_method_68_code
def y_A_isL1 : MethodName := ⟨"java/lang/AbstractStringBuilder", "isLatin1", "()Z"⟩
theorem d_A_isL1_0 : decode b_A_isL1 0 = .ok (.getstatic 18, 3) := by decide +kernel
theorem d_A_isL1_3 : decode b_A_isL1 3 = .ok (.ifCond .eq 14, 3) := by decide +kernel
theorem d_A_isL1_6 : decode b_A_isL1 6 = .ok (.aload_n 0, 1) := by decide +kernel
theorem d_A_isL1_7 : decode b_A_isL1 7 = .ok (.getfield 22, 3) := by decide +kernel
theorem d_A_isL1_10 : decode b_A_isL1 10 = .ok (.ifCond .ne 7, 3) := by decide +kernel
theorem d_A_isL1_13 : decode b_A_isL1 13 = .ok (.iconst 1, 1) := by decide +kernel
theorem d_A_isL1_14 : decode b_A_isL1 14 = .ok (.goto 4, 3) := by decide +kernel
theorem d_A_isL1_17 : decode b_A_isL1 17 = .ok (.iconst 0, 1) := by decide +kernel
theorem d_A_isL1_18 : decode b_A_isL1 18 = .ok (.ireturn, 1) := by decide +kernel
abbrev b_N_canEnc : ByteArray := prog_14_method_3_code
def y_N_canEnc : MethodName := ⟨"java/lang/StringLatin1", "canEncode", "(C)Z"⟩
theorem d_N_canEnc_0 : decode b_N_canEnc 0 = .ok (.iload_n 0, 1) := by decide +kernel
theorem d_N_canEnc_1 : decode b_N_canEnc 1 = .ok (.sipush 255, 3) := by decide +kernel
theorem d_N_canEnc_4 : decode b_N_canEnc 4 = .ok (.if_icmp .gt 7, 3) := by decide +kernel
theorem d_N_canEnc_7 : decode b_N_canEnc 7 = .ok (.iconst 1, 1) := by decide +kernel
theorem d_N_canEnc_8 : decode b_N_canEnc 8 = .ok (.goto 4, 3) := by decide +kernel
theorem d_N_canEnc_11 : decode b_N_canEnc 11 = .ok (.iconst 0, 1) := by decide +kernel
theorem d_N_canEnc_12 : decode b_N_canEnc 12 = .ok (.ireturn, 1) := by decide +kernel
abbrev b_T_chk : ByteArray := prog_12_method_155_code
def y_T_chk : MethodName := ⟨"java/lang/String", "checkIndex", "(II)V"⟩
theorem d_T_chk_0 : decode b_T_chk 0 = .ok (.iload_n 0, 1) := by decide +kernel
theorem d_T_chk_1 : decode b_T_chk 1 = .ok (.iload_n 1, 1) := by decide +kernel
theorem d_T_chk_2 : decode b_T_chk 2 = .ok (.getstatic 1053, 3) := by decide +kernel
theorem d_T_chk_5 : decode b_T_chk 5 = .ok (.invokestatic 1059, 3) := by decide +kernel
theorem d_T_chk_8 : decode b_T_chk 8 = .ok (.pop, 1) := by decide +kernel
theorem d_T_chk_9 : decode b_T_chk 9 = .ok (.return_, 1) := by decide +kernel
abbrev b_O_chk : ByteArray := prog_20_method_11_code
def y_O_chk : MethodName := ⟨"jdk/internal/util/Preconditions", "checkIndex", "(IILjava/util/function/BiFunction;)I"⟩
theorem d_O_chk_0 : decode b_O_chk 0 = .ok (.iload_n 0, 1) := by decide +kernel
theorem d_O_chk_1 : decode b_O_chk 1 = .ok (.ifCond .lt 8, 3) := by decide +kernel
theorem d_O_chk_4 : decode b_O_chk 4 = .ok (.iload_n 0, 1) := by decide +kernel
theorem d_O_chk_5 : decode b_O_chk 5 = .ok (.iload_n 1, 1) := by decide +kernel
theorem d_O_chk_6 : decode b_O_chk 6 = .ok (.if_icmp .lt 10, 3) := by decide +kernel
theorem d_O_chk_9 : decode b_O_chk 9 = .ok (.aload_n 2, 1) := by decide +kernel
theorem d_O_chk_10 : decode b_O_chk 10 = .ok (.iload_n 0, 1) := by decide +kernel
theorem d_O_chk_11 : decode b_O_chk 11 = .ok (.iload_n 1, 1) := by decide +kernel
theorem d_O_chk_12 : decode b_O_chk 12 = .ok (.invokestatic 95, 3) := by decide +kernel
theorem d_O_chk_15 : decode b_O_chk 15 = .ok (.athrow, 1) := by decide +kernel
theorem d_O_chk_16 : decode b_O_chk 16 = .ok (.iload_n 0, 1) := by decide +kernel
theorem d_O_chk_17 : decode b_O_chk 17 = .ok (.ireturn, 1) := by decide +kernel
abbrev b_S_appS : ByteArray := prog_13_method_7_code
def y_S_appS : MethodName := ⟨"java/lang/StringBuilder", "append", "(Ljava/lang/String;)Ljava/lang/StringBuilder;"⟩
theorem d_S_appS_0 : decode b_S_appS 0 = .ok (.aload_n 0, 1) := by decide +kernel
theorem d_S_appS_1 : decode b_S_appS 1 = .ok (.aload_n 1, 1) := by decide +kernel
theorem d_S_appS_2 : decode b_S_appS 2 = .ok (.invokespecial 29, 3) := by decide +kernel
theorem d_S_appS_5 : decode b_S_appS 5 = .ok (.pop, 1) := by decide +kernel
theorem d_S_appS_6 : decode b_S_appS 6 = .ok (.aload_n 0, 1) := by decide +kernel
theorem d_S_appS_7 : decode b_S_appS 7 = .ok (.areturn, 1) := by decide +kernel
abbrev b_A_appS : ByteArray := prog_4_method_22_code
def y_A_appS : MethodName := ⟨"java/lang/AbstractStringBuilder", "append", "(Ljava/lang/String;)Ljava/lang/AbstractStringBuilder;"⟩
theorem d_A_appS_0 : decode b_A_appS 0 = .ok (.aload_n 1, 1) := by decide +kernel
theorem d_A_appS_1 : decode b_A_appS 1 = .ok (.ifnonnull 8, 3) := by decide +kernel
theorem d_A_appS_4 : decode b_A_appS 4 = .ok (.aload_n 0, 1) := by decide +kernel
theorem d_A_appS_5 : decode b_A_appS 5 = .ok (.invokevirtual 204, 3) := by decide +kernel
theorem d_A_appS_8 : decode b_A_appS 8 = .ok (.areturn, 1) := by decide +kernel
theorem d_A_appS_9 : decode b_A_appS 9 = .ok (.aload_n 1, 1) := by decide +kernel
theorem d_A_appS_10 : decode b_A_appS 10 = .ok (.invokevirtual 32, 3) := by decide +kernel
theorem d_A_appS_13 : decode b_A_appS 13 = .ok (.istore_n 2, 1) := by decide +kernel
theorem d_A_appS_14 : decode b_A_appS 14 = .ok (.aload_n 0, 1) := by decide +kernel
theorem d_A_appS_15 : decode b_A_appS 15 = .ok (.aload_n 0, 1) := by decide +kernel
theorem d_A_appS_16 : decode b_A_appS 16 = .ok (.getfield 79, 3) := by decide +kernel
theorem d_A_appS_19 : decode b_A_appS 19 = .ok (.iload_n 2, 1) := by decide +kernel
theorem d_A_appS_20 : decode b_A_appS 20 = .ok (.iadd, 1) := by decide +kernel
theorem d_A_appS_21 : decode b_A_appS 21 = .ok (.invokevirtual 100, 3) := by decide +kernel
theorem d_A_appS_24 : decode b_A_appS 24 = .ok (.aload_n 0, 1) := by decide +kernel
theorem d_A_appS_25 : decode b_A_appS 25 = .ok (.aload_n 0, 1) := by decide +kernel
theorem d_A_appS_26 : decode b_A_appS 26 = .ok (.getfield 79, 3) := by decide +kernel
theorem d_A_appS_29 : decode b_A_appS 29 = .ok (.aload_n 1, 1) := by decide +kernel
theorem d_A_appS_30 : decode b_A_appS 30 = .ok (.invokevirtual 208, 3) := by decide +kernel
theorem d_A_appS_33 : decode b_A_appS 33 = .ok (.aload_n 0, 1) := by decide +kernel
theorem d_A_appS_34 : decode b_A_appS 34 = .ok (.dup, 1) := by decide +kernel
theorem d_A_appS_35 : decode b_A_appS 35 = .ok (.getfield 79, 3) := by decide +kernel
theorem d_A_appS_38 : decode b_A_appS 38 = .ok (.iload_n 2, 1) := by decide +kernel
theorem d_A_appS_39 : decode b_A_appS 39 = .ok (.iadd, 1) := by decide +kernel
theorem d_A_appS_40 : decode b_A_appS 40 = .ok (.putfield 79, 3) := by decide +kernel
theorem d_A_appS_43 : decode b_A_appS 43 = .ok (.aload_n 0, 1) := by decide +kernel
theorem d_A_appS_44 : decode b_A_appS 44 = .ok (.areturn, 1) := by decide +kernel
abbrev b_T_len : ByteArray := prog_12_method_54_code
def y_T_len : MethodName := ⟨"java/lang/String", "length", "()I"⟩
theorem d_T_len_0 : decode b_T_len 0 = .ok (.aload_n 0, 1) := by decide +kernel
theorem d_T_len_1 : decode b_T_len 1 = .ok (.getfield 9, 3) := by decide +kernel
theorem d_T_len_4 : decode b_T_len 4 = .ok (.arraylength, 1) := by decide +kernel
theorem d_T_len_5 : decode b_T_len 5 = .ok (.aload_n 0, 1) := by decide +kernel
theorem d_T_len_6 : decode b_T_len 6 = .ok (.invokevirtual 335, 3) := by decide +kernel
theorem d_T_len_9 : decode b_T_len 9 = .ok (.ishr, 1) := by decide +kernel
theorem d_T_len_10 : decode b_T_len 10 = .ok (.ireturn, 1) := by decide +kernel
abbrev b_T_coder : ByteArray := prog_12_method_152_code
def y_T_coder : MethodName := ⟨"java/lang/String", "coder", "()B"⟩
theorem d_T_coder_0 : decode b_T_coder 0 = .ok (.getstatic 38, 3) := by decide +kernel
theorem d_T_coder_3 : decode b_T_coder 3 = .ok (.ifCond .eq 10, 3) := by decide +kernel
theorem d_T_coder_6 : decode b_T_coder 6 = .ok (.aload_n 0, 1) := by decide +kernel
theorem d_T_coder_7 : decode b_T_coder 7 = .ok (.getfield 15, 3) := by decide +kernel
theorem d_T_coder_10 : decode b_T_coder 10 = .ok (.goto 4, 3) := by decide +kernel
theorem d_T_coder_13 : decode b_T_coder 13 = .ok (.iconst 1, 1) := by decide +kernel
theorem d_T_coder_14 : decode b_T_coder 14 = .ok (.ireturn, 1) := by decide +kernel
abbrev b_A_putS : ByteArray := prog_4_method_73_code
def y_A_putS : MethodName := ⟨"java/lang/AbstractStringBuilder", "putStringAt", "(ILjava/lang/String;)V"⟩
theorem d_A_putS_0 : decode b_A_putS 0 = .ok (.aload_n 0, 1) := by decide +kernel
theorem d_A_putS_1 : decode b_A_putS 1 = .ok (.aload_n 2, 1) := by decide +kernel
theorem d_A_putS_2 : decode b_A_putS 2 = .ok (.invokevirtual 397, 3) := by decide +kernel
theorem d_A_putS_5 : decode b_A_putS 5 = .ok (.aload_n 2, 1) := by decide +kernel
theorem d_A_putS_6 : decode b_A_putS 6 = .ok (.aload_n 0, 1) := by decide +kernel
theorem d_A_putS_7 : decode b_A_putS 7 = .ok (.getfield 15, 3) := by decide +kernel
theorem d_A_putS_10 : decode b_A_putS 10 = .ok (.iload_n 1, 1) := by decide +kernel
theorem d_A_putS_11 : decode b_A_putS 11 = .ok (.aload_n 0, 1) := by decide +kernel
theorem d_A_putS_12 : decode b_A_putS 12 = .ok (.getfield 22, 3) := by decide +kernel
theorem d_A_putS_15 : decode b_A_putS 15 = .ok (.invokevirtual 399, 3) := by decide +kernel
theorem d_A_putS_18 : decode b_A_putS 18 = .ok (.return_, 1) := by decide +kernel
abbrev b_A_infl : ByteArray := prog_4_method_71_code
def y_A_infl : MethodName := ⟨"java/lang/AbstractStringBuilder", "inflateIfNeededFor", "(Ljava/lang/String;)V"⟩
theorem d_A_infl_0 : decode b_A_infl 0 = .ok (.getstatic 18, 3) := by decide +kernel
theorem d_A_infl_3 : decode b_A_infl 3 = .ok (.ifCond .eq 18, 3) := by decide +kernel
theorem d_A_infl_6 : decode b_A_infl 6 = .ok (.aload_n 0, 1) := by decide +kernel
theorem d_A_infl_7 : decode b_A_infl 7 = .ok (.getfield 22, 3) := by decide +kernel
theorem d_A_infl_10 : decode b_A_infl 10 = .ok (.aload_n 1, 1) := by decide +kernel
theorem d_A_infl_11 : decode b_A_infl 11 = .ok (.invokevirtual 40, 3) := by decide +kernel
theorem d_A_infl_14 : decode b_A_infl 14 = .ok (.if_icmp .eq 7, 3) := by decide +kernel
theorem d_A_infl_17 : decode b_A_infl 17 = .ok (.aload_n 0, 1) := by decide +kernel
theorem d_A_infl_18 : decode b_A_infl 18 = .ok (.invokevirtual 195, 3) := by decide +kernel
theorem d_A_infl_21 : decode b_A_infl 21 = .ok (.return_, 1) := by decide +kernel
abbrev b_T_getB : ByteArray := prog_12_method_147_code
def y_T_getB : MethodName := ⟨"java/lang/String", "getBytes", "([BIB)V"⟩
theorem d_T_getB_0 : decode b_T_getB 0 = .ok (.aload_n 0, 1) := by decide +kernel
theorem d_T_getB_1 : decode b_T_getB 1 = .ok (.invokevirtual 335, 3) := by decide +kernel
theorem d_T_getB_4 : decode b_T_getB 4 = .ok (.iload_n 3, 1) := by decide +kernel
theorem d_T_getB_5 : decode b_T_getB 5 = .ok (.if_icmp .ne 23, 3) := by decide +kernel
theorem d_T_getB_8 : decode b_T_getB 8 = .ok (.aload_n 0, 1) := by decide +kernel
theorem d_T_getB_9 : decode b_T_getB 9 = .ok (.getfield 9, 3) := by decide +kernel
theorem d_T_getB_12 : decode b_T_getB 12 = .ok (.iconst 0, 1) := by decide +kernel
theorem d_T_getB_13 : decode b_T_getB 13 = .ok (.aload_n 1, 1) := by decide +kernel
theorem d_T_getB_14 : decode b_T_getB 14 = .ok (.iload_n 2, 1) := by decide +kernel
theorem d_T_getB_15 : decode b_T_getB 15 = .ok (.iload_n 3, 1) := by decide +kernel
theorem d_T_getB_16 : decode b_T_getB 16 = .ok (.ishl, 1) := by decide +kernel
theorem d_T_getB_17 : decode b_T_getB 17 = .ok (.aload_n 0, 1) := by decide +kernel
theorem d_T_getB_18 : decode b_T_getB 18 = .ok (.getfield 9, 3) := by decide +kernel
theorem d_T_getB_21 : decode b_T_getB 21 = .ok (.arraylength, 1) := by decide +kernel
theorem d_T_getB_22 : decode b_T_getB 22 = .ok (.invokestatic 212, 3) := by decide +kernel
theorem d_T_getB_25 : decode b_T_getB 25 = .ok (.goto 18, 3) := by decide +kernel
theorem d_T_getB_28 : decode b_T_getB 28 = .ok (.aload_n 0, 1) := by decide +kernel
theorem d_T_getB_29 : decode b_T_getB 29 = .ok (.getfield 9, 3) := by decide +kernel
theorem d_T_getB_32 : decode b_T_getB 32 = .ok (.iconst 0, 1) := by decide +kernel
theorem d_T_getB_33 : decode b_T_getB 33 = .ok (.aload_n 1, 1) := by decide +kernel
theorem d_T_getB_34 : decode b_T_getB 34 = .ok (.iload_n 2, 1) := by decide +kernel
theorem d_T_getB_35 : decode b_T_getB 35 = .ok (.aload_n 0, 1) := by decide +kernel
theorem d_T_getB_36 : decode b_T_getB 36 = .ok (.getfield 9, 3) := by decide +kernel
theorem d_T_getB_39 : decode b_T_getB 39 = .ok (.arraylength, 1) := by decide +kernel
theorem d_T_getB_40 : decode b_T_getB 40 = .ok (.invokestatic 106, 3) := by decide +kernel
theorem d_T_getB_43 : decode b_T_getB 43 = .ok (.return_, 1) := by decide +kernel
abbrev b_S_appI : ByteArray := prog_13_method_15_code
def y_S_appI : MethodName := ⟨"java/lang/StringBuilder", "append", "(I)Ljava/lang/StringBuilder;"⟩
theorem d_S_appI_0 : decode b_S_appI 0 = .ok (.aload_n 0, 1) := by decide +kernel
theorem d_S_appI_1 : decode b_S_appI 1 = .ok (.iload_n 1, 1) := by decide +kernel
theorem d_S_appI_2 : decode b_S_appI 2 = .ok (.invokespecial 53, 3) := by decide +kernel
theorem d_S_appI_5 : decode b_S_appI 5 = .ok (.pop, 1) := by decide +kernel
theorem d_S_appI_6 : decode b_S_appI 6 = .ok (.aload_n 0, 1) := by decide +kernel
theorem d_S_appI_7 : decode b_S_appI 7 = .ok (.areturn, 1) := by decide +kernel
abbrev b_A_appI : ByteArray := prog_4_method_32_code
def y_A_appI : MethodName := ⟨"java/lang/AbstractStringBuilder", "append", "(I)Ljava/lang/AbstractStringBuilder;"⟩
theorem d_A_appI_0 : decode b_A_appI 0 = .ok (.aload_n 0, 1) := by decide +kernel
theorem d_A_appI_1 : decode b_A_appI 1 = .ok (.getfield 79, 3) := by decide +kernel
theorem d_A_appI_4 : decode b_A_appI 4 = .ok (.istore_n 2, 1) := by decide +kernel
theorem d_A_appI_5 : decode b_A_appI 5 = .ok (.iload_n 2, 1) := by decide +kernel
theorem d_A_appI_6 : decode b_A_appI 6 = .ok (.iload_n 1, 1) := by decide +kernel
theorem d_A_appI_7 : decode b_A_appI 7 = .ok (.invokestatic 245, 3) := by decide +kernel
theorem d_A_appI_10 : decode b_A_appI 10 = .ok (.iadd, 1) := by decide +kernel
theorem d_A_appI_11 : decode b_A_appI 11 = .ok (.istore_n 3, 1) := by decide +kernel
theorem d_A_appI_12 : decode b_A_appI 12 = .ok (.aload_n 0, 1) := by decide +kernel
theorem d_A_appI_13 : decode b_A_appI 13 = .ok (.iload_n 3, 1) := by decide +kernel
theorem d_A_appI_14 : decode b_A_appI 14 = .ok (.invokevirtual 100, 3) := by decide +kernel
theorem d_A_appI_17 : decode b_A_appI 17 = .ok (.aload_n 0, 1) := by decide +kernel
theorem d_A_appI_18 : decode b_A_appI 18 = .ok (.invokevirtual 83, 3) := by decide +kernel
theorem d_A_appI_21 : decode b_A_appI 21 = .ok (.ifCond .eq 16, 3) := by decide +kernel
theorem d_A_appI_24 : decode b_A_appI 24 = .ok (.iload_n 1, 1) := by decide +kernel
theorem d_A_appI_25 : decode b_A_appI 25 = .ok (.iload_n 3, 1) := by decide +kernel
theorem d_A_appI_26 : decode b_A_appI 26 = .ok (.aload_n 0, 1) := by decide +kernel
theorem d_A_appI_27 : decode b_A_appI 27 = .ok (.getfield 15, 3) := by decide +kernel
theorem d_A_appI_30 : decode b_A_appI 30 = .ok (.invokestatic 248, 3) := by decide +kernel
theorem d_A_appI_33 : decode b_A_appI 33 = .ok (.pop, 1) := by decide +kernel
theorem d_A_appI_34 : decode b_A_appI 34 = .ok (.goto 14, 3) := by decide +kernel
theorem d_A_appI_37 : decode b_A_appI 37 = .ok (.iload_n 1, 1) := by decide +kernel
theorem d_A_appI_38 : decode b_A_appI 38 = .ok (.iload_n 2, 1) := by decide +kernel
theorem d_A_appI_39 : decode b_A_appI 39 = .ok (.iload_n 3, 1) := by decide +kernel
theorem d_A_appI_40 : decode b_A_appI 40 = .ok (.aload_n 0, 1) := by decide +kernel
theorem d_A_appI_41 : decode b_A_appI 41 = .ok (.getfield 15, 3) := by decide +kernel
theorem d_A_appI_44 : decode b_A_appI 44 = .ok (.invokestatic 251, 3) := by decide +kernel
theorem d_A_appI_47 : decode b_A_appI 47 = .ok (.pop, 1) := by decide +kernel
theorem d_A_appI_48 : decode b_A_appI 48 = .ok (.aload_n 0, 1) := by decide +kernel
theorem d_A_appI_49 : decode b_A_appI 49 = .ok (.iload_n 3, 1) := by decide +kernel
theorem d_A_appI_50 : decode b_A_appI 50 = .ok (.putfield 79, 3) := by decide +kernel
theorem d_A_appI_53 : decode b_A_appI 53 = .ok (.aload_n 0, 1) := by decide +kernel
theorem d_A_appI_54 : decode b_A_appI 54 = .ok (.areturn, 1) := by decide +kernel
abbrev b_I_size : ByteArray := prog_9_method_13_code
def y_I_size : MethodName := ⟨"java/lang/Integer", "stringSize", "(I)I"⟩
theorem d_I_size_0 : decode b_I_size 0 = .ok (.iconst 1, 1) := by decide +kernel
theorem d_I_size_1 : decode b_I_size 1 = .ok (.istore_n 1, 1) := by decide +kernel
theorem d_I_size_2 : decode b_I_size 2 = .ok (.iload_n 0, 1) := by decide +kernel
theorem d_I_size_3 : decode b_I_size 3 = .ok (.ifCond .lt 8, 3) := by decide +kernel
theorem d_I_size_6 : decode b_I_size 6 = .ok (.iconst 0, 1) := by decide +kernel
theorem d_I_size_7 : decode b_I_size 7 = .ok (.istore_n 1, 1) := by decide +kernel
theorem d_I_size_8 : decode b_I_size 8 = .ok (.iload_n 0, 1) := by decide +kernel
theorem d_I_size_9 : decode b_I_size 9 = .ok (.ineg, 1) := by decide +kernel
theorem d_I_size_10 : decode b_I_size 10 = .ok (.istore_n 0, 1) := by decide +kernel
theorem d_I_size_11 : decode b_I_size 11 = .ok (.bipush (-10), 2) := by decide +kernel
theorem d_I_size_13 : decode b_I_size 13 = .ok (.istore_n 2, 1) := by decide +kernel
theorem d_I_size_14 : decode b_I_size 14 = .ok (.iconst 1, 1) := by decide +kernel
theorem d_I_size_15 : decode b_I_size 15 = .ok (.istore_n 3, 1) := by decide +kernel
theorem d_I_size_16 : decode b_I_size 16 = .ok (.iload_n 3, 1) := by decide +kernel
theorem d_I_size_17 : decode b_I_size 17 = .ok (.bipush 10, 2) := by decide +kernel
theorem d_I_size_19 : decode b_I_size 19 = .ok (.if_icmp .ge 23, 3) := by decide +kernel
theorem d_I_size_22 : decode b_I_size 22 = .ok (.iload_n 0, 1) := by decide +kernel
theorem d_I_size_23 : decode b_I_size 23 = .ok (.iload_n 2, 1) := by decide +kernel
theorem d_I_size_24 : decode b_I_size 24 = .ok (.if_icmp .le 7, 3) := by decide +kernel
theorem d_I_size_27 : decode b_I_size 27 = .ok (.iload_n 3, 1) := by decide +kernel
theorem d_I_size_28 : decode b_I_size 28 = .ok (.iload_n 1, 1) := by decide +kernel
theorem d_I_size_29 : decode b_I_size 29 = .ok (.iadd, 1) := by decide +kernel
theorem d_I_size_30 : decode b_I_size 30 = .ok (.ireturn, 1) := by decide +kernel
theorem d_I_size_31 : decode b_I_size 31 = .ok (.bipush 10, 2) := by decide +kernel
theorem d_I_size_33 : decode b_I_size 33 = .ok (.iload_n 2, 1) := by decide +kernel
theorem d_I_size_34 : decode b_I_size 34 = .ok (.imul, 1) := by decide +kernel
theorem d_I_size_35 : decode b_I_size 35 = .ok (.istore_n 2, 1) := by decide +kernel
theorem d_I_size_36 : decode b_I_size 36 = .ok (.iinc 3 1, 3) := by decide +kernel
theorem d_I_size_39 : decode b_I_size 39 = .ok (.goto (-23), 3) := by decide +kernel
theorem d_I_size_42 : decode b_I_size 42 = .ok (.bipush 10, 2) := by decide +kernel
theorem d_I_size_44 : decode b_I_size 44 = .ok (.iload_n 1, 1) := by decide +kernel
theorem d_I_size_45 : decode b_I_size 45 = .ok (.iadd, 1) := by decide +kernel
theorem d_I_size_46 : decode b_I_size 46 = .ok (.ireturn, 1) := by decide +kernel
abbrev b_I_chars : ByteArray := prog_9_method_12_code
def y_I_chars : MethodName := ⟨"java/lang/Integer", "getChars", "(II[B)I"⟩
theorem d_I_chars_0 : decode b_I_chars 0 = .ok (.iload_n 1, 1) := by decide +kernel
theorem d_I_chars_1 : decode b_I_chars 1 = .ok (.istore 5, 2) := by decide +kernel
theorem d_I_chars_3 : decode b_I_chars 3 = .ok (.iload_n 0, 1) := by decide +kernel
theorem d_I_chars_4 : decode b_I_chars 4 = .ok (.ifCond .ge 7, 3) := by decide +kernel
theorem d_I_chars_7 : decode b_I_chars 7 = .ok (.iconst 1, 1) := by decide +kernel
theorem d_I_chars_8 : decode b_I_chars 8 = .ok (.goto 4, 3) := by decide +kernel
theorem d_I_chars_11 : decode b_I_chars 11 = .ok (.iconst 0, 1) := by decide +kernel
theorem d_I_chars_12 : decode b_I_chars 12 = .ok (.istore 6, 2) := by decide +kernel
theorem d_I_chars_14 : decode b_I_chars 14 = .ok (.iload 6, 2) := by decide +kernel
theorem d_I_chars_16 : decode b_I_chars 16 = .ok (.ifCond .ne 6, 3) := by decide +kernel
theorem d_I_chars_19 : decode b_I_chars 19 = .ok (.iload_n 0, 1) := by decide +kernel
theorem d_I_chars_20 : decode b_I_chars 20 = .ok (.ineg, 1) := by decide +kernel
theorem d_I_chars_21 : decode b_I_chars 21 = .ok (.istore_n 0, 1) := by decide +kernel
theorem d_I_chars_22 : decode b_I_chars 22 = .ok (.iload_n 0, 1) := by decide +kernel
theorem d_I_chars_23 : decode b_I_chars 23 = .ok (.bipush (-100), 2) := by decide +kernel
theorem d_I_chars_25 : decode b_I_chars 25 = .ok (.if_icmp .gt 47, 3) := by decide +kernel
theorem d_I_chars_28 : decode b_I_chars 28 = .ok (.iload_n 0, 1) := by decide +kernel
theorem d_I_chars_29 : decode b_I_chars 29 = .ok (.bipush 100, 2) := by decide +kernel
theorem d_I_chars_31 : decode b_I_chars 31 = .ok (.idiv, 1) := by decide +kernel
theorem d_I_chars_32 : decode b_I_chars 32 = .ok (.istore_n 3, 1) := by decide +kernel
theorem d_I_chars_33 : decode b_I_chars 33 = .ok (.iload_n 3, 1) := by decide +kernel
theorem d_I_chars_34 : decode b_I_chars 34 = .ok (.bipush 100, 2) := by decide +kernel
theorem d_I_chars_36 : decode b_I_chars 36 = .ok (.imul, 1) := by decide +kernel
theorem d_I_chars_37 : decode b_I_chars 37 = .ok (.iload_n 0, 1) := by decide +kernel
theorem d_I_chars_38 : decode b_I_chars 38 = .ok (.isub, 1) := by decide +kernel
theorem d_I_chars_39 : decode b_I_chars 39 = .ok (.istore 4, 2) := by decide +kernel
theorem d_I_chars_41 : decode b_I_chars 41 = .ok (.iload_n 3, 1) := by decide +kernel
theorem d_I_chars_42 : decode b_I_chars 42 = .ok (.istore_n 0, 1) := by decide +kernel
theorem d_I_chars_43 : decode b_I_chars 43 = .ok (.aload_n 2, 1) := by decide +kernel
theorem d_I_chars_44 : decode b_I_chars 44 = .ok (.iinc 5 (-1), 3) := by decide +kernel
theorem d_I_chars_47 : decode b_I_chars 47 = .ok (.iload 5, 2) := by decide +kernel
theorem d_I_chars_49 : decode b_I_chars 49 = .ok (.getstatic 83, 3) := by decide +kernel
theorem d_I_chars_52 : decode b_I_chars 52 = .ok (.iload 4, 2) := by decide +kernel
theorem d_I_chars_54 : decode b_I_chars 54 = .ok (.baload, 1) := by decide +kernel
theorem d_I_chars_55 : decode b_I_chars 55 = .ok (.bastore, 1) := by decide +kernel
theorem d_I_chars_56 : decode b_I_chars 56 = .ok (.aload_n 2, 1) := by decide +kernel
theorem d_I_chars_57 : decode b_I_chars 57 = .ok (.iinc 5 (-1), 3) := by decide +kernel
theorem d_I_chars_60 : decode b_I_chars 60 = .ok (.iload 5, 2) := by decide +kernel
theorem d_I_chars_62 : decode b_I_chars 62 = .ok (.getstatic 87, 3) := by decide +kernel
theorem d_I_chars_65 : decode b_I_chars 65 = .ok (.iload 4, 2) := by decide +kernel
theorem d_I_chars_67 : decode b_I_chars 67 = .ok (.baload, 1) := by decide +kernel
theorem d_I_chars_68 : decode b_I_chars 68 = .ok (.bastore, 1) := by decide +kernel
theorem d_I_chars_69 : decode b_I_chars 69 = .ok (.goto (-47), 3) := by decide +kernel
theorem d_I_chars_72 : decode b_I_chars 72 = .ok (.aload_n 2, 1) := by decide +kernel
theorem d_I_chars_73 : decode b_I_chars 73 = .ok (.iinc 5 (-1), 3) := by decide +kernel
theorem d_I_chars_76 : decode b_I_chars 76 = .ok (.iload 5, 2) := by decide +kernel
theorem d_I_chars_78 : decode b_I_chars 78 = .ok (.getstatic 83, 3) := by decide +kernel
theorem d_I_chars_81 : decode b_I_chars 81 = .ok (.iload_n 0, 1) := by decide +kernel
theorem d_I_chars_82 : decode b_I_chars 82 = .ok (.ineg, 1) := by decide +kernel
theorem d_I_chars_83 : decode b_I_chars 83 = .ok (.baload, 1) := by decide +kernel
theorem d_I_chars_84 : decode b_I_chars 84 = .ok (.bastore, 1) := by decide +kernel
theorem d_I_chars_85 : decode b_I_chars 85 = .ok (.iload_n 0, 1) := by decide +kernel
theorem d_I_chars_86 : decode b_I_chars 86 = .ok (.bipush (-9), 2) := by decide +kernel
theorem d_I_chars_88 : decode b_I_chars 88 = .ok (.if_icmp .ge 16, 3) := by decide +kernel
theorem d_I_chars_91 : decode b_I_chars 91 = .ok (.aload_n 2, 1) := by decide +kernel
theorem d_I_chars_92 : decode b_I_chars 92 = .ok (.iinc 5 (-1), 3) := by decide +kernel
theorem d_I_chars_95 : decode b_I_chars 95 = .ok (.iload 5, 2) := by decide +kernel
theorem d_I_chars_97 : decode b_I_chars 97 = .ok (.getstatic 87, 3) := by decide +kernel
theorem d_I_chars_100 : decode b_I_chars 100 = .ok (.iload_n 0, 1) := by decide +kernel
theorem d_I_chars_101 : decode b_I_chars 101 = .ok (.ineg, 1) := by decide +kernel
theorem d_I_chars_102 : decode b_I_chars 102 = .ok (.baload, 1) := by decide +kernel
theorem d_I_chars_103 : decode b_I_chars 103 = .ok (.bastore, 1) := by decide +kernel
theorem d_I_chars_104 : decode b_I_chars 104 = .ok (.iload 6, 2) := by decide +kernel
theorem d_I_chars_106 : decode b_I_chars 106 = .ok (.ifCond .eq 12, 3) := by decide +kernel
theorem d_I_chars_109 : decode b_I_chars 109 = .ok (.aload_n 2, 1) := by decide +kernel
theorem d_I_chars_110 : decode b_I_chars 110 = .ok (.iinc 5 (-1), 3) := by decide +kernel
theorem d_I_chars_113 : decode b_I_chars 113 = .ok (.iload 5, 2) := by decide +kernel
theorem d_I_chars_115 : decode b_I_chars 115 = .ok (.bipush 45, 2) := by decide +kernel
theorem d_I_chars_117 : decode b_I_chars 117 = .ok (.bastore, 1) := by decide +kernel
theorem d_I_chars_118 : decode b_I_chars 118 = .ok (.iload 5, 2) := by decide +kernel
theorem d_I_chars_120 : decode b_I_chars 120 = .ok (.ireturn, 1) := by decide +kernel
abbrev b_S_len : ByteArray := prog_13_method_93_code
def y_S_len : MethodName := ⟨"java/lang/StringBuilder", "length", "()I"⟩
theorem d_S_len_0 : decode b_S_len 0 = .ok (.aload_n 0, 1) := by decide +kernel
theorem d_S_len_1 : decode b_S_len 1 = .ok (.invokespecial 343, 3) := by decide +kernel
theorem d_S_len_4 : decode b_S_len 4 = .ok (.ireturn, 1) := by decide +kernel
abbrev b_A_len : ByteArray := prog_4_method_6_code
def y_A_len : MethodName := ⟨"java/lang/AbstractStringBuilder", "length", "()I"⟩
theorem d_A_len_0 : decode b_A_len 0 = .ok (.aload_n 0, 1) := by decide +kernel
theorem d_A_len_1 : decode b_A_len 1 = .ok (.getfield 79, 3) := by decide +kernel
theorem d_A_len_4 : decode b_A_len 4 = .ok (.ireturn, 1) := by decide +kernel
abbrev b_S_at : ByteArray := prog_13_method_88_code
def y_S_at : MethodName := ⟨"java/lang/StringBuilder", "charAt", "(I)C"⟩
theorem d_S_at_0 : decode b_S_at 0 = .ok (.aload_n 0, 1) := by decide +kernel
theorem d_S_at_1 : decode b_S_at 1 = .ok (.iload_n 1, 1) := by decide +kernel
theorem d_S_at_2 : decode b_S_at 2 = .ok (.invokespecial 329, 3) := by decide +kernel
theorem d_S_at_5 : decode b_S_at 5 = .ok (.ireturn, 1) := by decide +kernel
abbrev b_A_at : ByteArray := prog_4_method_14_code
def y_A_at : MethodName := ⟨"java/lang/AbstractStringBuilder", "charAt", "(I)C"⟩
theorem d_A_at_0 : decode b_A_at 0 = .ok (.aload_n 0, 1) := by decide +kernel
theorem d_A_at_1 : decode b_A_at 1 = .ok (.getfield 22, 3) := by decide +kernel
theorem d_A_at_4 : decode b_A_at 4 = .ok (.istore_n 2, 1) := by decide +kernel
theorem d_A_at_5 : decode b_A_at 5 = .ok (.aload_n 0, 1) := by decide +kernel
theorem d_A_at_6 : decode b_A_at 6 = .ok (.getfield 15, 3) := by decide +kernel
theorem d_A_at_9 : decode b_A_at 9 = .ok (.astore_n 3, 1) := by decide +kernel
theorem d_A_at_10 : decode b_A_at 10 = .ok (.aload_n 0, 1) := by decide +kernel
theorem d_A_at_11 : decode b_A_at 11 = .ok (.getfield 79, 3) := by decide +kernel
theorem d_A_at_14 : decode b_A_at 14 = .ok (.aload_n 3, 1) := by decide +kernel
theorem d_A_at_15 : decode b_A_at 15 = .ok (.arraylength, 1) := by decide +kernel
theorem d_A_at_16 : decode b_A_at 16 = .ok (.iload_n 2, 1) := by decide +kernel
theorem d_A_at_17 : decode b_A_at 17 = .ok (.ishr, 1) := by decide +kernel
theorem d_A_at_18 : decode b_A_at 18 = .ok (.invokestatic 138, 3) := by decide +kernel
theorem d_A_at_21 : decode b_A_at 21 = .ok (.istore 4, 2) := by decide +kernel
theorem d_A_at_23 : decode b_A_at 23 = .ok (.iload_n 1, 1) := by decide +kernel
theorem d_A_at_24 : decode b_A_at 24 = .ok (.iload 4, 2) := by decide +kernel
theorem d_A_at_26 : decode b_A_at 26 = .ok (.invokestatic 144, 3) := by decide +kernel
theorem d_A_at_29 : decode b_A_at 29 = .ok (.iload_n 2, 1) := by decide +kernel
theorem d_A_at_30 : decode b_A_at 30 = .ok (.ifCond .ne 12, 3) := by decide +kernel
theorem d_A_at_33 : decode b_A_at 33 = .ok (.aload_n 3, 1) := by decide +kernel
theorem d_A_at_34 : decode b_A_at 34 = .ok (.iload_n 1, 1) := by decide +kernel
theorem d_A_at_35 : decode b_A_at 35 = .ok (.baload, 1) := by decide +kernel
theorem d_A_at_36 : decode b_A_at 36 = .ok (.sipush 255, 3) := by decide +kernel
theorem d_A_at_39 : decode b_A_at 39 = .ok (.iand, 1) := by decide +kernel
theorem d_A_at_40 : decode b_A_at 40 = .ok (.i2c, 1) := by decide +kernel
theorem d_A_at_41 : decode b_A_at 41 = .ok (.ireturn, 1) := by decide +kernel
theorem d_A_at_42 : decode b_A_at 42 = .ok (.aload_n 3, 1) := by decide +kernel
theorem d_A_at_43 : decode b_A_at 43 = .ok (.iload_n 1, 1) := by decide +kernel
theorem d_A_at_44 : decode b_A_at 44 = .ok (.invokestatic 148, 3) := by decide +kernel
theorem d_A_at_47 : decode b_A_at 47 = .ok (.ireturn, 1) := by decide +kernel
def tkP (own : String) (i : Nat) (y : MethodName) (b : ByteArray) (maxL : Nat) (r : Option FieldType) (n : Nat) : Prop := Cond.methodLink own i y ∈ TT ∧ Cond.instanceMethod y ∈ TT ∧ Cond.initialized y.cls ∈ TT ∧ Cond.code y b maxL r ∈ TT ∧ (y.cls ≠ "java/lang/invoke/MethodHandle" ∧ y.cls ≠ "java/lang/invoke/VarHandle") ∧ (parseMethodDescriptor y.desc).map (fun d => d.parameters.length) = some n
def tkU (own : String) (i : Nat) (y : MethodName) (b : ByteArray) (maxL : Nat) (r : Option FieldType) (n : Nat) : Prop := Cond.methodLink own i y ∈ TT ∧ Cond.sameMethod y.cls y.cls y.name y.desc ∈ TT ∧ Cond.superclass own y.cls ∈ TT ∧ Cond.instanceMethod y ∈ TT ∧ Cond.initialized y.cls ∈ TT ∧ Cond.code y b maxL r ∈ TT ∧ (y.name ≠ "<init>") ∧ (parseMethodDescriptor y.desc).map (fun d => d.parameters.length) = some n
def tkI (own : String) (i : Nat) (y : MethodName) (b : ByteArray) (maxL : Nat) (r : Option FieldType) (n : Nat) : Prop := Cond.methodLink own i y ∈ TT ∧ Cond.instanceMethod y ∈ TT ∧ Cond.initialized y.cls ∈ TT ∧ Cond.code y b maxL r ∈ TT ∧ ((y.cls ≠ "java/lang/invoke/MethodHandle" ∧ y.cls ≠ "java/lang/invoke/VarHandle") ∧ y.name = "<init>") ∧ (parseMethodDescriptor y.desc).map (fun d => d.parameters.length) = some n
/-- private methods of a StringBuilder's superclass: what is selected -/
def sP : List Cond := [.selects RS y_A_ens y_A_ens, .selects RS y_A_newCap y_A_newCap, .selects RS y_A_putS y_A_putS, .selects RS y_A_infl y_A_infl]
theorem lk_X_199 : tkI RX 199 y_S_init b_S_init 1 none 0 := ⟨TT_t 338 (by decide +kernel) rfl, TT_t 339 (by decide +kernel) rfl, TT_t 11 (by decide +kernel) rfl, TT_t 340 (by decide +kernel) rfl, by decide +kernel, by decide +kernel⟩
theorem lk_X_204 : tkV RX 204 "java/lang/StringBuilder" y_S_appC b_S_appC 2 (some (.object "java/lang/StringBuilder")) 1 := ⟨TT_t 369 (by decide +kernel) rfl, TT_t 370 (by decide +kernel) rfl, TT_t 371 (by decide +kernel) rfl, TT_t 11 (by decide +kernel) rfl, TT_t 372 (by decide +kernel) rfl, by decide +kernel, by decide +kernel⟩
theorem lk_X_212 : tkV RX 212 "java/lang/StringBuilder" y_S_appS b_S_appS 2 (some (.object "java/lang/StringBuilder")) 1 := ⟨TT_t 466 (by decide +kernel) rfl, TT_t 467 (by decide +kernel) rfl, TT_t 468 (by decide +kernel) rfl, TT_t 11 (by decide +kernel) rfl, TT_t 469 (by decide +kernel) rfl, by decide +kernel, by decide +kernel⟩
theorem lk_X_222 : tkV RX 222 "java/lang/StringBuilder" y_S_appI b_S_appI 2 (some (.object "java/lang/StringBuilder")) 1 := ⟨TT_t 519 (by decide +kernel) rfl, TT_t 520 (by decide +kernel) rfl, TT_t 521 (by decide +kernel) rfl, TT_t 11 (by decide +kernel) rfl, TT_t 522 (by decide +kernel) rfl, by decide +kernel, by decide +kernel⟩
theorem lk_X_153 : tkV RX 153 "java/lang/StringBuilder" y_S_len b_S_len 1 (some .int) 0 := ⟨TT_t 544 (by decide +kernel) rfl, TT_t 545 (by decide +kernel) rfl, TT_t 546 (by decide +kernel) rfl, TT_t 11 (by decide +kernel) rfl, TT_t 547 (by decide +kernel) rfl, by decide +kernel, by decide +kernel⟩
theorem lk_X_161 : tkV RX 161 "java/lang/StringBuilder" y_S_at b_S_at 2 (some .char) 1 := ⟨TT_t 559 (by decide +kernel) rfl, TT_t 560 (by decide +kernel) rfl, TT_t 561 (by decide +kernel) rfl, TT_t 11 (by decide +kernel) rfl, TT_t 562 (by decide +kernel) rfl, by decide +kernel, by decide +kernel⟩
theorem lk_S_1 : tkI RS 1 y_A_init b_A_init 2 none 1 := ⟨TT_t 341 (by decide +kernel) rfl, TT_t 342 (by decide +kernel) rfl, TT_t 10 (by decide +kernel) rfl, TT_t 343 (by decide +kernel) rfl, by decide +kernel, by decide +kernel⟩
theorem lk_S_50 : tkU RS 50 y_A_appC b_A_appC 2 (some (.object "java/lang/AbstractStringBuilder")) 1 := ⟨TT_t 373 (by decide +kernel) rfl, TT_t 771 (by decide +kernel) rfl, TT_t 365 (by decide +kernel) rfl, TT_t 374 (by decide +kernel) rfl, TT_t 10 (by decide +kernel) rfl, TT_t 375 (by decide +kernel) rfl, by decide +kernel, by decide +kernel⟩
theorem lk_S_29 : tkU RS 29 y_A_appS b_A_appS 3 (some (.object "java/lang/AbstractStringBuilder")) 1 := ⟨TT_t 470 (by decide +kernel) rfl, TT_t 775 (by decide +kernel) rfl, TT_t 365 (by decide +kernel) rfl, TT_t 471 (by decide +kernel) rfl, TT_t 10 (by decide +kernel) rfl, TT_t 472 (by decide +kernel) rfl, by decide +kernel, by decide +kernel⟩
theorem lk_S_53 : tkU RS 53 y_A_appI b_A_appI 4 (some (.object "java/lang/AbstractStringBuilder")) 1 := ⟨TT_t 523 (by decide +kernel) rfl, TT_t 779 (by decide +kernel) rfl, TT_t 365 (by decide +kernel) rfl, TT_t 524 (by decide +kernel) rfl, TT_t 10 (by decide +kernel) rfl, TT_t 525 (by decide +kernel) rfl, by decide +kernel, by decide +kernel⟩
theorem lk_S_343 : tkU RS 343 y_A_len b_A_len 1 (some .int) 0 := ⟨TT_t 548 (by decide +kernel) rfl, TT_t 780 (by decide +kernel) rfl, TT_t 365 (by decide +kernel) rfl, TT_t 549 (by decide +kernel) rfl, TT_t 10 (by decide +kernel) rfl, TT_t 550 (by decide +kernel) rfl, by decide +kernel, by decide +kernel⟩
theorem lk_S_329 : tkU RS 329 y_A_at b_A_at 5 (some .char) 1 := ⟨TT_t 563 (by decide +kernel) rfl, TT_t 781 (by decide +kernel) rfl, TT_t 365 (by decide +kernel) rfl, TT_t 564 (by decide +kernel) rfl, TT_t 10 (by decide +kernel) rfl, TT_t 565 (by decide +kernel) rfl, by decide +kernel, by decide +kernel⟩
theorem lk_A_100 : tkP RA 100 y_A_ens b_A_ens 3 none 1 := ⟨TT_t 376 (by decide +kernel) rfl, TT_t 378 (by decide +kernel) rfl, TT_t 10 (by decide +kernel) rfl, TT_t 379 (by decide +kernel) rfl, by decide +kernel, by decide +kernel⟩
theorem lk_A_104 : tkP RA 104 y_A_newCap b_A_newCap 6 (some .int) 1 := ⟨TT_t 380 (by decide +kernel) rfl, TT_t 382 (by decide +kernel) rfl, TT_t 10 (by decide +kernel) rfl, TT_t 383 (by decide +kernel) rfl, by decide +kernel, by decide +kernel⟩
theorem lk_A_208 : tkP RA 208 y_A_putS b_A_putS 3 none 2 := ⟨TT_t 498 (by decide +kernel) rfl, TT_t 500 (by decide +kernel) rfl, TT_t 10 (by decide +kernel) rfl, TT_t 501 (by decide +kernel) rfl, by decide +kernel, by decide +kernel⟩
theorem lk_A_397 : tkP RA 397 y_A_infl b_A_infl 2 none 1 := ⟨TT_t 502 (by decide +kernel) rfl, TT_t 504 (by decide +kernel) rfl, TT_t 10 (by decide +kernel) rfl, TT_t 505 (by decide +kernel) rfl, by decide +kernel, by decide +kernel⟩
theorem lk_A_83 : tkV RA 83 "java/lang/StringBuilder" y_A_isL1 b_A_isL1 1 (some .boolean) 0 := ⟨TT_t 411 (by decide +kernel) rfl, TT_t 412 (by decide +kernel) rfl, TT_t 414 (by decide +kernel) rfl, TT_t 10 (by decide +kernel) rfl, TT_t 415 (by decide +kernel) rfl, by decide +kernel, by decide +kernel⟩
theorem lk_A_191 : tkS RA 191 y_N_canEnc b_N_canEnc 1 (some .boolean) 1 := ⟨TT_t 416 (by decide +kernel) rfl, TT_t 417 (by decide +kernel) rfl, TT_t 16 (by decide +kernel) rfl, TT_t 418 (by decide +kernel) rfl, by decide +kernel, by decide +kernel⟩
theorem lk_A_114 : tkS RA 114 y_P_newLen b_P_newLen 4 (some .int) 3 := ⟨TT_t 384 (by decide +kernel) rfl, TT_t 385 (by decide +kernel) rfl, TT_t 14 (by decide +kernel) rfl, TT_t 386 (by decide +kernel) rfl, by decide +kernel, by decide +kernel⟩
theorem lk_A_108 : tkS RA 108 y_R_copyOf b_R_copyOf 3 (some (.array .byte)) 2 := ⟨TT_t 395 (by decide +kernel) rfl, TT_t 396 (by decide +kernel) rfl, TT_t 2 (by decide +kernel) rfl, TT_t 397 (by decide +kernel) rfl, by decide +kernel, by decide +kernel⟩
theorem lk_A_32 : tkV RA 32 "java/lang/String" y_T_len b_T_len 1 (some .int) 0 := ⟨TT_t 489 (by decide +kernel) rfl, TT_t 490 (by decide +kernel) rfl, TT_t 491 (by decide +kernel) rfl, TT_t 12 (by decide +kernel) rfl, TT_t 492 (by decide +kernel) rfl, by decide +kernel, by decide +kernel⟩
theorem lk_A_40 : tkV RA 40 "java/lang/String" y_T_coder b_T_coder 1 (some .byte) 0 := ⟨TT_t 506 (by decide +kernel) rfl, TT_t 494 (by decide +kernel) rfl, TT_t 495 (by decide +kernel) rfl, TT_t 12 (by decide +kernel) rfl, TT_t 496 (by decide +kernel) rfl, by decide +kernel, by decide +kernel⟩
theorem lk_A_399 : tkV RA 399 "java/lang/String" y_T_getB b_T_getB 4 none 3 := ⟨TT_t 507 (by decide +kernel) rfl, TT_t 508 (by decide +kernel) rfl, TT_t 509 (by decide +kernel) rfl, TT_t 12 (by decide +kernel) rfl, TT_t 510 (by decide +kernel) rfl, by decide +kernel, by decide +kernel⟩
theorem lk_A_245 : tkS RA 245 y_I_size b_I_size 4 (some .int) 1 := ⟨TT_t 526 (by decide +kernel) rfl, TT_t 527 (by decide +kernel) rfl, TT_t 18 (by decide +kernel) rfl, TT_t 528 (by decide +kernel) rfl, by decide +kernel, by decide +kernel⟩
theorem lk_A_248 : tkS RA 248 y_I_chars b_I_chars 7 (some .int) 3 := ⟨TT_t 529 (by decide +kernel) rfl, TT_t 530 (by decide +kernel) rfl, TT_t 18 (by decide +kernel) rfl, TT_t 531 (by decide +kernel) rfl, by decide +kernel, by decide +kernel⟩
theorem lk_A_144 : tkS RA 144 y_T_chk b_T_chk 2 none 2 := ⟨TT_t 567 (by decide +kernel) rfl, TT_t 459 (by decide +kernel) rfl, TT_t 12 (by decide +kernel) rfl, TT_t 460 (by decide +kernel) rfl, by decide +kernel, by decide +kernel⟩
theorem lk_T_335 : tkV RT 335 "java/lang/String" y_T_coder b_T_coder 1 (some .byte) 0 := ⟨TT_t 493 (by decide +kernel) rfl, TT_t 494 (by decide +kernel) rfl, TT_t 495 (by decide +kernel) rfl, TT_t 12 (by decide +kernel) rfl, TT_t 496 (by decide +kernel) rfl, by decide +kernel, by decide +kernel⟩
theorem lk_T_1059 : tkS RT 1059 y_O_chk b_O_chk 3 (some .int) 3 := ⟨TT_t 461 (by decide +kernel) rfl, TT_t 462 (by decide +kernel) rfl, TT_t 17 (by decide +kernel) rfl, TT_t 463 (by decide +kernel) rfl, by decide +kernel, by decide +kernel⟩
theorem k_A_15 : Cond.fieldLink "java/lang/AbstractStringBuilder" 15 "java/lang/AbstractStringBuilder" "value" "[B" ∈ TT := TT_t 354 (by decide +kernel) rfl
theorem k_A_22 : Cond.fieldLink "java/lang/AbstractStringBuilder" 22 "java/lang/AbstractStringBuilder" "coder" "B" ∈ TT := TT_t 355 (by decide +kernel) rfl
theorem k_A_79 : Cond.fieldLink "java/lang/AbstractStringBuilder" 79 "java/lang/AbstractStringBuilder" "count" "I" ∈ TT := TT_t 356 (by decide +kernel) rfl
theorem k_A_18 : Cond.fieldLink "java/lang/AbstractStringBuilder" 18 "java/lang/String" "COMPACT_STRINGS" "Z" ∈ TT := TT_t 345 (by decide +kernel) rfl
theorem k_T_9 : Cond.fieldLink "java/lang/String" 9 "java/lang/String" "value" "[B" ∈ TT := TT_t 782 (by decide +kernel) rfl
theorem k_T_15 : Cond.fieldLink "java/lang/String" 15 "java/lang/String" "coder" "B" ∈ TT := TT_t 783 (by decide +kernel) rfl
theorem k_T_38 : Cond.fieldLink "java/lang/String" 38 "java/lang/String" "COMPACT_STRINGS" "Z" ∈ TT := TT_t 497 (by decide +kernel) rfl
theorem k_T_1053 : Cond.fieldLink "java/lang/String" 1053 "jdk/internal/util/Preconditions" "SIOOBE_FORMATTER" "Ljava/util/function/BiFunction;" ∈ TT := TT_t 438 (by decide +kernel) rfl
theorem k_I_83 : Cond.fieldLink "java/lang/Integer" 83 "java/lang/Integer" "DigitOnes" "[B" ∈ TT := TT_t 532 (by decide +kernel) rfl
theorem k_I_87 : Cond.fieldLink "java/lang/Integer" 87 "java/lang/Integer" "DigitTens" "[B" ∈ TT := TT_t 534 (by decide +kernel) rfl
theorem k_A_39 : Cond.constant "java/lang/AbstractStringBuilder" 39 2147483647 ∈ TT := TT_t 394 (by decide +kernel) rfl
theorem k_P_200 : Cond.constant "jdk/internal/util/ArraysSupport" 200 2147483639 ∈ TT := TT_t 390 (by decide +kernel) rfl
theorem k_ac_R : Cond.methodLink "java/util/Arrays" 150 (⟨"java/lang/System", "arraycopy", "(Ljava/lang/Object;ILjava/lang/Object;II)V"⟩ : MethodName) ∈ TT := TT_t 408 (by decide +kernel) rfl
theorem k_ac_T : Cond.methodLink "java/lang/String" 212 (⟨"java/lang/System", "arraycopy", "(Ljava/lang/Object;ILjava/lang/Object;II)V"⟩ : MethodName) ∈ TT := TT_t 511 (by decide +kernel) rfl
theorem k_ac_n : Cond.native (⟨"java/lang/System", "arraycopy", "(Ljava/lang/Object;ILjava/lang/Object;II)V"⟩ : MethodName) ∈ TT := TT_t 410 (by decide +kernel) rfl
theorem k_ac_s : Cond.static (⟨"java/lang/System", "arraycopy", "(Ljava/lang/Object;ILjava/lang/Object;II)V"⟩ : MethodName) ∈ TT := TT_t 409 (by decide +kernel) rfl
theorem k_mn_R : Cond.methodLink "java/util/Arrays" 304 (⟨"java/lang/Math", "min", "(II)I"⟩ : MethodName) ∈ TT := TT_t 405 (by decide +kernel) rfl
theorem k_mn_A : Cond.methodLink "java/lang/AbstractStringBuilder" 138 (⟨"java/lang/Math", "min", "(II)I"⟩ : MethodName) ∈ TT := TT_t 566 (by decide +kernel) rfl
theorem k_mx_P : Cond.methodLink "jdk/internal/util/ArraysSupport" 194 (⟨"java/lang/Math", "max", "(II)I"⟩ : MethodName) ∈ TT := TT_t 387 (by decide +kernel) rfl
theorem k_mx_s : Cond.static (⟨"java/lang/Math", "max", "(II)I"⟩ : MethodName) ∈ TT := TT_t 388 (by decide +kernel) rfl
theorem k_mx_c : Cond.code Lib.Math.max.name Lib.Math.max.code 2 (some .int) ∈ TT := TT_t 389 (by decide +kernel) rfl
theorem k_sb_lat : Cond.selects "java/lang/StringBuilder" y_A_isL1 y_A_isL1 ∈ TT := TT_t 414 (by decide +kernel) rfl
theorem k_oi_A : Cond.methodLink "java/lang/AbstractStringBuilder" 3 (⟨"java/lang/Object", "<init>", "()V"⟩ : MethodName) ∈ TT := TT_t 344 (by decide +kernel) rfl
theorem k_oi_X : Cond.methodLink RX 3 (⟨"java/lang/Object", "<init>", "()V"⟩ : MethodName) ∈ TT := TT_t 24 (by decide +kernel) rfl
theorem k_oi_M : Cond.methodLink RM 1 (⟨"java/lang/Object", "<init>", "()V"⟩ : MethodName) ∈ TT := TT_t 585 (by decide +kernel) rfl
theorem k_oi_i : Cond.instanceMethod (⟨"java/lang/Object", "<init>", "()V"⟩ : MethodName) ∈ TT := TT_t 25 (by decide +kernel) rfl
theorem k_oi_c : Cond.code (⟨"java/lang/Object", "<init>", "()V"⟩ : MethodName) object_method_1_code 1 none ∈ TT := TT_t 26 (by decide +kernel) rfl
theorem k_in_S : Cond.instantiable "java/lang/StringBuilder" 4 ∈ TT := TT_t 337 (by decide +kernel) rfl
def TSB : u_T := fun k => match k with
  | 0 => (RA, "value", "[B", false)
  | 1 => (RA, "coder", "B", false)
  | 2 => (RA, "maybeLatin1", "Z", false)
  | _ => (RA, "count", "I", false)
def tSB : Nat → FieldType := fun k => match k with
  | 0 => .array .byte
  | 1 => .byte
  | 2 => .boolean
  | _ => .int
theorem nSB : ∀ a, a < 4 → ∀ b, b < 4 → a ≠ b → (TSB a).2.1 ≠ (TSB b).2.1 := by decide +kernel
theorem tSB_ok : ∀ k, k < 4 → parseFieldDescriptor (TSB k).2.2.1 = some (tSB k) := by decide +kernel
theorem uS_in : ∀ w ∈ u_ws RS TSB 4, w ∈ TT := by
  intro w h
  exact List.mem_filter.mpr ⟨List.mem_append_right _ (by revert w h; decide +kernel), by revert w h; decide +kernel⟩
abbrev scl : List vw_C := [(RS, TSB, 4)]
