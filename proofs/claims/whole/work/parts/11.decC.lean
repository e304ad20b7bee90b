theorem dX9_init_0 : decode cX9_init 0 = .ok (.aload_n 0, 1) := by decide +kernel
theorem dX9_init_1 : decode cX9_init 1 = .ok (.invokespecial 1, 3) := by decide +kernel
theorem dX9_init_4 : decode cX9_init 4 = .ok (.aload_n 0, 1) := by decide +kernel
theorem dX9_init_5 : decode cX9_init 5 = .ok (.bipush 80, 2) := by decide +kernel
theorem dX9_init_7 : decode cX9_init 7 = .ok (.newarray .int, 2) := by decide +kernel
theorem dX9_init_9 : decode cX9_init 9 = .ok (.putfield 7, 3) := by decide +kernel
theorem dX9_init_12 : decode cX9_init 12 = .ok (.aload_n 0, 1) := by decide +kernel
theorem dX9_init_13 : decode cX9_init 13 = .ok (.bipush 10, 2) := by decide +kernel
theorem dX9_init_15 : decode cX9_init 15 = .ok (.newarray .long, 2) := by decide +kernel
theorem dX9_init_17 : decode cX9_init 17 = .ok (.putfield 13, 3) := by decide +kernel
theorem dX9_init_20 : decode cX9_init 20 = .ok (.aload_n 0, 1) := by decide +kernel
theorem dX9_init_21 : decode cX9_init 21 = .ok (.iconst 4, 1) := by decide +kernel
theorem dX9_init_22 : decode cX9_init 22 = .ok (.newarray .int, 2) := by decide +kernel
theorem dX9_init_24 : decode cX9_init 24 = .ok (.putfield 17, 3) := by decide +kernel
theorem dX9_init_27 : decode cX9_init 27 = .ok (.aload_n 0, 1) := by decide +kernel
theorem dX9_init_28 : decode cX9_init 28 = .ok (.sipush 438, 3) := by decide +kernel
theorem dX9_init_31 : decode cX9_init 31 = .ok (.newarray .int, 2) := by decide +kernel
theorem dX9_init_33 : decode cX9_init 33 = .ok (.putfield 20, 3) := by decide +kernel
theorem dX9_init_36 : decode cX9_init 36 = .ok (.aload_n 0, 1) := by decide +kernel
theorem dX9_init_37 : decode cX9_init 37 = .ok (.sipush 700, 3) := by decide +kernel
theorem dX9_init_40 : decode cX9_init 40 = .ok (.newarray .byte, 2) := by decide +kernel
theorem dX9_init_42 : decode cX9_init 42 = .ok (.putfield 23, 3) := by decide +kernel
theorem dX9_init_45 : decode cX9_init 45 = .ok (.aload_n 0, 1) := by decide +kernel
theorem dX9_init_46 : decode cX9_init 46 = .ok (.iconst (-1), 1) := by decide +kernel
theorem dX9_init_47 : decode cX9_init 47 = .ok (.putfield 27, 3) := by decide +kernel
theorem dX9_init_50 : decode cX9_init 50 = .ok (.aload_n 0, 1) := by decide +kernel
theorem dX9_init_51 : decode cX9_init 51 = .ok (.bipush 80, 2) := by decide +kernel
theorem dX9_init_53 : decode cX9_init 53 = .ok (.newarray .int, 2) := by decide +kernel
theorem dX9_init_55 : decode cX9_init 55 = .ok (.putfield 31, 3) := by decide +kernel
theorem dX9_init_58 : decode cX9_init 58 = .ok (.aload_n 0, 1) := by decide +kernel
theorem dX9_init_59 : decode cX9_init 59 = .ok (.bipush 10, 2) := by decide +kernel
theorem dX9_init_61 : decode cX9_init 61 = .ok (.newarray .long, 2) := by decide +kernel
theorem dX9_init_63 : decode cX9_init 63 = .ok (.putfield 34, 3) := by decide +kernel
theorem dX9_init_66 : decode cX9_init 66 = .ok (.aload_n 0, 1) := by decide +kernel
theorem dX9_init_67 : decode cX9_init 67 = .ok (.iconst 4, 1) := by decide +kernel
theorem dX9_init_68 : decode cX9_init 68 = .ok (.newarray .int, 2) := by decide +kernel
theorem dX9_init_70 : decode cX9_init 70 = .ok (.putfield 37, 3) := by decide +kernel
theorem dX9_init_73 : decode cX9_init 73 = .ok (.aload_n 0, 1) := by decide +kernel
theorem dX9_init_74 : decode cX9_init 74 = .ok (.sipush 438, 3) := by decide +kernel
theorem dX9_init_77 : decode cX9_init 77 = .ok (.newarray .int, 2) := by decide +kernel
theorem dX9_init_79 : decode cX9_init 79 = .ok (.putfield 40, 3) := by decide +kernel
theorem dX9_init_82 : decode cX9_init 82 = .ok (.aload_n 0, 1) := by decide +kernel
theorem dX9_init_83 : decode cX9_init 83 = .ok (.sipush 438, 3) := by decide +kernel
theorem dX9_init_86 : decode cX9_init 86 = .ok (.newarray .int, 2) := by decide +kernel
theorem dX9_init_88 : decode cX9_init 88 = .ok (.putfield 43, 3) := by decide +kernel
theorem dX9_init_91 : decode cX9_init 91 = .ok (.aload_n 0, 1) := by decide +kernel
theorem dX9_init_92 : decode cX9_init 92 = .ok (.sipush 4380, 3) := by decide +kernel
theorem dX9_init_95 : decode cX9_init 95 = .ok (.newarray .int, 2) := by decide +kernel
theorem dX9_init_97 : decode cX9_init 97 = .ok (.putfield 46, 3) := by decide +kernel
theorem dX9_init_100 : decode cX9_init 100 = .ok (.aload_n 0, 1) := by decide +kernel
theorem dX9_init_101 : decode cX9_init 101 = .ok (.sipush 876, 3) := by decide +kernel
theorem dX9_init_104 : decode cX9_init 104 = .ok (.newarray .int, 2) := by decide +kernel
theorem dX9_init_106 : decode cX9_init 106 = .ok (.putfield 49, 3) := by decide +kernel
theorem dX9_init_109 : decode cX9_init 109 = .ok (.aload_n 0, 1) := by decide +kernel
theorem dX9_init_110 : decode cX9_init 110 = .ok (.iconst 2, 1) := by decide +kernel
theorem dX9_init_111 : decode cX9_init 111 = .ok (.newarray .boolean, 2) := by decide +kernel
theorem dX9_init_113 : decode cX9_init 113 = .ok (.putfield 52, 3) := by decide +kernel
theorem dX9_init_116 : decode cX9_init 116 = .ok (.aload_n 0, 1) := by decide +kernel
theorem dX9_init_117 : decode cX9_init 117 = .ok (.bipush 100, 2) := by decide +kernel
theorem dX9_init_119 : decode cX9_init 119 = .ok (.putfield 56, 3) := by decide +kernel
theorem dX9_init_122 : decode cX9_init 122 = .ok (.aload_n 0, 1) := by decide +kernel
theorem dX9_init_123 : decode cX9_init 123 = .ok (.invokevirtual 59, 3) := by decide +kernel
theorem dX9_init_126 : decode cX9_init 126 = .ok (.aload_n 0, 1) := by decide +kernel
theorem dX9_init_127 : decode cX9_init 127 = .ok (.invokevirtual 62, 3) := by decide +kernel
theorem dX9_init_130 : decode cX9_init 130 = .ok (.return_, 1) := by decide +kernel
theorem dX9_thrown_0 : decode cX9_thrown 0 = .ok (.aload_n 0, 1) := by decide +kernel
theorem dX9_thrown_1 : decode cX9_thrown 1 = .ok (.getfield 65, 3) := by decide +kernel
theorem dX9_thrown_4 : decode cX9_thrown 4 = .ok (.ireturn, 1) := by decide +kernel
theorem dX9_within_0 : decode cX9_within 0 = .ok (.iload_n 0, 1) := by decide +kernel
theorem dX9_within_1 : decode cX9_within 1 = .ok (.iload_n 1, 1) := by decide +kernel
theorem dX9_within_2 : decode cX9_within 2 = .ok (.if_icmp .lt 12, 3) := by decide +kernel
theorem dX9_within_5 : decode cX9_within 5 = .ok (.iload_n 0, 1) := by decide +kernel
theorem dX9_within_6 : decode cX9_within 6 = .ok (.iload_n 2, 1) := by decide +kernel
theorem dX9_within_7 : decode cX9_within 7 = .ok (.if_icmp .gt 7, 3) := by decide +kernel
theorem dX9_within_10 : decode cX9_within 10 = .ok (.iconst 1, 1) := by decide +kernel
theorem dX9_within_11 : decode cX9_within 11 = .ok (.goto 4, 3) := by decide +kernel
theorem dX9_within_14 : decode cX9_within 14 = .ok (.iconst 0, 1) := by decide +kernel
theorem dX9_within_15 : decode cX9_within 15 = .ok (.ireturn, 1) := by decide +kernel
theorem dX9_throwsIf_0 : decode cX9_throwsIf 0 = .ok (.aload_n 0, 1) := by decide +kernel
theorem dX9_throwsIf_1 : decode cX9_throwsIf 1 = .ok (.getfield 65, 3) := by decide +kernel
theorem dX9_throwsIf_4 : decode cX9_throwsIf 4 = .ok (.ifCond .ne 12, 3) := by decide +kernel
theorem dX9_throwsIf_7 : decode cX9_throwsIf 7 = .ok (.iload_n 1, 1) := by decide +kernel
theorem dX9_throwsIf_8 : decode cX9_throwsIf 8 = .ok (.ifCond .eq 8, 3) := by decide +kernel
theorem dX9_throwsIf_11 : decode cX9_throwsIf 11 = .ok (.aload_n 0, 1) := by decide +kernel
theorem dX9_throwsIf_12 : decode cX9_throwsIf 12 = .ok (.iload_n 2, 1) := by decide +kernel
theorem dX9_throwsIf_13 : decode cX9_throwsIf 13 = .ok (.putfield 65, 3) := by decide +kernel
theorem dX9_throwsIf_16 : decode cX9_throwsIf 16 = .ok (.aload_n 0, 1) := by decide +kernel
theorem dX9_throwsIf_17 : decode cX9_throwsIf 17 = .ok (.getfield 65, 3) := by decide +kernel
theorem dX9_throwsIf_20 : decode cX9_throwsIf 20 = .ok (.ifCond .le 7, 3) := by decide +kernel
theorem dX9_throwsIf_23 : decode cX9_throwsIf 23 = .ok (.iconst 1, 1) := by decide +kernel
theorem dX9_throwsIf_24 : decode cX9_throwsIf 24 = .ok (.goto 4, 3) := by decide +kernel
theorem dX9_throwsIf_27 : decode cX9_throwsIf 27 = .ok (.iconst 0, 1) := by decide +kernel
theorem dX9_throwsIf_28 : decode cX9_throwsIf 28 = .ok (.ireturn, 1) := by decide +kernel
theorem dX9_append_0 : decode cX9_append 0 = .ok (.aload_n 0, 1) := by decide +kernel
theorem dX9_append_1 : decode cX9_append 1 = .ok (.iconst 0, 1) := by decide +kernel
theorem dX9_append_2 : decode cX9_append 2 = .ok (.putfield 65, 3) := by decide +kernel
theorem dX9_append_5 : decode cX9_append 5 = .ok (.aload_n 0, 1) := by decide +kernel
theorem dX9_append_6 : decode cX9_append 6 = .ok (.getfield 68, 3) := by decide +kernel
theorem dX9_append_9 : decode cX9_append 9 = .ok (.bipush 20, 2) := by decide +kernel
theorem dX9_append_11 : decode cX9_append 11 = .ok (.iadd, 1) := by decide +kernel
theorem dX9_append_12 : decode cX9_append 12 = .ok (.sipush 700, 3) := by decide +kernel
theorem dX9_append_15 : decode cX9_append 15 = .ok (.if_icmp .le 5, 3) := by decide +kernel
theorem dX9_append_18 : decode cX9_append 18 = .ok (.iconst (-1), 1) := by decide +kernel
theorem dX9_append_19 : decode cX9_append 19 = .ok (.ireturn, 1) := by decide +kernel
theorem dX9_append_20 : decode cX9_append 20 = .ok (.aload_n 0, 1) := by decide +kernel
theorem dX9_append_21 : decode cX9_append 21 = .ok (.iload_n 1, 1) := by decide +kernel
theorem dX9_append_22 : decode cX9_append 22 = .ok (.invokevirtual 71, 3) := by decide +kernel
theorem dX9_append_25 : decode cX9_append 25 = .ok (.aload_n 0, 1) := by decide +kernel
theorem dX9_append_26 : decode cX9_append 26 = .ok (.iload_n 2, 1) := by decide +kernel
theorem dX9_append_27 : decode cX9_append 27 = .ok (.invokevirtual 71, 3) := by decide +kernel
theorem dX9_append_30 : decode cX9_append 30 = .ok (.aload_n 0, 1) := by decide +kernel
theorem dX9_append_31 : decode cX9_append 31 = .ok (.iload_n 3, 1) := by decide +kernel
theorem dX9_append_32 : decode cX9_append 32 = .ok (.invokevirtual 71, 3) := by decide +kernel
theorem dX9_append_35 : decode cX9_append 35 = .ok (.aload_n 0, 1) := by decide +kernel
theorem dX9_append_36 : decode cX9_append 36 = .ok (.iload 4, 2) := by decide +kernel
theorem dX9_append_38 : decode cX9_append 38 = .ok (.invokevirtual 71, 3) := by decide +kernel
theorem dX9_append_41 : decode cX9_append 41 = .ok (.aload_n 0, 1) := by decide +kernel
theorem dX9_append_42 : decode cX9_append 42 = .ok (.iload 5, 2) := by decide +kernel
theorem dX9_append_44 : decode cX9_append 44 = .ok (.invokevirtual 71, 3) := by decide +kernel
theorem dX9_append_47 : decode cX9_append 47 = .ok (.aload_n 0, 1) := by decide +kernel
theorem dX9_append_48 : decode cX9_append 48 = .ok (.getfield 68, 3) := by decide +kernel
theorem dX9_append_51 : decode cX9_append 51 = .ok (.ireturn, 1) := by decide +kernel
theorem dX9_bytesOf_0 : decode cX9_bytesOf 0 = .ok (.bipush 24, 2) := by decide +kernel
theorem dX9_bytesOf_2 : decode cX9_bytesOf 2 = .ok (.istore_n 2, 1) := by decide +kernel
theorem dX9_bytesOf_3 : decode cX9_bytesOf 3 = .ok (.iload_n 2, 1) := by decide +kernel
theorem dX9_bytesOf_4 : decode cX9_bytesOf 4 = .ok (.ifCond .lt 32, 3) := by decide +kernel
theorem dX9_bytesOf_7 : decode cX9_bytesOf 7 = .ok (.aload_n 0, 1) := by decide +kernel
theorem dX9_bytesOf_8 : decode cX9_bytesOf 8 = .ok (.getfield 23, 3) := by decide +kernel
theorem dX9_bytesOf_11 : decode cX9_bytesOf 11 = .ok (.aload_n 0, 1) := by decide +kernel
theorem dX9_bytesOf_12 : decode cX9_bytesOf 12 = .ok (.getfield 68, 3) := by decide +kernel
theorem dX9_bytesOf_15 : decode cX9_bytesOf 15 = .ok (.iload_n 1, 1) := by decide +kernel
theorem dX9_bytesOf_16 : decode cX9_bytesOf 16 = .ok (.iload_n 2, 1) := by decide +kernel
theorem dX9_bytesOf_17 : decode cX9_bytesOf 17 = .ok (.ishr, 1) := by decide +kernel
theorem dX9_bytesOf_18 : decode cX9_bytesOf 18 = .ok (.i2b, 1) := by decide +kernel
theorem dX9_bytesOf_19 : decode cX9_bytesOf 19 = .ok (.bastore, 1) := by decide +kernel
theorem dX9_bytesOf_20 : decode cX9_bytesOf 20 = .ok (.aload_n 0, 1) := by decide +kernel
theorem dX9_bytesOf_21 : decode cX9_bytesOf 21 = .ok (.dup, 1) := by decide +kernel
theorem dX9_bytesOf_22 : decode cX9_bytesOf 22 = .ok (.getfield 68, 3) := by decide +kernel
theorem dX9_bytesOf_25 : decode cX9_bytesOf 25 = .ok (.iconst 1, 1) := by decide +kernel
theorem dX9_bytesOf_26 : decode cX9_bytesOf 26 = .ok (.iadd, 1) := by decide +kernel
theorem dX9_bytesOf_27 : decode cX9_bytesOf 27 = .ok (.putfield 68, 3) := by decide +kernel
theorem dX9_bytesOf_30 : decode cX9_bytesOf 30 = .ok (.iinc 2 (-8), 3) := by decide +kernel
theorem dX9_bytesOf_33 : decode cX9_bytesOf 33 = .ok (.goto (-30), 3) := by decide +kernel
theorem dX9_bytesOf_36 : decode cX9_bytesOf 36 = .ok (.return_, 1) := by decide +kernel
theorem dX9_byteAt_0 : decode cX9_byteAt 0 = .ok (.iload_n 1, 1) := by decide +kernel
theorem dX9_byteAt_1 : decode cX9_byteAt 1 = .ok (.aload_n 0, 1) := by decide +kernel
theorem dX9_byteAt_2 : decode cX9_byteAt 2 = .ok (.getfield 75, 3) := by decide +kernel
theorem dX9_byteAt_5 : decode cX9_byteAt 5 = .ok (.if_icmp .ge 16, 3) := by decide +kernel
theorem dX9_byteAt_8 : decode cX9_byteAt 8 = .ok (.aload_n 0, 1) := by decide +kernel
theorem dX9_byteAt_9 : decode cX9_byteAt 9 = .ok (.getfield 23, 3) := by decide +kernel
theorem dX9_byteAt_12 : decode cX9_byteAt 12 = .ok (.iload_n 1, 1) := by decide +kernel
theorem dX9_byteAt_13 : decode cX9_byteAt 13 = .ok (.baload, 1) := by decide +kernel
theorem dX9_byteAt_14 : decode cX9_byteAt 14 = .ok (.sipush 255, 3) := by decide +kernel
theorem dX9_byteAt_17 : decode cX9_byteAt 17 = .ok (.iand, 1) := by decide +kernel
theorem dX9_byteAt_18 : decode cX9_byteAt 18 = .ok (.goto 4, 3) := by decide +kernel
theorem dX9_byteAt_21 : decode cX9_byteAt 21 = .ok (.iconst (-1), 1) := by decide +kernel
theorem dX9_byteAt_22 : decode cX9_byteAt 22 = .ok (.ireturn, 1) := by decide +kernel
theorem dX9_takesLetters_0 : decode cX9_takesLetters 0 = .ok (.aload_n 0, 1) := by decide +kernel
theorem dX9_takesLetters_1 : decode cX9_takesLetters 1 = .ok (.lconst 0, 1) := by decide +kernel
theorem dX9_takesLetters_2 : decode cX9_takesLetters 2 = .ok (.putfield 78, 3) := by decide +kernel
theorem dX9_takesLetters_5 : decode cX9_takesLetters 5 = .ok (.aload_n 0, 1) := by decide +kernel
theorem dX9_takesLetters_6 : decode cX9_takesLetters 6 = .ok (.aload_n 0, 1) := by decide +kernel
theorem dX9_takesLetters_7 : decode cX9_takesLetters 7 = .ok (.getfield 82, 3) := by decide +kernel
theorem dX9_takesLetters_10 : decode cX9_takesLetters 10 = .ok (.invokevirtual 85, 3) := by decide +kernel
theorem dX9_takesLetters_13 : decode cX9_takesLetters 13 = .ok (.bipush 97, 2) := by decide +kernel
theorem dX9_takesLetters_15 : decode cX9_takesLetters 15 = .ok (.bipush 122, 2) := by decide +kernel
theorem dX9_takesLetters_17 : decode cX9_takesLetters 17 = .ok (.invokestatic 89, 3) := by decide +kernel
theorem dX9_takesLetters_20 : decode cX9_takesLetters 20 = .ok (.ifCond .eq 58, 3) := by decide +kernel
theorem dX9_takesLetters_23 : decode cX9_takesLetters 23 = .ok (.aload_n 0, 1) := by decide +kernel
theorem dX9_takesLetters_24 : decode cX9_takesLetters 24 = .ok (.aload_n 0, 1) := by decide +kernel
theorem dX9_takesLetters_25 : decode cX9_takesLetters 25 = .ok (.getfield 82, 3) := by decide +kernel
theorem dX9_takesLetters_28 : decode cX9_takesLetters 28 = .ok (.aload_n 0, 1) := by decide +kernel
theorem dX9_takesLetters_29 : decode cX9_takesLetters 29 = .ok (.getfield 93, 3) := by decide +kernel
theorem dX9_takesLetters_32 : decode cX9_takesLetters 32 = .ok (.isub, 1) := by decide +kernel
theorem dX9_takesLetters_33 : decode cX9_takesLetters 33 = .ok (.bipush 8, 2) := by decide +kernel
theorem dX9_takesLetters_35 : decode cX9_takesLetters 35 = .ok (.if_icmp .ge 23, 3) := by decide +kernel
theorem dX9_takesLetters_38 : decode cX9_takesLetters 38 = .ok (.aload_n 0, 1) := by decide +kernel
theorem dX9_takesLetters_39 : decode cX9_takesLetters 39 = .ok (.getfield 78, 3) := by decide +kernel
theorem dX9_takesLetters_42 : decode cX9_takesLetters 42 = .ok (.bipush 8, 2) := by decide +kernel
theorem dX9_takesLetters_44 : decode cX9_takesLetters 44 = .ok (.lshl, 1) := by decide +kernel
theorem dX9_takesLetters_45 : decode cX9_takesLetters 45 = .ok (.aload_n 0, 1) := by decide +kernel
theorem dX9_takesLetters_46 : decode cX9_takesLetters 46 = .ok (.aload_n 0, 1) := by decide +kernel
theorem dX9_takesLetters_47 : decode cX9_takesLetters 47 = .ok (.getfield 82, 3) := by decide +kernel
theorem dX9_takesLetters_50 : decode cX9_takesLetters 50 = .ok (.invokevirtual 85, 3) := by decide +kernel
theorem dX9_takesLetters_53 : decode cX9_takesLetters 53 = .ok (.i2l, 1) := by decide +kernel
theorem dX9_takesLetters_54 : decode cX9_takesLetters 54 = .ok (.lor, 1) := by decide +kernel
theorem dX9_takesLetters_55 : decode cX9_takesLetters 55 = .ok (.goto 7, 3) := by decide +kernel
theorem dX9_takesLetters_58 : decode cX9_takesLetters 58 = .ok (.aload_n 0, 1) := by decide +kernel
theorem dX9_takesLetters_59 : decode cX9_takesLetters 59 = .ok (.getfield 78, 3) := by decide +kernel
theorem dX9_takesLetters_62 : decode cX9_takesLetters 62 = .ok (.putfield 78, 3) := by decide +kernel
theorem dX9_takesLetters_65 : decode cX9_takesLetters 65 = .ok (.aload_n 0, 1) := by decide +kernel
theorem dX9_takesLetters_66 : decode cX9_takesLetters 66 = .ok (.dup, 1) := by decide +kernel
theorem dX9_takesLetters_67 : decode cX9_takesLetters 67 = .ok (.getfield 82, 3) := by decide +kernel
theorem dX9_takesLetters_70 : decode cX9_takesLetters 70 = .ok (.iconst 1, 1) := by decide +kernel
theorem dX9_takesLetters_71 : decode cX9_takesLetters 71 = .ok (.iadd, 1) := by decide +kernel
theorem dX9_takesLetters_72 : decode cX9_takesLetters 72 = .ok (.putfield 82, 3) := by decide +kernel
theorem dX9_takesLetters_75 : decode cX9_takesLetters 75 = .ok (.goto (-70), 3) := by decide +kernel
theorem dX9_takesLetters_78 : decode cX9_takesLetters 78 = .ok (.return_, 1) := by decide +kernel
theorem dX9_advance_0 : decode cX9_advance 0 = .ok (.aload_n 0, 1) := by decide +kernel
theorem dX9_advance_1 : decode cX9_advance 1 = .ok (.aload_n 0, 1) := by decide +kernel
theorem dX9_advance_2 : decode cX9_advance 2 = .ok (.getfield 82, 3) := by decide +kernel
theorem dX9_advance_5 : decode cX9_advance 5 = .ok (.invokevirtual 85, 3) := by decide +kernel
theorem dX9_advance_8 : decode cX9_advance 8 = .ok (.bipush 32, 2) := by decide +kernel
theorem dX9_advance_10 : decode cX9_advance 10 = .ok (.if_icmp .eq 16, 3) := by decide +kernel
theorem dX9_advance_13 : decode cX9_advance 13 = .ok (.aload_n 0, 1) := by decide +kernel
theorem dX9_advance_14 : decode cX9_advance 14 = .ok (.aload_n 0, 1) := by decide +kernel
theorem dX9_advance_15 : decode cX9_advance 15 = .ok (.getfield 82, 3) := by decide +kernel
theorem dX9_advance_18 : decode cX9_advance 18 = .ok (.invokevirtual 85, 3) := by decide +kernel
theorem dX9_advance_21 : decode cX9_advance 21 = .ok (.bipush 10, 2) := by decide +kernel
theorem dX9_advance_23 : decode cX9_advance 23 = .ok (.if_icmp .ne 16, 3) := by decide +kernel
theorem dX9_advance_26 : decode cX9_advance 26 = .ok (.aload_n 0, 1) := by decide +kernel
theorem dX9_advance_27 : decode cX9_advance 27 = .ok (.dup, 1) := by decide +kernel
theorem dX9_advance_28 : decode cX9_advance 28 = .ok (.getfield 82, 3) := by decide +kernel
theorem dX9_advance_31 : decode cX9_advance 31 = .ok (.iconst 1, 1) := by decide +kernel
theorem dX9_advance_32 : decode cX9_advance 32 = .ok (.iadd, 1) := by decide +kernel
theorem dX9_advance_33 : decode cX9_advance 33 = .ok (.putfield 82, 3) := by decide +kernel
theorem dX9_advance_36 : decode cX9_advance 36 = .ok (.goto (-36), 3) := by decide +kernel
theorem dX9_advance_39 : decode cX9_advance 39 = .ok (.aload_n 0, 1) := by decide +kernel
theorem dX9_advance_40 : decode cX9_advance 40 = .ok (.aload_n 0, 1) := by decide +kernel
theorem dX9_advance_41 : decode cX9_advance 41 = .ok (.getfield 82, 3) := by decide +kernel
theorem dX9_advance_44 : decode cX9_advance 44 = .ok (.putfield 93, 3) := by decide +kernel
theorem dX9_advance_47 : decode cX9_advance 47 = .ok (.aload_n 0, 1) := by decide +kernel
theorem dX9_advance_48 : decode cX9_advance 48 = .ok (.iconst 0, 1) := by decide +kernel
theorem dX9_advance_49 : decode cX9_advance 49 = .ok (.putfield 96, 3) := by decide +kernel
theorem dX9_advance_52 : decode cX9_advance 52 = .ok (.aload_n 0, 1) := by decide +kernel
theorem dX9_advance_53 : decode cX9_advance 53 = .ok (.aload_n 0, 1) := by decide +kernel
theorem dX9_advance_54 : decode cX9_advance 54 = .ok (.getfield 82, 3) := by decide +kernel
theorem dX9_advance_57 : decode cX9_advance 57 = .ok (.invokevirtual 85, 3) := by decide +kernel
theorem dX9_advance_60 : decode cX9_advance 60 = .ok (.istore_n 1, 1) := by decide +kernel
theorem dX9_advance_61 : decode cX9_advance 61 = .ok (.iload_n 1, 1) := by decide +kernel
theorem dX9_advance_62 : decode cX9_advance 62 = .ok (.iconst (-1), 1) := by decide +kernel
theorem dX9_advance_63 : decode cX9_advance 63 = .ok (.if_icmp .ne 11, 3) := by decide +kernel
theorem dX9_advance_66 : decode cX9_advance 66 = .ok (.aload_n 0, 1) := by decide +kernel
theorem dX9_advance_67 : decode cX9_advance 67 = .ok (.iconst 0, 1) := by decide +kernel
theorem dX9_advance_68 : decode cX9_advance 68 = .ok (.putfield 99, 3) := by decide +kernel
theorem dX9_advance_71 : decode cX9_advance 71 = .ok (.goto 179, 3) := by decide +kernel
theorem dX9_advance_74 : decode cX9_advance 74 = .ok (.iload_n 1, 1) := by decide +kernel
theorem dX9_advance_75 : decode cX9_advance 75 = .ok (.bipush 97, 2) := by decide +kernel
theorem dX9_advance_77 : decode cX9_advance 77 = .ok (.bipush 122, 2) := by decide +kernel
theorem dX9_advance_79 : decode cX9_advance 79 = .ok (.invokestatic 89, 3) := by decide +kernel
theorem dX9_advance_82 : decode cX9_advance 82 = .ok (.ifCond .eq 33, 3) := by decide +kernel
theorem dX9_advance_85 : decode cX9_advance 85 = .ok (.aload_n 0, 1) := by decide +kernel
theorem dX9_advance_86 : decode cX9_advance 86 = .ok (.invokevirtual 102, 3) := by decide +kernel
theorem dX9_advance_89 : decode cX9_advance 89 = .ok (.aload_n 0, 1) := by decide +kernel
theorem dX9_advance_90 : decode cX9_advance 90 = .ok (.aload_n 0, 1) := by decide +kernel
theorem dX9_advance_91 : decode cX9_advance 91 = .ok (.getfield 82, 3) := by decide +kernel
theorem dX9_advance_94 : decode cX9_advance 94 = .ok (.aload_n 0, 1) := by decide +kernel
theorem dX9_advance_95 : decode cX9_advance 95 = .ok (.getfield 93, 3) := by decide +kernel
theorem dX9_advance_98 : decode cX9_advance 98 = .ok (.isub, 1) := by decide +kernel
theorem dX9_advance_99 : decode cX9_advance 99 = .ok (.bipush 8, 2) := by decide +kernel
theorem dX9_advance_101 : decode cX9_advance 101 = .ok (.if_icmp .le 7, 3) := by decide +kernel
theorem dX9_advance_104 : decode cX9_advance 104 = .ok (.iconst 4, 1) := by decide +kernel
theorem dX9_advance_105 : decode cX9_advance 105 = .ok (.goto 4, 3) := by decide +kernel
theorem dX9_advance_108 : decode cX9_advance 108 = .ok (.iconst 1, 1) := by decide +kernel
theorem dX9_advance_109 : decode cX9_advance 109 = .ok (.putfield 99, 3) := by decide +kernel
theorem dX9_advance_112 : decode cX9_advance 112 = .ok (.goto 138, 3) := by decide +kernel
theorem dX9_advance_115 : decode cX9_advance 115 = .ok (.iload_n 1, 1) := by decide +kernel
theorem dX9_advance_116 : decode cX9_advance 116 = .ok (.bipush 48, 2) := by decide +kernel
theorem dX9_advance_118 : decode cX9_advance 118 = .ok (.bipush 57, 2) := by decide +kernel
theorem dX9_advance_120 : decode cX9_advance 120 = .ok (.invokestatic 89, 3) := by decide +kernel
theorem dX9_advance_123 : decode cX9_advance 123 = .ok (.ifCond .eq 102, 3) := by decide +kernel
theorem dX9_advance_126 : decode cX9_advance 126 = .ok (.aload_n 0, 1) := by decide +kernel
theorem dX9_advance_127 : decode cX9_advance 127 = .ok (.aload_n 0, 1) := by decide +kernel
theorem dX9_advance_128 : decode cX9_advance 128 = .ok (.getfield 82, 3) := by decide +kernel
theorem dX9_advance_131 : decode cX9_advance 131 = .ok (.invokevirtual 85, 3) := by decide +kernel
theorem dX9_advance_134 : decode cX9_advance 134 = .ok (.bipush 48, 2) := by decide +kernel
theorem dX9_advance_136 : decode cX9_advance 136 = .ok (.bipush 57, 2) := by decide +kernel
theorem dX9_advance_138 : decode cX9_advance 138 = .ok (.invokestatic 89, 3) := by decide +kernel
theorem dX9_advance_141 : decode cX9_advance 141 = .ok (.ifCond .eq 59, 3) := by decide +kernel
theorem dX9_advance_144 : decode cX9_advance 144 = .ok (.aload_n 0, 1) := by decide +kernel
theorem dX9_advance_145 : decode cX9_advance 145 = .ok (.aload_n 0, 1) := by decide +kernel
theorem dX9_advance_146 : decode cX9_advance 146 = .ok (.getfield 82, 3) := by decide +kernel
theorem dX9_advance_149 : decode cX9_advance 149 = .ok (.aload_n 0, 1) := by decide +kernel
theorem dX9_advance_150 : decode cX9_advance 150 = .ok (.getfield 93, 3) := by decide +kernel
theorem dX9_advance_153 : decode cX9_advance 153 = .ok (.isub, 1) := by decide +kernel
theorem dX9_advance_154 : decode cX9_advance 154 = .ok (.iconst 4, 1) := by decide +kernel
theorem dX9_advance_155 : decode cX9_advance 155 = .ok (.if_icmp .ge 25, 3) := by decide +kernel
theorem dX9_advance_158 : decode cX9_advance 158 = .ok (.bipush 10, 2) := by decide +kernel
theorem dX9_advance_160 : decode cX9_advance 160 = .ok (.aload_n 0, 1) := by decide +kernel
theorem dX9_advance_161 : decode cX9_advance 161 = .ok (.getfield 96, 3) := by decide +kernel
theorem dX9_advance_164 : decode cX9_advance 164 = .ok (.imul, 1) := by decide +kernel
theorem dX9_advance_165 : decode cX9_advance 165 = .ok (.aload_n 0, 1) := by decide +kernel
theorem dX9_advance_166 : decode cX9_advance 166 = .ok (.aload_n 0, 1) := by decide +kernel
theorem dX9_advance_167 : decode cX9_advance 167 = .ok (.getfield 82, 3) := by decide +kernel
theorem dX9_advance_170 : decode cX9_advance 170 = .ok (.invokevirtual 85, 3) := by decide +kernel
theorem dX9_advance_173 : decode cX9_advance 173 = .ok (.iadd, 1) := by decide +kernel
theorem dX9_advance_174 : decode cX9_advance 174 = .ok (.bipush 48, 2) := by decide +kernel
theorem dX9_advance_176 : decode cX9_advance 176 = .ok (.isub, 1) := by decide +kernel
theorem dX9_advance_177 : decode cX9_advance 177 = .ok (.goto 7, 3) := by decide +kernel
theorem dX9_advance_180 : decode cX9_advance 180 = .ok (.aload_n 0, 1) := by decide +kernel
theorem dX9_advance_181 : decode cX9_advance 181 = .ok (.getfield 96, 3) := by decide +kernel
theorem dX9_advance_184 : decode cX9_advance 184 = .ok (.putfield 96, 3) := by decide +kernel
theorem dX9_advance_187 : decode cX9_advance 187 = .ok (.aload_n 0, 1) := by decide +kernel
theorem dX9_advance_188 : decode cX9_advance 188 = .ok (.dup, 1) := by decide +kernel
theorem dX9_advance_189 : decode cX9_advance 189 = .ok (.getfield 82, 3) := by decide +kernel
theorem dX9_advance_192 : decode cX9_advance 192 = .ok (.iconst 1, 1) := by decide +kernel
theorem dX9_advance_193 : decode cX9_advance 193 = .ok (.iadd, 1) := by decide +kernel
theorem dX9_advance_194 : decode cX9_advance 194 = .ok (.putfield 82, 3) := by decide +kernel
theorem dX9_advance_197 : decode cX9_advance 197 = .ok (.goto (-71), 3) := by decide +kernel
theorem dX9_advance_200 : decode cX9_advance 200 = .ok (.aload_n 0, 1) := by decide +kernel
theorem dX9_advance_201 : decode cX9_advance 201 = .ok (.aload_n 0, 1) := by decide +kernel
theorem dX9_advance_202 : decode cX9_advance 202 = .ok (.getfield 82, 3) := by decide +kernel
theorem dX9_advance_205 : decode cX9_advance 205 = .ok (.aload_n 0, 1) := by decide +kernel
theorem dX9_advance_206 : decode cX9_advance 206 = .ok (.getfield 93, 3) := by decide +kernel
theorem dX9_advance_209 : decode cX9_advance 209 = .ok (.isub, 1) := by decide +kernel
theorem dX9_advance_210 : decode cX9_advance 210 = .ok (.iconst 4, 1) := by decide +kernel
theorem dX9_advance_211 : decode cX9_advance 211 = .ok (.if_icmp .le 7, 3) := by decide +kernel
theorem dX9_advance_214 : decode cX9_advance 214 = .ok (.iconst 4, 1) := by decide +kernel
theorem dX9_advance_215 : decode cX9_advance 215 = .ok (.goto 4, 3) := by decide +kernel
theorem dX9_advance_218 : decode cX9_advance 218 = .ok (.iconst 2, 1) := by decide +kernel
theorem dX9_advance_219 : decode cX9_advance 219 = .ok (.putfield 99, 3) := by decide +kernel
theorem dX9_advance_222 : decode cX9_advance 222 = .ok (.goto 28, 3) := by decide +kernel
theorem dX9_advance_225 : decode cX9_advance 225 = .ok (.aload_n 0, 1) := by decide +kernel
theorem dX9_advance_226 : decode cX9_advance 226 = .ok (.dup, 1) := by decide +kernel
theorem dX9_advance_227 : decode cX9_advance 227 = .ok (.getfield 82, 3) := by decide +kernel
theorem dX9_advance_230 : decode cX9_advance 230 = .ok (.iconst 1, 1) := by decide +kernel
theorem dX9_advance_231 : decode cX9_advance 231 = .ok (.iadd, 1) := by decide +kernel
theorem dX9_advance_232 : decode cX9_advance 232 = .ok (.putfield 82, 3) := by decide +kernel
theorem dX9_advance_235 : decode cX9_advance 235 = .ok (.aload_n 0, 1) := by decide +kernel
theorem dX9_advance_236 : decode cX9_advance 236 = .ok (.iload_n 1, 1) := by decide +kernel
theorem dX9_advance_237 : decode cX9_advance 237 = .ok (.bipush 59, 2) := by decide +kernel
theorem dX9_advance_239 : decode cX9_advance 239 = .ok (.if_icmp .ne 7, 3) := by decide +kernel
theorem dX9_advance_242 : decode cX9_advance 242 = .ok (.iconst 3, 1) := by decide +kernel
theorem dX9_advance_243 : decode cX9_advance 243 = .ok (.goto 4, 3) := by decide +kernel
theorem dX9_advance_246 : decode cX9_advance 246 = .ok (.iconst 4, 1) := by decide +kernel
theorem dX9_advance_247 : decode cX9_advance 247 = .ok (.putfield 99, 3) := by decide +kernel
theorem dX9_advance_250 : decode cX9_advance 250 = .ok (.return_, 1) := by decide +kernel
theorem dX9_isWord_0 : decode cX9_isWord 0 = .ok (.aload_n 0, 1) := by decide +kernel
theorem dX9_isWord_1 : decode cX9_isWord 1 = .ok (.getfield 99, 3) := by decide +kernel
theorem dX9_isWord_4 : decode cX9_isWord 4 = .ok (.iconst 1, 1) := by decide +kernel
theorem dX9_isWord_5 : decode cX9_isWord 5 = .ok (.if_icmp .ne 23, 3) := by decide +kernel
theorem dX9_isWord_8 : decode cX9_isWord 8 = .ok (.aload_n 0, 1) := by decide +kernel
theorem dX9_isWord_9 : decode cX9_isWord 9 = .ok (.getfield 82, 3) := by decide +kernel
theorem dX9_isWord_12 : decode cX9_isWord 12 = .ok (.aload_n 0, 1) := by decide +kernel
theorem dX9_isWord_13 : decode cX9_isWord 13 = .ok (.getfield 93, 3) := by decide +kernel
theorem dX9_isWord_16 : decode cX9_isWord 16 = .ok (.isub, 1) := by decide +kernel
theorem dX9_isWord_17 : decode cX9_isWord 17 = .ok (.aload_n 1, 1) := by decide +kernel
theorem dX9_isWord_18 : decode cX9_isWord 18 = .ok (.invokevirtual 105, 3) := by decide +kernel
theorem dX9_isWord_21 : decode cX9_isWord 21 = .ok (.if_icmp .ne 7, 3) := by decide +kernel
theorem dX9_isWord_24 : decode cX9_isWord 24 = .ok (.iconst 1, 1) := by decide +kernel
theorem dX9_isWord_25 : decode cX9_isWord 25 = .ok (.goto 4, 3) := by decide +kernel
theorem dX9_isWord_28 : decode cX9_isWord 28 = .ok (.iconst 0, 1) := by decide +kernel
theorem dX9_isWord_29 : decode cX9_isWord 29 = .ok (.istore_n 2, 1) := by decide +kernel
theorem dX9_isWord_30 : decode cX9_isWord 30 = .ok (.iconst 0, 1) := by decide +kernel
theorem dX9_isWord_31 : decode cX9_isWord 31 = .ok (.istore_n 3, 1) := by decide +kernel
theorem dX9_isWord_32 : decode cX9_isWord 32 = .ok (.iload_n 3, 1) := by decide +kernel
theorem dX9_isWord_33 : decode cX9_isWord 33 = .ok (.aload_n 1, 1) := by decide +kernel
theorem dX9_isWord_34 : decode cX9_isWord 34 = .ok (.invokevirtual 105, 3) := by decide +kernel
theorem dX9_isWord_37 : decode cX9_isWord 37 = .ok (.if_icmp .ge 38, 3) := by decide +kernel
theorem dX9_isWord_40 : decode cX9_isWord 40 = .ok (.iload_n 2, 1) := by decide +kernel
theorem dX9_isWord_41 : decode cX9_isWord 41 = .ok (.ifCond .eq 34, 3) := by decide +kernel
theorem dX9_isWord_44 : decode cX9_isWord 44 = .ok (.aload_n 0, 1) := by decide +kernel
theorem dX9_isWord_45 : decode cX9_isWord 45 = .ok (.getfield 23, 3) := by decide +kernel
theorem dX9_isWord_48 : decode cX9_isWord 48 = .ok (.aload_n 0, 1) := by decide +kernel
theorem dX9_isWord_49 : decode cX9_isWord 49 = .ok (.getfield 93, 3) := by decide +kernel
theorem dX9_isWord_52 : decode cX9_isWord 52 = .ok (.iload_n 3, 1) := by decide +kernel
theorem dX9_isWord_53 : decode cX9_isWord 53 = .ok (.iadd, 1) := by decide +kernel
theorem dX9_isWord_54 : decode cX9_isWord 54 = .ok (.baload, 1) := by decide +kernel
theorem dX9_isWord_55 : decode cX9_isWord 55 = .ok (.aload_n 1, 1) := by decide +kernel
theorem dX9_isWord_56 : decode cX9_isWord 56 = .ok (.iload_n 3, 1) := by decide +kernel
theorem dX9_isWord_57 : decode cX9_isWord 57 = .ok (.invokevirtual 110, 3) := by decide +kernel
theorem dX9_isWord_60 : decode cX9_isWord 60 = .ok (.if_icmp .ne 7, 3) := by decide +kernel
theorem dX9_isWord_63 : decode cX9_isWord 63 = .ok (.iconst 1, 1) := by decide +kernel
theorem dX9_isWord_64 : decode cX9_isWord 64 = .ok (.goto 4, 3) := by decide +kernel
theorem dX9_isWord_67 : decode cX9_isWord 67 = .ok (.iconst 0, 1) := by decide +kernel
theorem dX9_isWord_68 : decode cX9_isWord 68 = .ok (.istore_n 2, 1) := by decide +kernel
theorem dX9_isWord_69 : decode cX9_isWord 69 = .ok (.iinc 3 1, 3) := by decide +kernel
theorem dX9_isWord_72 : decode cX9_isWord 72 = .ok (.goto (-40), 3) := by decide +kernel
theorem dX9_isWord_75 : decode cX9_isWord 75 = .ok (.iload_n 2, 1) := by decide +kernel
theorem dX9_isWord_76 : decode cX9_isWord 76 = .ok (.ireturn, 1) := by decide +kernel
theorem dX9_fails_0 : decode cX9_fails 0 = .ok (.aload_n 0, 1) := by decide +kernel
theorem dX9_fails_1 : decode cX9_fails 1 = .ok (.getfield 114, 3) := by decide +kernel
theorem dX9_fails_4 : decode cX9_fails 4 = .ok (.ifCond .ne 16, 3) := by decide +kernel
theorem dX9_fails_7 : decode cX9_fails 7 = .ok (.aload_n 0, 1) := by decide +kernel
theorem dX9_fails_8 : decode cX9_fails 8 = .ok (.iload_n 1, 1) := by decide +kernel
theorem dX9_fails_9 : decode cX9_fails 9 = .ok (.putfield 114, 3) := by decide +kernel
theorem dX9_fails_12 : decode cX9_fails 12 = .ok (.aload_n 0, 1) := by decide +kernel
theorem dX9_fails_13 : decode cX9_fails 13 = .ok (.aload_n 0, 1) := by decide +kernel
theorem dX9_fails_14 : decode cX9_fails 14 = .ok (.getfield 93, 3) := by decide +kernel
theorem dX9_fails_17 : decode cX9_fails 17 = .ok (.putfield 27, 3) := by decide +kernel
theorem dX9_fails_20 : decode cX9_fails 20 = .ok (.iconst 0, 1) := by decide +kernel
theorem dX9_fails_21 : decode cX9_fails 21 = .ok (.ireturn, 1) := by decide +kernel
theorem dX9_starts_0 : decode cX9_starts 0 = .ok (.iload_n 2, 1) := by decide +kernel
theorem dX9_starts_1 : decode cX9_starts 1 = .ok (.ifCond .ne 9, 3) := by decide +kernel
theorem dX9_starts_4 : decode cX9_starts 4 = .ok (.aload_n 0, 1) := by decide +kernel
theorem dX9_starts_5 : decode cX9_starts 5 = .ok (.iload_n 1, 1) := by decide +kernel
theorem dX9_starts_6 : decode cX9_starts 6 = .ok (.invokevirtual 117, 3) := by decide +kernel
theorem dX9_starts_9 : decode cX9_starts 9 = .ok (.ireturn, 1) := by decide +kernel
theorem dX9_starts_10 : decode cX9_starts 10 = .ok (.aload_n 0, 1) := by decide +kernel
theorem dX9_starts_11 : decode cX9_starts 11 = .ok (.invokevirtual 121, 3) := by decide +kernel
theorem dX9_starts_14 : decode cX9_starts 14 = .ok (.iconst 1, 1) := by decide +kernel
theorem dX9_starts_15 : decode cX9_starts 15 = .ok (.ireturn, 1) := by decide +kernel
theorem dX9_takes_0 : decode cX9_takes 0 = .ok (.aload_n 0, 1) := by decide +kernel
theorem dX9_takes_1 : decode cX9_takes 1 = .ok (.getfield 99, 3) := by decide +kernel
theorem dX9_takes_4 : decode cX9_takes 4 = .ok (.iconst 2, 1) := by decide +kernel
theorem dX9_takes_5 : decode cX9_takes 5 = .ok (.if_icmp .eq 9, 3) := by decide +kernel
theorem dX9_takes_8 : decode cX9_takes 8 = .ok (.aload_n 0, 1) := by decide +kernel
theorem dX9_takes_9 : decode cX9_takes 9 = .ok (.iconst 1, 1) := by decide +kernel
theorem dX9_takes_10 : decode cX9_takes 10 = .ok (.invokevirtual 117, 3) := by decide +kernel
theorem dX9_takes_13 : decode cX9_takes 13 = .ok (.ireturn, 1) := by decide +kernel
theorem dX9_takes_14 : decode cX9_takes 14 = .ok (.aload_n 0, 1) := by decide +kernel
theorem dX9_takes_15 : decode cX9_takes 15 = .ok (.getfield 96, 3) := by decide +kernel
theorem dX9_takes_18 : decode cX9_takes 18 = .ok (.iload_n 1, 1) := by decide +kernel
theorem dX9_takes_19 : decode cX9_takes 19 = .ok (.iload_n 2, 1) := by decide +kernel
theorem dX9_takes_20 : decode cX9_takes 20 = .ok (.invokestatic 89, 3) := by decide +kernel
theorem dX9_takes_23 : decode cX9_takes 23 = .ok (.ifCond .ne 9, 3) := by decide +kernel
theorem dX9_takes_26 : decode cX9_takes 26 = .ok (.aload_n 0, 1) := by decide +kernel
theorem dX9_takes_27 : decode cX9_takes 27 = .ok (.iconst 3, 1) := by decide +kernel
theorem dX9_takes_28 : decode cX9_takes 28 = .ok (.invokevirtual 117, 3) := by decide +kernel
theorem dX9_takes_31 : decode cX9_takes 31 = .ok (.ireturn, 1) := by decide +kernel
theorem dX9_takes_32 : decode cX9_takes 32 = .ok (.aload_n 0, 1) := by decide +kernel
theorem dX9_takes_33 : decode cX9_takes 33 = .ok (.aload_n 0, 1) := by decide +kernel
theorem dX9_takes_34 : decode cX9_takes 34 = .ok (.getfield 96, 3) := by decide +kernel
theorem dX9_takes_37 : decode cX9_takes 37 = .ok (.putfield 124, 3) := by decide +kernel
theorem dX9_takes_40 : decode cX9_takes 40 = .ok (.aload_n 0, 1) := by decide +kernel
theorem dX9_takes_41 : decode cX9_takes 41 = .ok (.invokevirtual 121, 3) := by decide +kernel
theorem dX9_takes_44 : decode cX9_takes 44 = .ok (.iconst 1, 1) := by decide +kernel
theorem dX9_takes_45 : decode cX9_takes 45 = .ok (.ireturn, 1) := by decide +kernel
theorem dX9_lays_0 : decode cX9_lays 0 = .ok (.aload_n 0, 1) := by decide +kernel
theorem dX9_lays_1 : decode cX9_lays 1 = .ok (.iload_n 3, 1) := by decide +kernel
theorem dX9_lays_2 : decode cX9_lays 2 = .ok (.iload 4, 2) := by decide +kernel
theorem dX9_lays_4 : decode cX9_lays 4 = .ok (.invokevirtual 127, 3) := by decide +kernel
theorem dX9_lays_7 : decode cX9_lays 7 = .ok (.ifCond .ne 5, 3) := by decide +kernel
theorem dX9_lays_10 : decode cX9_lays 10 = .ok (.iconst 0, 1) := by decide +kernel
theorem dX9_lays_11 : decode cX9_lays 11 = .ok (.ireturn, 1) := by decide +kernel
theorem dX9_lays_12 : decode cX9_lays 12 = .ok (.aload_n 1, 1) := by decide +kernel
theorem dX9_lays_13 : decode cX9_lays 13 = .ok (.iload_n 2, 1) := by decide +kernel
theorem dX9_lays_14 : decode cX9_lays 14 = .ok (.aload_n 0, 1) := by decide +kernel
theorem dX9_lays_15 : decode cX9_lays 15 = .ok (.getfield 124, 3) := by decide +kernel
theorem dX9_lays_18 : decode cX9_lays 18 = .ok (.iastore, 1) := by decide +kernel
theorem dX9_lays_19 : decode cX9_lays 19 = .ok (.iconst 1, 1) := by decide +kernel
theorem dX9_lays_20 : decode cX9_lays 20 = .ok (.ireturn, 1) := by decide +kernel
theorem dX9_closes_0 : decode cX9_closes 0 = .ok (.aload_n 0, 1) := by decide +kernel
theorem dX9_closes_1 : decode cX9_closes 1 = .ok (.iconst 1, 1) := by decide +kernel
theorem dX9_closes_2 : decode cX9_closes 2 = .ok (.aload_n 0, 1) := by decide +kernel
theorem dX9_closes_3 : decode cX9_closes 3 = .ok (.getfield 99, 3) := by decide +kernel
theorem dX9_closes_6 : decode cX9_closes 6 = .ok (.iconst 3, 1) := by decide +kernel
theorem dX9_closes_7 : decode cX9_closes 7 = .ok (.if_icmp .ne 7, 3) := by decide +kernel
theorem dX9_closes_10 : decode cX9_closes 10 = .ok (.iconst 1, 1) := by decide +kernel
theorem dX9_closes_11 : decode cX9_closes 11 = .ok (.goto 4, 3) := by decide +kernel
theorem dX9_closes_14 : decode cX9_closes 14 = .ok (.iconst 0, 1) := by decide +kernel
theorem dX9_closes_15 : decode cX9_closes 15 = .ok (.invokevirtual 131, 3) := by decide +kernel
theorem dX9_closes_18 : decode cX9_closes 18 = .ok (.ireturn, 1) := by decide +kernel
theorem dX9_named_0 : decode cX9_named 0 = .ok (.iconst 0, 1) := by decide +kernel
theorem dX9_named_1 : decode cX9_named 1 = .ok (.istore 4, 2) := by decide +kernel
theorem dX9_named_3 : decode cX9_named 3 = .ok (.iload 4, 2) := by decide +kernel
theorem dX9_named_5 : decode cX9_named 5 = .ok (.iload_n 1, 1) := by decide +kernel
theorem dX9_named_6 : decode cX9_named 6 = .ok (.if_icmp .ge 21, 3) := by decide +kernel
theorem dX9_named_9 : decode cX9_named 9 = .ok (.aload_n 0, 1) := by decide +kernel
theorem dX9_named_10 : decode cX9_named 10 = .ok (.iload 4, 2) := by decide +kernel
theorem dX9_named_12 : decode cX9_named 12 = .ok (.laload, 1) := by decide +kernel
theorem dX9_named_13 : decode cX9_named 13 = .ok (.lload_n 2, 1) := by decide +kernel
theorem dX9_named_14 : decode cX9_named 14 = .ok (.lcmp, 1) := by decide +kernel
theorem dX9_named_15 : decode cX9_named 15 = .ok (.ifCond .ne 6, 3) := by decide +kernel
theorem dX9_named_18 : decode cX9_named 18 = .ok (.iload 4, 2) := by decide +kernel
theorem dX9_named_20 : decode cX9_named 20 = .ok (.ireturn, 1) := by decide +kernel
theorem dX9_named_21 : decode cX9_named 21 = .ok (.iinc 4 1, 3) := by decide +kernel
theorem dX9_named_24 : decode cX9_named 24 = .ok (.goto (-21), 3) := by decide +kernel
theorem dX9_named_27 : decode cX9_named 27 = .ok (.iconst (-1), 1) := by decide +kernel
theorem dX9_named_28 : decode cX9_named 28 = .ok (.ireturn, 1) := by decide +kernel
theorem dX9_programLine_0 : decode cX9_programLine 0 = .ok (.aload_n 0, 1) := by decide +kernel
theorem dX9_programLine_1 : decode cX9_programLine 1 = .ok (.getfield 135, 3) := by decide +kernel
theorem dX9_programLine_4 : decode cX9_programLine 4 = .ok (.istore_n 1, 1) := by decide +kernel
theorem dX9_programLine_5 : decode cX9_programLine 5 = .ok (.aload_n 0, 1) := by decide +kernel
theorem dX9_programLine_6 : decode cX9_programLine 6 = .ok (.iconst 5, 1) := by decide +kernel
theorem dX9_programLine_7 : decode cX9_programLine 7 = .ok (.iload_n 1, 1) := by decide +kernel
theorem dX9_programLine_8 : decode cX9_programLine 8 = .ok (.bipush 10, 2) := by decide +kernel
theorem dX9_programLine_10 : decode cX9_programLine 10 = .ok (.if_icmp .ge 7, 3) := by decide +kernel
theorem dX9_programLine_13 : decode cX9_programLine 13 = .ok (.iconst 1, 1) := by decide +kernel
theorem dX9_programLine_14 : decode cX9_programLine 14 = .ok (.goto 4, 3) := by decide +kernel
theorem dX9_programLine_17 : decode cX9_programLine 17 = .ok (.iconst 0, 1) := by decide +kernel
theorem dX9_programLine_18 : decode cX9_programLine 18 = .ok (.invokevirtual 131, 3) := by decide +kernel
theorem dX9_programLine_21 : decode cX9_programLine 21 = .ok (.ifCond .ne 5, 3) := by decide +kernel
theorem dX9_programLine_24 : decode cX9_programLine 24 = .ok (.iconst 0, 1) := by decide +kernel
theorem dX9_programLine_25 : decode cX9_programLine 25 = .ok (.ireturn, 1) := by decide +kernel
theorem dX9_programLine_26 : decode cX9_programLine 26 = .ok (.aload_n 0, 1) := by decide +kernel
theorem dX9_programLine_27 : decode cX9_programLine 27 = .ok (.getfield 99, 3) := by decide +kernel
theorem dX9_programLine_30 : decode cX9_programLine 30 = .ok (.iconst 1, 1) := by decide +kernel
theorem dX9_programLine_31 : decode cX9_programLine 31 = .ok (.if_icmp .eq 9, 3) := by decide +kernel
theorem dX9_programLine_34 : decode cX9_programLine 34 = .ok (.aload_n 0, 1) := by decide +kernel
theorem dX9_programLine_35 : decode cX9_programLine 35 = .ok (.iconst 1, 1) := by decide +kernel
theorem dX9_programLine_36 : decode cX9_programLine 36 = .ok (.invokevirtual 117, 3) := by decide +kernel
theorem dX9_programLine_39 : decode cX9_programLine 39 = .ok (.ireturn, 1) := by decide +kernel
theorem dX9_programLine_40 : decode cX9_programLine 40 = .ok (.aload_n 0, 1) := by decide +kernel
theorem dX9_programLine_41 : decode cX9_programLine 41 = .ok (.getfield 78, 3) := by decide +kernel
theorem dX9_programLine_44 : decode cX9_programLine 44 = .ok (.lstore_n 2, 1) := by decide +kernel
theorem dX9_programLine_45 : decode cX9_programLine 45 = .ok (.aload_n 0, 1) := by decide +kernel
theorem dX9_programLine_46 : decode cX9_programLine 46 = .ok (.iconst 2, 1) := by decide +kernel
theorem dX9_programLine_47 : decode cX9_programLine 47 = .ok (.aload_n 0, 1) := by decide +kernel
theorem dX9_programLine_48 : decode cX9_programLine 48 = .ok (.getfield 34, 3) := by decide +kernel
theorem dX9_programLine_51 : decode cX9_programLine 51 = .ok (.iload_n 1, 1) := by decide +kernel
theorem dX9_programLine_52 : decode cX9_programLine 52 = .ok (.lload_n 2, 1) := by decide +kernel
theorem dX9_programLine_53 : decode cX9_programLine 53 = .ok (.invokestatic 138, 3) := by decide +kernel
theorem dX9_programLine_56 : decode cX9_programLine 56 = .ok (.iconst (-1), 1) := by decide +kernel
theorem dX9_programLine_57 : decode cX9_programLine 57 = .ok (.if_icmp .ne 7, 3) := by decide +kernel
theorem dX9_programLine_60 : decode cX9_programLine 60 = .ok (.iconst 1, 1) := by decide +kernel
theorem dX9_programLine_61 : decode cX9_programLine 61 = .ok (.goto 4, 3) := by decide +kernel
theorem dX9_programLine_64 : decode cX9_programLine 64 = .ok (.iconst 0, 1) := by decide +kernel
theorem dX9_programLine_65 : decode cX9_programLine 65 = .ok (.invokevirtual 131, 3) := by decide +kernel
theorem dX9_programLine_68 : decode cX9_programLine 68 = .ok (.ifCond .ne 5, 3) := by decide +kernel
theorem dX9_programLine_71 : decode cX9_programLine 71 = .ok (.iconst 0, 1) := by decide +kernel
theorem dX9_programLine_72 : decode cX9_programLine 72 = .ok (.ireturn, 1) := by decide +kernel
theorem dX9_programLine_73 : decode cX9_programLine 73 = .ok (.aload_n 0, 1) := by decide +kernel
theorem dX9_programLine_74 : decode cX9_programLine 74 = .ok (.getfield 34, 3) := by decide +kernel
theorem dX9_programLine_77 : decode cX9_programLine 77 = .ok (.iload_n 1, 1) := by decide +kernel
theorem dX9_programLine_78 : decode cX9_programLine 78 = .ok (.lload_n 2, 1) := by decide +kernel
theorem dX9_programLine_79 : decode cX9_programLine 79 = .ok (.lastore, 1) := by decide +kernel
theorem dX9_programLine_80 : decode cX9_programLine 80 = .ok (.bipush 8, 2) := by decide +kernel
theorem dX9_programLine_82 : decode cX9_programLine 82 = .ok (.iload_n 1, 1) := by decide +kernel
theorem dX9_programLine_83 : decode cX9_programLine 83 = .ok (.imul, 1) := by decide +kernel
theorem dX9_programLine_84 : decode cX9_programLine 84 = .ok (.istore 4, 2) := by decide +kernel
theorem dX9_programLine_86 : decode cX9_programLine 86 = .ok (.aload_n 0, 1) := by decide +kernel
theorem dX9_programLine_87 : decode cX9_programLine 87 = .ok (.getfield 31, 3) := by decide +kernel
theorem dX9_programLine_90 : decode cX9_programLine 90 = .ok (.iload 4, 2) := by decide +kernel
theorem dX9_programLine_92 : decode cX9_programLine 92 = .ok (.bipush 7, 2) := by decide +kernel
theorem dX9_programLine_94 : decode cX9_programLine 94 = .ok (.iadd, 1) := by decide +kernel
theorem dX9_programLine_95 : decode cX9_programLine 95 = .ok (.iconst 0, 1) := by decide +kernel
theorem dX9_programLine_96 : decode cX9_programLine 96 = .ok (.iastore, 1) := by decide +kernel
theorem dX9_programLine_97 : decode cX9_programLine 97 = .ok (.aload_n 0, 1) := by decide +kernel
theorem dX9_programLine_98 : decode cX9_programLine 98 = .ok (.aload_n 0, 1) := by decide +kernel
theorem dX9_programLine_99 : decode cX9_programLine 99 = .ok (.getfield 31, 3) := by decide +kernel
theorem dX9_programLine_102 : decode cX9_programLine 102 = .ok (.iload 4, 2) := by decide +kernel
theorem dX9_programLine_104 : decode cX9_programLine 104 = .ok (.iconst 0, 1) := by decide +kernel
theorem dX9_programLine_105 : decode cX9_programLine 105 = .ok (.iadd, 1) := by decide +kernel
theorem dX9_programLine_106 : decode cX9_programLine 106 = .ok (.iconst 1, 1) := by decide +kernel
theorem dX9_programLine_107 : decode cX9_programLine 107 = .ok (.sipush 400, 3) := by decide +kernel
theorem dX9_programLine_110 : decode cX9_programLine 110 = .ok (.invokevirtual 142, 3) := by decide +kernel
theorem dX9_programLine_113 : decode cX9_programLine 113 = .ok (.ifCond .eq 131, 3) := by decide +kernel
theorem dX9_programLine_116 : decode cX9_programLine 116 = .ok (.aload_n 0, 1) := by decide +kernel
theorem dX9_programLine_117 : decode cX9_programLine 117 = .ok (.aload_n 0, 1) := by decide +kernel
theorem dX9_programLine_118 : decode cX9_programLine 118 = .ok (.getfield 31, 3) := by decide +kernel
theorem dX9_programLine_121 : decode cX9_programLine 121 = .ok (.iload 4, 2) := by decide +kernel
theorem dX9_programLine_123 : decode cX9_programLine 123 = .ok (.iconst 1, 1) := by decide +kernel
theorem dX9_programLine_124 : decode cX9_programLine 124 = .ok (.iadd, 1) := by decide +kernel
theorem dX9_programLine_125 : decode cX9_programLine 125 = .ok (.iconst 0, 1) := by decide +kernel
theorem dX9_programLine_126 : decode cX9_programLine 126 = .ok (.sipush 200, 3) := by decide +kernel
theorem dX9_programLine_129 : decode cX9_programLine 129 = .ok (.invokevirtual 142, 3) := by decide +kernel
theorem dX9_programLine_132 : decode cX9_programLine 132 = .ok (.ifCond .eq 112, 3) := by decide +kernel
theorem dX9_programLine_135 : decode cX9_programLine 135 = .ok (.aload_n 0, 1) := by decide +kernel
theorem dX9_programLine_136 : decode cX9_programLine 136 = .ok (.aload_n 0, 1) := by decide +kernel
theorem dX9_programLine_137 : decode cX9_programLine 137 = .ok (.getfield 31, 3) := by decide +kernel
theorem dX9_programLine_140 : decode cX9_programLine 140 = .ok (.iload 4, 2) := by decide +kernel
theorem dX9_programLine_142 : decode cX9_programLine 142 = .ok (.iconst 2, 1) := by decide +kernel
theorem dX9_programLine_143 : decode cX9_programLine 143 = .ok (.iadd, 1) := by decide +kernel
theorem dX9_programLine_144 : decode cX9_programLine 144 = .ok (.iconst 0, 1) := by decide +kernel
theorem dX9_programLine_145 : decode cX9_programLine 145 = .ok (.bipush 20, 2) := by decide +kernel
theorem dX9_programLine_147 : decode cX9_programLine 147 = .ok (.invokevirtual 142, 3) := by decide +kernel
theorem dX9_programLine_150 : decode cX9_programLine 150 = .ok (.ifCond .eq 94, 3) := by decide +kernel
theorem dX9_programLine_153 : decode cX9_programLine 153 = .ok (.aload_n 0, 1) := by decide +kernel
theorem dX9_programLine_154 : decode cX9_programLine 154 = .ok (.aload_n 0, 1) := by decide +kernel
theorem dX9_programLine_155 : decode cX9_programLine 155 = .ok (.getfield 31, 3) := by decide +kernel
theorem dX9_programLine_158 : decode cX9_programLine 158 = .ok (.iload 4, 2) := by decide +kernel
theorem dX9_programLine_160 : decode cX9_programLine 160 = .ok (.iconst 3, 1) := by decide +kernel
theorem dX9_programLine_161 : decode cX9_programLine 161 = .ok (.iadd, 1) := by decide +kernel
theorem dX9_programLine_162 : decode cX9_programLine 162 = .ok (.aload_n 0, 1) := by decide +kernel
theorem dX9_programLine_163 : decode cX9_programLine 163 = .ok (.getfield 31, 3) := by decide +kernel
theorem dX9_programLine_166 : decode cX9_programLine 166 = .ok (.iload 4, 2) := by decide +kernel
theorem dX9_programLine_168 : decode cX9_programLine 168 = .ok (.iconst 0, 1) := by decide +kernel
theorem dX9_programLine_169 : decode cX9_programLine 169 = .ok (.iadd, 1) := by decide +kernel
theorem dX9_programLine_170 : decode cX9_programLine 170 = .ok (.iaload, 1) := by decide +kernel
theorem dX9_programLine_171 : decode cX9_programLine 171 = .ok (.sipush 999, 3) := by decide +kernel
theorem dX9_programLine_174 : decode cX9_programLine 174 = .ok (.invokevirtual 142, 3) := by decide +kernel
theorem dX9_programLine_177 : decode cX9_programLine 177 = .ok (.ifCond .eq 67, 3) := by decide +kernel
theorem dX9_programLine_180 : decode cX9_programLine 180 = .ok (.aload_n 0, 1) := by decide +kernel
theorem dX9_programLine_181 : decode cX9_programLine 181 = .ok (.aload_n 0, 1) := by decide +kernel
theorem dX9_programLine_182 : decode cX9_programLine 182 = .ok (.getfield 31, 3) := by decide +kernel
theorem dX9_programLine_185 : decode cX9_programLine 185 = .ok (.iload 4, 2) := by decide +kernel
theorem dX9_programLine_187 : decode cX9_programLine 187 = .ok (.iconst 4, 1) := by decide +kernel
theorem dX9_programLine_188 : decode cX9_programLine 188 = .ok (.iadd, 1) := by decide +kernel
theorem dX9_programLine_189 : decode cX9_programLine 189 = .ok (.bipush 10, 2) := by decide +kernel
theorem dX9_programLine_191 : decode cX9_programLine 191 = .ok (.bipush 100, 2) := by decide +kernel
theorem dX9_programLine_193 : decode cX9_programLine 193 = .ok (.invokevirtual 142, 3) := by decide +kernel
theorem dX9_programLine_196 : decode cX9_programLine 196 = .ok (.ifCond .eq 48, 3) := by decide +kernel
theorem dX9_programLine_199 : decode cX9_programLine 199 = .ok (.aload_n 0, 1) := by decide +kernel
theorem dX9_programLine_200 : decode cX9_programLine 200 = .ok (.aload_n 0, 1) := by decide +kernel
theorem dX9_programLine_201 : decode cX9_programLine 201 = .ok (.getfield 31, 3) := by decide +kernel
theorem dX9_programLine_204 : decode cX9_programLine 204 = .ok (.iload 4, 2) := by decide +kernel
theorem dX9_programLine_206 : decode cX9_programLine 206 = .ok (.iconst 5, 1) := by decide +kernel
theorem dX9_programLine_207 : decode cX9_programLine 207 = .ok (.iadd, 1) := by decide +kernel
theorem dX9_programLine_208 : decode cX9_programLine 208 = .ok (.iconst 1, 1) := by decide +kernel
theorem dX9_programLine_209 : decode cX9_programLine 209 = .ok (.aload_n 0, 1) := by decide +kernel
theorem dX9_programLine_210 : decode cX9_programLine 210 = .ok (.getfield 31, 3) := by decide +kernel
theorem dX9_programLine_213 : decode cX9_programLine 213 = .ok (.iload 4, 2) := by decide +kernel
theorem dX9_programLine_215 : decode cX9_programLine 215 = .ok (.iconst 0, 1) := by decide +kernel
theorem dX9_programLine_216 : decode cX9_programLine 216 = .ok (.iadd, 1) := by decide +kernel
theorem dX9_programLine_217 : decode cX9_programLine 217 = .ok (.iaload, 1) := by decide +kernel
theorem dX9_programLine_218 : decode cX9_programLine 218 = .ok (.invokevirtual 142, 3) := by decide +kernel
theorem dX9_programLine_221 : decode cX9_programLine 221 = .ok (.ifCond .eq 23, 3) := by decide +kernel
theorem dX9_programLine_224 : decode cX9_programLine 224 = .ok (.aload_n 0, 1) := by decide +kernel
theorem dX9_programLine_225 : decode cX9_programLine 225 = .ok (.aload_n 0, 1) := by decide +kernel
theorem dX9_programLine_226 : decode cX9_programLine 226 = .ok (.getfield 31, 3) := by decide +kernel
theorem dX9_programLine_229 : decode cX9_programLine 229 = .ok (.iload 4, 2) := by decide +kernel
theorem dX9_programLine_231 : decode cX9_programLine 231 = .ok (.bipush 6, 2) := by decide +kernel
theorem dX9_programLine_233 : decode cX9_programLine 233 = .ok (.iadd, 1) := by decide +kernel
theorem dX9_programLine_234 : decode cX9_programLine 234 = .ok (.iconst 0, 1) := by decide +kernel
theorem dX9_programLine_235 : decode cX9_programLine 235 = .ok (.sipush 9999, 3) := by decide +kernel
theorem dX9_programLine_238 : decode cX9_programLine 238 = .ok (.invokevirtual 142, 3) := by decide +kernel
theorem dX9_programLine_241 : decode cX9_programLine 241 = .ok (.ifCond .ne 5, 3) := by decide +kernel
theorem dX9_programLine_244 : decode cX9_programLine 244 = .ok (.iconst 0, 1) := by decide +kernel
theorem dX9_programLine_245 : decode cX9_programLine 245 = .ok (.ireturn, 1) := by decide +kernel
theorem dX9_programLine_246 : decode cX9_programLine 246 = .ok (.aload_n 0, 1) := by decide +kernel
theorem dX9_programLine_247 : decode cX9_programLine 247 = .ok (.dup, 1) := by decide +kernel
theorem dX9_programLine_248 : decode cX9_programLine 248 = .ok (.getfield 135, 3) := by decide +kernel
theorem dX9_programLine_251 : decode cX9_programLine 251 = .ok (.iconst 1, 1) := by decide +kernel
theorem dX9_programLine_252 : decode cX9_programLine 252 = .ok (.iadd, 1) := by decide +kernel
theorem dX9_programLine_253 : decode cX9_programLine 253 = .ok (.putfield 135, 3) := by decide +kernel
theorem dX9_programLine_256 : decode cX9_programLine 256 = .ok (.iconst 1, 1) := by decide +kernel
theorem dX9_programLine_257 : decode cX9_programLine 257 = .ok (.ireturn, 1) := by decide +kernel
theorem dX9_workLine_0 : decode cX9_workLine 0 = .ok (.aload_n 0, 1) := by decide +kernel
theorem dX9_workLine_1 : decode cX9_workLine 1 = .ok (.invokevirtual 121, 3) := by decide +kernel
theorem dX9_workLine_4 : decode cX9_workLine 4 = .ok (.aload_n 0, 1) := by decide +kernel
theorem dX9_workLine_5 : decode cX9_workLine 5 = .ok (.getfield 99, 3) := by decide +kernel
theorem dX9_workLine_8 : decode cX9_workLine 8 = .ok (.iconst 1, 1) := by decide +kernel
theorem dX9_workLine_9 : decode cX9_workLine 9 = .ok (.if_icmp .eq 9, 3) := by decide +kernel
theorem dX9_workLine_12 : decode cX9_workLine 12 = .ok (.aload_n 0, 1) := by decide +kernel
theorem dX9_workLine_13 : decode cX9_workLine 13 = .ok (.iconst 1, 1) := by decide +kernel
theorem dX9_workLine_14 : decode cX9_workLine 14 = .ok (.invokevirtual 117, 3) := by decide +kernel
theorem dX9_workLine_17 : decode cX9_workLine 17 = .ok (.ireturn, 1) := by decide +kernel
theorem dX9_workLine_18 : decode cX9_workLine 18 = .ok (.aload_n 0, 1) := by decide +kernel
theorem dX9_workLine_19 : decode cX9_workLine 19 = .ok (.getfield 34, 3) := by decide +kernel
theorem dX9_workLine_22 : decode cX9_workLine 22 = .ok (.aload_n 0, 1) := by decide +kernel
theorem dX9_workLine_23 : decode cX9_workLine 23 = .ok (.getfield 135, 3) := by decide +kernel
theorem dX9_workLine_26 : decode cX9_workLine 26 = .ok (.aload_n 0, 1) := by decide +kernel
theorem dX9_workLine_27 : decode cX9_workLine 27 = .ok (.getfield 78, 3) := by decide +kernel
theorem dX9_workLine_30 : decode cX9_workLine 30 = .ok (.invokestatic 138, 3) := by decide +kernel
theorem dX9_workLine_33 : decode cX9_workLine 33 = .ok (.istore_n 1, 1) := by decide +kernel
theorem dX9_workLine_34 : decode cX9_workLine 34 = .ok (.iload_n 1, 1) := by decide +kernel
theorem dX9_workLine_35 : decode cX9_workLine 35 = .ok (.iconst (-1), 1) := by decide +kernel
theorem dX9_workLine_36 : decode cX9_workLine 36 = .ok (.if_icmp .ne 9, 3) := by decide +kernel
theorem dX9_workLine_39 : decode cX9_workLine 39 = .ok (.aload_n 0, 1) := by decide +kernel
theorem dX9_workLine_40 : decode cX9_workLine 40 = .ok (.iconst 4, 1) := by decide +kernel
theorem dX9_workLine_41 : decode cX9_workLine 41 = .ok (.invokevirtual 117, 3) := by decide +kernel
theorem dX9_workLine_44 : decode cX9_workLine 44 = .ok (.ireturn, 1) := by decide +kernel
theorem dX9_workLine_45 : decode cX9_workLine 45 = .ok (.aload_n 0, 1) := by decide +kernel
theorem dX9_workLine_46 : decode cX9_workLine 46 = .ok (.iconst 2, 1) := by decide +kernel
theorem dX9_workLine_47 : decode cX9_workLine 47 = .ok (.aload_n 0, 1) := by decide +kernel
theorem dX9_workLine_48 : decode cX9_workLine 48 = .ok (.getfield 31, 3) := by decide +kernel
theorem dX9_workLine_51 : decode cX9_workLine 51 = .ok (.bipush 8, 2) := by decide +kernel
theorem dX9_workLine_53 : decode cX9_workLine 53 = .ok (.iload_n 1, 1) := by decide +kernel
theorem dX9_workLine_54 : decode cX9_workLine 54 = .ok (.imul, 1) := by decide +kernel
theorem dX9_workLine_55 : decode cX9_workLine 55 = .ok (.bipush 7, 2) := by decide +kernel
theorem dX9_workLine_57 : decode cX9_workLine 57 = .ok (.iadd, 1) := by decide +kernel
theorem dX9_workLine_58 : decode cX9_workLine 58 = .ok (.iaload, 1) := by decide +kernel
theorem dX9_workLine_59 : decode cX9_workLine 59 = .ok (.ifCond .ne 7, 3) := by decide +kernel
theorem dX9_workLine_62 : decode cX9_workLine 62 = .ok (.iconst 1, 1) := by decide +kernel
theorem dX9_workLine_63 : decode cX9_workLine 63 = .ok (.goto 4, 3) := by decide +kernel
theorem dX9_workLine_66 : decode cX9_workLine 66 = .ok (.iconst 0, 1) := by decide +kernel
theorem dX9_workLine_67 : decode cX9_workLine 67 = .ok (.invokevirtual 131, 3) := by decide +kernel
theorem dX9_workLine_70 : decode cX9_workLine 70 = .ok (.ifCond .eq 28, 3) := by decide +kernel
theorem dX9_workLine_73 : decode cX9_workLine 73 = .ok (.aload_n 0, 1) := by decide +kernel
theorem dX9_workLine_74 : decode cX9_workLine 74 = .ok (.aload_n 0, 1) := by decide +kernel
theorem dX9_workLine_75 : decode cX9_workLine 75 = .ok (.getfield 31, 3) := by decide +kernel
theorem dX9_workLine_78 : decode cX9_workLine 78 = .ok (.bipush 8, 2) := by decide +kernel
theorem dX9_workLine_80 : decode cX9_workLine 80 = .ok (.iload_n 1, 1) := by decide +kernel
theorem dX9_workLine_81 : decode cX9_workLine 81 = .ok (.imul, 1) := by decide +kernel
theorem dX9_workLine_82 : decode cX9_workLine 82 = .ok (.bipush 7, 2) := by decide +kernel
theorem dX9_workLine_84 : decode cX9_workLine 84 = .ok (.iadd, 1) := by decide +kernel
theorem dX9_workLine_85 : decode cX9_workLine 85 = .ok (.iconst 1, 1) := by decide +kernel
theorem dX9_workLine_86 : decode cX9_workLine 86 = .ok (.bipush 60, 2) := by decide +kernel
theorem dX9_workLine_88 : decode cX9_workLine 88 = .ok (.invokevirtual 142, 3) := by decide +kernel
theorem dX9_workLine_91 : decode cX9_workLine 91 = .ok (.ifCond .eq 7, 3) := by decide +kernel
theorem dX9_workLine_94 : decode cX9_workLine 94 = .ok (.iconst 1, 1) := by decide +kernel
theorem dX9_workLine_95 : decode cX9_workLine 95 = .ok (.goto 4, 3) := by decide +kernel
theorem dX9_workLine_98 : decode cX9_workLine 98 = .ok (.iconst 0, 1) := by decide +kernel
theorem dX9_workLine_99 : decode cX9_workLine 99 = .ok (.ireturn, 1) := by decide +kernel
theorem dX9_once_0 : decode cX9_once 0 = .ok (.aload_n 0, 1) := by decide +kernel
theorem dX9_once_1 : decode cX9_once 1 = .ok (.getfield 146, 3) := by decide +kernel
theorem dX9_once_4 : decode cX9_once 4 = .ok (.iload_n 1, 1) := by decide +kernel
theorem dX9_once_5 : decode cX9_once 5 = .ok (.ishr, 1) := by decide +kernel
theorem dX9_once_6 : decode cX9_once 6 = .ok (.iconst 1, 1) := by decide +kernel
theorem dX9_once_7 : decode cX9_once 7 = .ok (.iand, 1) := by decide +kernel
theorem dX9_once_8 : decode cX9_once 8 = .ok (.ifCond .ne 7, 3) := by decide +kernel
theorem dX9_once_11 : decode cX9_once 11 = .ok (.iconst 1, 1) := by decide +kernel
theorem dX9_once_12 : decode cX9_once 12 = .ok (.goto 4, 3) := by decide +kernel
theorem dX9_once_15 : decode cX9_once 15 = .ok (.iconst 0, 1) := by decide +kernel
theorem dX9_once_16 : decode cX9_once 16 = .ok (.istore_n 2, 1) := by decide +kernel
theorem dX9_once_17 : decode cX9_once 17 = .ok (.aload_n 0, 1) := by decide +kernel
theorem dX9_once_18 : decode cX9_once 18 = .ok (.dup, 1) := by decide +kernel
theorem dX9_once_19 : decode cX9_once 19 = .ok (.getfield 146, 3) := by decide +kernel
theorem dX9_once_22 : decode cX9_once 22 = .ok (.iconst 1, 1) := by decide +kernel
theorem dX9_once_23 : decode cX9_once 23 = .ok (.iload_n 1, 1) := by decide +kernel
theorem dX9_once_24 : decode cX9_once 24 = .ok (.ishl, 1) := by decide +kernel
theorem dX9_once_25 : decode cX9_once 25 = .ok (.ior, 1) := by decide +kernel
theorem dX9_once_26 : decode cX9_once 26 = .ok (.putfield 146, 3) := by decide +kernel
theorem dX9_once_29 : decode cX9_once 29 = .ok (.aload_n 0, 1) := by decide +kernel
theorem dX9_once_30 : decode cX9_once 30 = .ok (.iconst 2, 1) := by decide +kernel
theorem dX9_once_31 : decode cX9_once 31 = .ok (.iload_n 2, 1) := by decide +kernel
theorem dX9_once_32 : decode cX9_once 32 = .ok (.invokevirtual 131, 3) := by decide +kernel
theorem dX9_once_35 : decode cX9_once 35 = .ok (.ireturn, 1) := by decide +kernel
theorem dX9_costsLine_0 : decode cX9_costsLine 0 = .ok (.aload_n 0, 1) := by decide +kernel
theorem dX9_costsLine_1 : decode cX9_costsLine 1 = .ok (.iconst 0, 1) := by decide +kernel
theorem dX9_costsLine_2 : decode cX9_costsLine 2 = .ok (.invokevirtual 149, 3) := by decide +kernel
theorem dX9_costsLine_5 : decode cX9_costsLine 5 = .ok (.istore_n 1, 1) := by decide +kernel
theorem dX9_costsLine_6 : decode cX9_costsLine 6 = .ok (.iconst 0, 1) := by decide +kernel
theorem dX9_costsLine_7 : decode cX9_costsLine 7 = .ok (.istore_n 2, 1) := by decide +kernel
theorem dX9_costsLine_8 : decode cX9_costsLine 8 = .ok (.iload_n 2, 1) := by decide +kernel
theorem dX9_costsLine_9 : decode cX9_costsLine 9 = .ok (.iconst 4, 1) := by decide +kernel
theorem dX9_costsLine_10 : decode cX9_costsLine 10 = .ok (.if_icmp .ge 26, 3) := by decide +kernel
theorem dX9_costsLine_13 : decode cX9_costsLine 13 = .ok (.iload_n 1, 1) := by decide +kernel
theorem dX9_costsLine_14 : decode cX9_costsLine 14 = .ok (.ifCond .eq 22, 3) := by decide +kernel
theorem dX9_costsLine_17 : decode cX9_costsLine 17 = .ok (.aload_n 0, 1) := by decide +kernel
theorem dX9_costsLine_18 : decode cX9_costsLine 18 = .ok (.aload_n 0, 1) := by decide +kernel
theorem dX9_costsLine_19 : decode cX9_costsLine 19 = .ok (.getfield 37, 3) := by decide +kernel
theorem dX9_costsLine_22 : decode cX9_costsLine 22 = .ok (.iload_n 2, 1) := by decide +kernel
theorem dX9_costsLine_23 : decode cX9_costsLine 23 = .ok (.iconst 0, 1) := by decide +kernel
theorem dX9_costsLine_24 : decode cX9_costsLine 24 = .ok (.bipush 99, 2) := by decide +kernel
theorem dX9_costsLine_26 : decode cX9_costsLine 26 = .ok (.invokevirtual 142, 3) := by decide +kernel
theorem dX9_costsLine_29 : decode cX9_costsLine 29 = .ok (.istore_n 1, 1) := by decide +kernel
theorem dX9_costsLine_30 : decode cX9_costsLine 30 = .ok (.iinc 2 1, 3) := by decide +kernel
theorem dX9_costsLine_33 : decode cX9_costsLine 33 = .ok (.goto (-25), 3) := by decide +kernel
theorem dX9_costsLine_36 : decode cX9_costsLine 36 = .ok (.iload_n 1, 1) := by decide +kernel
theorem dX9_costsLine_37 : decode cX9_costsLine 37 = .ok (.ireturn, 1) := by decide +kernel
theorem dX9_policyLine_0 : decode cX9_policyLine 0 = .ok (.aload_n 0, 1) := by decide +kernel
theorem dX9_policyLine_1 : decode cX9_policyLine 1 = .ok (.iconst 1, 1) := by decide +kernel
theorem dX9_policyLine_2 : decode cX9_policyLine 2 = .ok (.invokevirtual 149, 3) := by decide +kernel
theorem dX9_policyLine_5 : decode cX9_policyLine 5 = .ok (.ifCond .ne 5, 3) := by decide +kernel
theorem dX9_policyLine_8 : decode cX9_policyLine 8 = .ok (.iconst 0, 1) := by decide +kernel
theorem dX9_policyLine_9 : decode cX9_policyLine 9 = .ok (.ireturn, 1) := by decide +kernel
theorem dX9_policyLine_10 : decode cX9_policyLine 10 = .ok (.aload_n 0, 1) := by decide +kernel
theorem dX9_policyLine_11 : decode cX9_policyLine 11 = .ok (.aload_n 0, 1) := by decide +kernel
theorem dX9_policyLine_12 : decode cX9_policyLine 12 = .ok (.ldc 152, 2) := by decide +kernel
theorem dX9_policyLine_14 : decode cX9_policyLine 14 = .ok (.invokevirtual 154, 3) := by decide +kernel
theorem dX9_policyLine_17 : decode cX9_policyLine 17 = .ok (.ifCond .eq 7, 3) := by decide +kernel
theorem dX9_policyLine_20 : decode cX9_policyLine 20 = .ok (.iconst 0, 1) := by decide +kernel
theorem dX9_policyLine_21 : decode cX9_policyLine 21 = .ok (.goto 30, 3) := by decide +kernel
theorem dX9_policyLine_24 : decode cX9_policyLine 24 = .ok (.aload_n 0, 1) := by decide +kernel
theorem dX9_policyLine_25 : decode cX9_policyLine 25 = .ok (.ldc 158, 2) := by decide +kernel
theorem dX9_policyLine_27 : decode cX9_policyLine 27 = .ok (.invokevirtual 154, 3) := by decide +kernel
theorem dX9_policyLine_30 : decode cX9_policyLine 30 = .ok (.ifCond .eq 7, 3) := by decide +kernel
theorem dX9_policyLine_33 : decode cX9_policyLine 33 = .ok (.iconst 1, 1) := by decide +kernel
theorem dX9_policyLine_34 : decode cX9_policyLine 34 = .ok (.goto 17, 3) := by decide +kernel
theorem dX9_policyLine_37 : decode cX9_policyLine 37 = .ok (.aload_n 0, 1) := by decide +kernel
theorem dX9_policyLine_38 : decode cX9_policyLine 38 = .ok (.ldc 160, 2) := by decide +kernel
theorem dX9_policyLine_40 : decode cX9_policyLine 40 = .ok (.invokevirtual 154, 3) := by decide +kernel
theorem dX9_policyLine_43 : decode cX9_policyLine 43 = .ok (.ifCond .eq 7, 3) := by decide +kernel
theorem dX9_policyLine_46 : decode cX9_policyLine 46 = .ok (.iconst 2, 1) := by decide +kernel
theorem dX9_policyLine_47 : decode cX9_policyLine 47 = .ok (.goto 4, 3) := by decide +kernel
theorem dX9_policyLine_50 : decode cX9_policyLine 50 = .ok (.iconst (-1), 1) := by decide +kernel
theorem dX9_policyLine_51 : decode cX9_policyLine 51 = .ok (.putfield 162, 3) := by decide +kernel
theorem dX9_policyLine_54 : decode cX9_policyLine 54 = .ok (.aload_n 0, 1) := by decide +kernel
theorem dX9_policyLine_55 : decode cX9_policyLine 55 = .ok (.iconst 1, 1) := by decide +kernel
theorem dX9_policyLine_56 : decode cX9_policyLine 56 = .ok (.aload_n 0, 1) := by decide +kernel
theorem dX9_policyLine_57 : decode cX9_policyLine 57 = .ok (.getfield 162, 3) := by decide +kernel
theorem dX9_policyLine_60 : decode cX9_policyLine 60 = .ok (.iconst (-1), 1) := by decide +kernel
theorem dX9_policyLine_61 : decode cX9_policyLine 61 = .ok (.if_icmp .eq 7, 3) := by decide +kernel
theorem dX9_policyLine_64 : decode cX9_policyLine 64 = .ok (.iconst 1, 1) := by decide +kernel
theorem dX9_policyLine_65 : decode cX9_policyLine 65 = .ok (.goto 4, 3) := by decide +kernel
theorem dX9_policyLine_68 : decode cX9_policyLine 68 = .ok (.iconst 0, 1) := by decide +kernel
theorem dX9_policyLine_69 : decode cX9_policyLine 69 = .ok (.invokevirtual 131, 3) := by decide +kernel
theorem dX9_policyLine_72 : decode cX9_policyLine 72 = .ok (.ireturn, 1) := by decide +kernel
theorem dX9_statement_0 : decode cX9_statement 0 = .ok (.aload_n 0, 1) := by decide +kernel
theorem dX9_statement_1 : decode cX9_statement 1 = .ok (.ldc 165, 2) := by decide +kernel
theorem dX9_statement_3 : decode cX9_statement 3 = .ok (.invokevirtual 154, 3) := by decide +kernel
theorem dX9_statement_6 : decode cX9_statement 6 = .ok (.ifCond .eq 8, 3) := by decide +kernel
theorem dX9_statement_9 : decode cX9_statement 9 = .ok (.aload_n 0, 1) := by decide +kernel
theorem dX9_statement_10 : decode cX9_statement 10 = .ok (.invokevirtual 167, 3) := by decide +kernel
theorem dX9_statement_13 : decode cX9_statement 13 = .ok (.ireturn, 1) := by decide +kernel
theorem dX9_statement_14 : decode cX9_statement 14 = .ok (.aload_n 0, 1) := by decide +kernel
theorem dX9_statement_15 : decode cX9_statement 15 = .ok (.ldc 171, 2) := by decide +kernel
theorem dX9_statement_17 : decode cX9_statement 17 = .ok (.invokevirtual 154, 3) := by decide +kernel
theorem dX9_statement_20 : decode cX9_statement 20 = .ok (.ifCond .eq 8, 3) := by decide +kernel
theorem dX9_statement_23 : decode cX9_statement 23 = .ok (.aload_n 0, 1) := by decide +kernel
theorem dX9_statement_24 : decode cX9_statement 24 = .ok (.invokevirtual 173, 3) := by decide +kernel
theorem dX9_statement_27 : decode cX9_statement 27 = .ok (.ireturn, 1) := by decide +kernel
theorem dX9_statement_28 : decode cX9_statement 28 = .ok (.aload_n 0, 1) := by decide +kernel
theorem dX9_statement_29 : decode cX9_statement 29 = .ok (.ldc 176, 2) := by decide +kernel
theorem dX9_statement_31 : decode cX9_statement 31 = .ok (.invokevirtual 154, 3) := by decide +kernel
theorem dX9_statement_34 : decode cX9_statement 34 = .ok (.ifCond .eq 10, 3) := by decide +kernel
theorem dX9_statement_37 : decode cX9_statement 37 = .ok (.aload_n 0, 1) := by decide +kernel
theorem dX9_statement_38 : decode cX9_statement 38 = .ok (.invokevirtual 177, 3) := by decide +kernel
theorem dX9_statement_41 : decode cX9_statement 41 = .ok (.goto 24, 3) := by decide +kernel
theorem dX9_statement_44 : decode cX9_statement 44 = .ok (.aload_n 0, 1) := by decide +kernel
theorem dX9_statement_45 : decode cX9_statement 45 = .ok (.ldc 180, 2) := by decide +kernel
theorem dX9_statement_47 : decode cX9_statement 47 = .ok (.invokevirtual 154, 3) := by decide +kernel
theorem dX9_statement_50 : decode cX9_statement 50 = .ok (.ifCond .eq 10, 3) := by decide +kernel
theorem dX9_statement_53 : decode cX9_statement 53 = .ok (.aload_n 0, 1) := by decide +kernel
theorem dX9_statement_54 : decode cX9_statement 54 = .ok (.invokevirtual 182, 3) := by decide +kernel
theorem dX9_statement_57 : decode cX9_statement 57 = .ok (.goto 8, 3) := by decide +kernel
theorem dX9_statement_60 : decode cX9_statement 60 = .ok (.aload_n 0, 1) := by decide +kernel
theorem dX9_statement_61 : decode cX9_statement 61 = .ok (.iconst 1, 1) := by decide +kernel
theorem dX9_statement_62 : decode cX9_statement 62 = .ok (.invokevirtual 117, 3) := by decide +kernel
theorem dX9_statement_65 : decode cX9_statement 65 = .ok (.ireturn, 1) := by decide +kernel
theorem dX9_clearsDraft_0 : decode cX9_clearsDraft 0 = .ok (.aload_n 0, 1) := by decide +kernel
theorem dX9_clearsDraft_1 : decode cX9_clearsDraft 1 = .ok (.iconst 0, 1) := by decide +kernel
theorem dX9_clearsDraft_2 : decode cX9_clearsDraft 2 = .ok (.putfield 135, 3) := by decide +kernel
theorem dX9_clearsDraft_5 : decode cX9_clearsDraft 5 = .ok (.aload_n 0, 1) := by decide +kernel
theorem dX9_clearsDraft_6 : decode cX9_clearsDraft 6 = .ok (.iconst 0, 1) := by decide +kernel
theorem dX9_clearsDraft_7 : decode cX9_clearsDraft 7 = .ok (.putfield 162, 3) := by decide +kernel
theorem dX9_clearsDraft_10 : decode cX9_clearsDraft 10 = .ok (.aload_n 0, 1) := by decide +kernel
theorem dX9_clearsDraft_11 : decode cX9_clearsDraft 11 = .ok (.iconst 0, 1) := by decide +kernel
theorem dX9_clearsDraft_12 : decode cX9_clearsDraft 12 = .ok (.putfield 146, 3) := by decide +kernel
theorem dX9_clearsDraft_15 : decode cX9_clearsDraft 15 = .ok (.aload_n 0, 1) := by decide +kernel
theorem dX9_clearsDraft_16 : decode cX9_clearsDraft 16 = .ok (.getfield 37, 3) := by decide +kernel
theorem dX9_clearsDraft_19 : decode cX9_clearsDraft 19 = .ok (.iconst 0, 1) := by decide +kernel
theorem dX9_clearsDraft_20 : decode cX9_clearsDraft 20 = .ok (.bipush 10, 2) := by decide +kernel
theorem dX9_clearsDraft_22 : decode cX9_clearsDraft 22 = .ok (.iastore, 1) := by decide +kernel
theorem dX9_clearsDraft_23 : decode cX9_clearsDraft 23 = .ok (.aload_n 0, 1) := by decide +kernel
theorem dX9_clearsDraft_24 : decode cX9_clearsDraft 24 = .ok (.getfield 37, 3) := by decide +kernel
theorem dX9_clearsDraft_27 : decode cX9_clearsDraft 27 = .ok (.iconst 1, 1) := by decide +kernel
theorem dX9_clearsDraft_28 : decode cX9_clearsDraft 28 = .ok (.iconst 2, 1) := by decide +kernel
theorem dX9_clearsDraft_29 : decode cX9_clearsDraft 29 = .ok (.iastore, 1) := by decide +kernel
theorem dX9_clearsDraft_30 : decode cX9_clearsDraft 30 = .ok (.aload_n 0, 1) := by decide +kernel
theorem dX9_clearsDraft_31 : decode cX9_clearsDraft 31 = .ok (.getfield 37, 3) := by decide +kernel
theorem dX9_clearsDraft_34 : decode cX9_clearsDraft 34 = .ok (.iconst 2, 1) := by decide +kernel
theorem dX9_clearsDraft_35 : decode cX9_clearsDraft 35 = .ok (.iconst 5, 1) := by decide +kernel
theorem dX9_clearsDraft_36 : decode cX9_clearsDraft 36 = .ok (.iastore, 1) := by decide +kernel
theorem dX9_clearsDraft_37 : decode cX9_clearsDraft 37 = .ok (.aload_n 0, 1) := by decide +kernel
theorem dX9_clearsDraft_38 : decode cX9_clearsDraft 38 = .ok (.getfield 37, 3) := by decide +kernel
theorem dX9_clearsDraft_41 : decode cX9_clearsDraft 41 = .ok (.iconst 3, 1) := by decide +kernel
theorem dX9_clearsDraft_42 : decode cX9_clearsDraft 42 = .ok (.bipush 20, 2) := by decide +kernel
theorem dX9_clearsDraft_44 : decode cX9_clearsDraft 44 = .ok (.iastore, 1) := by decide +kernel
theorem dX9_clearsDraft_45 : decode cX9_clearsDraft 45 = .ok (.return_, 1) := by decide +kernel
theorem dX9_parse_0 : decode cX9_parse 0 = .ok (.aload_n 0, 1) := by decide +kernel
theorem dX9_parse_1 : decode cX9_parse 1 = .ok (.iconst 0, 1) := by decide +kernel
theorem dX9_parse_2 : decode cX9_parse 2 = .ok (.putfield 65, 3) := by decide +kernel
theorem dX9_parse_5 : decode cX9_parse 5 = .ok (.aload_n 0, 1) := by decide +kernel
theorem dX9_parse_6 : decode cX9_parse 6 = .ok (.iload_n 1, 1) := by decide +kernel
theorem dX9_parse_7 : decode cX9_parse 7 = .ok (.iconst 0, 1) := by decide +kernel
theorem dX9_parse_8 : decode cX9_parse 8 = .ok (.aload_n 0, 1) := by decide +kernel
theorem dX9_parse_9 : decode cX9_parse 9 = .ok (.getfield 68, 3) := by decide +kernel
theorem dX9_parse_12 : decode cX9_parse 12 = .ok (.invokestatic 89, 3) := by decide +kernel
theorem dX9_parse_15 : decode cX9_parse 15 = .ok (.ifCond .ne 7, 3) := by decide +kernel
theorem dX9_parse_18 : decode cX9_parse 18 = .ok (.iconst 1, 1) := by decide +kernel
theorem dX9_parse_19 : decode cX9_parse 19 = .ok (.goto 4, 3) := by decide +kernel
theorem dX9_parse_22 : decode cX9_parse 22 = .ok (.iconst 0, 1) := by decide +kernel
theorem dX9_parse_23 : decode cX9_parse 23 = .ok (.iconst 1, 1) := by decide +kernel
theorem dX9_parse_24 : decode cX9_parse 24 = .ok (.invokevirtual 185, 3) := by decide +kernel
theorem dX9_parse_27 : decode cX9_parse 27 = .ok (.ifCond .eq 5, 3) := by decide +kernel
theorem dX9_parse_30 : decode cX9_parse 30 = .ok (.iconst 0, 1) := by decide +kernel
theorem dX9_parse_31 : decode cX9_parse 31 = .ok (.ireturn, 1) := by decide +kernel
theorem dX9_parse_32 : decode cX9_parse 32 = .ok (.aload_n 0, 1) := by decide +kernel
theorem dX9_parse_33 : decode cX9_parse 33 = .ok (.iload_n 1, 1) := by decide +kernel
theorem dX9_parse_34 : decode cX9_parse 34 = .ok (.putfield 75, 3) := by decide +kernel
theorem dX9_parse_37 : decode cX9_parse 37 = .ok (.aload_n 0, 1) := by decide +kernel
theorem dX9_parse_38 : decode cX9_parse 38 = .ok (.iconst 0, 1) := by decide +kernel
theorem dX9_parse_39 : decode cX9_parse 39 = .ok (.putfield 68, 3) := by decide +kernel
theorem dX9_parse_42 : decode cX9_parse 42 = .ok (.aload_n 0, 1) := by decide +kernel
theorem dX9_parse_43 : decode cX9_parse 43 = .ok (.iconst 0, 1) := by decide +kernel
theorem dX9_parse_44 : decode cX9_parse 44 = .ok (.putfield 82, 3) := by decide +kernel
theorem dX9_parse_47 : decode cX9_parse 47 = .ok (.aload_n 0, 1) := by decide +kernel
theorem dX9_parse_48 : decode cX9_parse 48 = .ok (.iconst 0, 1) := by decide +kernel
theorem dX9_parse_49 : decode cX9_parse 49 = .ok (.putfield 114, 3) := by decide +kernel
theorem dX9_parse_52 : decode cX9_parse 52 = .ok (.aload_n 0, 1) := by decide +kernel
theorem dX9_parse_53 : decode cX9_parse 53 = .ok (.iconst (-1), 1) := by decide +kernel
theorem dX9_parse_54 : decode cX9_parse 54 = .ok (.putfield 27, 3) := by decide +kernel
theorem dX9_parse_57 : decode cX9_parse 57 = .ok (.aload_n 0, 1) := by decide +kernel
theorem dX9_parse_58 : decode cX9_parse 58 = .ok (.invokevirtual 59, 3) := by decide +kernel
theorem dX9_parse_61 : decode cX9_parse 61 = .ok (.aload_n 0, 1) := by decide +kernel
theorem dX9_parse_62 : decode cX9_parse 62 = .ok (.invokevirtual 121, 3) := by decide +kernel
theorem dX9_parse_65 : decode cX9_parse 65 = .ok (.aload_n 0, 1) := by decide +kernel
theorem dX9_parse_66 : decode cX9_parse 66 = .ok (.iconst 1, 1) := by decide +kernel
theorem dX9_parse_67 : decode cX9_parse 67 = .ok (.aload_n 0, 1) := by decide +kernel
theorem dX9_parse_68 : decode cX9_parse 68 = .ok (.ldc 189, 2) := by decide +kernel
theorem dX9_parse_70 : decode cX9_parse 70 = .ok (.invokevirtual 154, 3) := by decide +kernel
theorem dX9_parse_73 : decode cX9_parse 73 = .ok (.invokevirtual 131, 3) := by decide +kernel
theorem dX9_parse_76 : decode cX9_parse 76 = .ok (.ifCond .eq 19, 3) := by decide +kernel
theorem dX9_parse_79 : decode cX9_parse 79 = .ok (.aload_n 0, 1) := by decide +kernel
theorem dX9_parse_80 : decode cX9_parse 80 = .ok (.bipush 50, 2) := by decide +kernel
theorem dX9_parse_82 : decode cX9_parse 82 = .ok (.sipush 2000, 3) := by decide +kernel
theorem dX9_parse_85 : decode cX9_parse 85 = .ok (.invokevirtual 127, 3) := by decide +kernel
theorem dX9_parse_88 : decode cX9_parse 88 = .ok (.ifCond .eq 7, 3) := by decide +kernel
theorem dX9_parse_91 : decode cX9_parse 91 = .ok (.iconst 1, 1) := by decide +kernel
theorem dX9_parse_92 : decode cX9_parse 92 = .ok (.goto 4, 3) := by decide +kernel
theorem dX9_parse_95 : decode cX9_parse 95 = .ok (.iconst 0, 1) := by decide +kernel
theorem dX9_parse_96 : decode cX9_parse 96 = .ok (.istore_n 2, 1) := by decide +kernel
theorem dX9_parse_97 : decode cX9_parse 97 = .ok (.aload_n 0, 1) := by decide +kernel
theorem dX9_parse_98 : decode cX9_parse 98 = .ok (.aload_n 0, 1) := by decide +kernel
theorem dX9_parse_99 : decode cX9_parse 99 = .ok (.getfield 124, 3) := by decide +kernel
theorem dX9_parse_102 : decode cX9_parse 102 = .ok (.putfield 56, 3) := by decide +kernel
theorem dX9_parse_105 : decode cX9_parse 105 = .ok (.iload_n 2, 1) := by decide +kernel
theorem dX9_parse_106 : decode cX9_parse 106 = .ok (.ifCond .eq 14, 3) := by decide +kernel
theorem dX9_parse_109 : decode cX9_parse 109 = .ok (.aload_n 0, 1) := by decide +kernel
theorem dX9_parse_110 : decode cX9_parse 110 = .ok (.invokevirtual 191, 3) := by decide +kernel
theorem dX9_parse_113 : decode cX9_parse 113 = .ok (.ifCond .eq 7, 3) := by decide +kernel
theorem dX9_parse_116 : decode cX9_parse 116 = .ok (.iconst 1, 1) := by decide +kernel
theorem dX9_parse_117 : decode cX9_parse 117 = .ok (.goto 4, 3) := by decide +kernel
theorem dX9_parse_120 : decode cX9_parse 120 = .ok (.iconst 0, 1) := by decide +kernel
theorem dX9_parse_121 : decode cX9_parse 121 = .ok (.istore_n 2, 1) := by decide +kernel
theorem dX9_parse_122 : decode cX9_parse 122 = .ok (.iload_n 2, 1) := by decide +kernel
theorem dX9_parse_123 : decode cX9_parse 123 = .ok (.ifCond .eq 33, 3) := by decide +kernel
theorem dX9_parse_126 : decode cX9_parse 126 = .ok (.aload_n 0, 1) := by decide +kernel
theorem dX9_parse_127 : decode cX9_parse 127 = .ok (.getfield 99, 3) := by decide +kernel
theorem dX9_parse_130 : decode cX9_parse 130 = .ok (.ifCond .eq 26, 3) := by decide +kernel
theorem dX9_parse_133 : decode cX9_parse 133 = .ok (.aload_n 0, 1) := by decide +kernel
theorem dX9_parse_134 : decode cX9_parse 134 = .ok (.invokevirtual 194, 3) := by decide +kernel
theorem dX9_parse_137 : decode cX9_parse 137 = .ok (.ifCond .eq 14, 3) := by decide +kernel
theorem dX9_parse_140 : decode cX9_parse 140 = .ok (.aload_n 0, 1) := by decide +kernel
theorem dX9_parse_141 : decode cX9_parse 141 = .ok (.invokevirtual 191, 3) := by decide +kernel
theorem dX9_parse_144 : decode cX9_parse 144 = .ok (.ifCond .eq 7, 3) := by decide +kernel
theorem dX9_parse_147 : decode cX9_parse 147 = .ok (.iconst 1, 1) := by decide +kernel
theorem dX9_parse_148 : decode cX9_parse 148 = .ok (.goto 4, 3) := by decide +kernel
theorem dX9_parse_151 : decode cX9_parse 151 = .ok (.iconst 0, 1) := by decide +kernel
theorem dX9_parse_152 : decode cX9_parse 152 = .ok (.istore_n 2, 1) := by decide +kernel
theorem dX9_parse_153 : decode cX9_parse 153 = .ok (.goto (-31), 3) := by decide +kernel
theorem dX9_parse_156 : decode cX9_parse 156 = .ok (.iload_n 2, 1) := by decide +kernel
theorem dX9_parse_157 : decode cX9_parse 157 = .ok (.ifCond .ne 8, 3) := by decide +kernel
theorem dX9_parse_160 : decode cX9_parse 160 = .ok (.aload_n 0, 1) := by decide +kernel
theorem dX9_parse_161 : decode cX9_parse 161 = .ok (.getfield 114, 3) := by decide +kernel
theorem dX9_parse_164 : decode cX9_parse 164 = .ok (.ireturn, 1) := by decide +kernel
theorem dX9_parse_165 : decode cX9_parse 165 = .ok (.aload_n 0, 1) := by decide +kernel
theorem dX9_parse_166 : decode cX9_parse 166 = .ok (.invokevirtual 62, 3) := by decide +kernel
theorem dX9_parse_169 : decode cX9_parse 169 = .ok (.iconst 0, 1) := by decide +kernel
theorem dX9_parse_170 : decode cX9_parse 170 = .ok (.ireturn, 1) := by decide +kernel
theorem dX9_begins_0 : decode cX9_begins 0 = .ok (.aload_n 0, 1) := by decide +kernel
theorem dX9_begins_1 : decode cX9_begins 1 = .ok (.aload_n 0, 1) := by decide +kernel
theorem dX9_begins_2 : decode cX9_begins 2 = .ok (.getfield 135, 3) := by decide +kernel
theorem dX9_begins_5 : decode cX9_begins 5 = .ok (.putfield 197, 3) := by decide +kernel
theorem dX9_begins_8 : decode cX9_begins 8 = .ok (.iconst 0, 1) := by decide +kernel
theorem dX9_begins_9 : decode cX9_begins 9 = .ok (.istore_n 1, 1) := by decide +kernel
theorem dX9_begins_10 : decode cX9_begins 10 = .ok (.iload_n 1, 1) := by decide +kernel
theorem dX9_begins_11 : decode cX9_begins 11 = .ok (.bipush 80, 2) := by decide +kernel
theorem dX9_begins_13 : decode cX9_begins 13 = .ok (.if_icmp .ge 21, 3) := by decide +kernel
theorem dX9_begins_16 : decode cX9_begins 16 = .ok (.aload_n 0, 1) := by decide +kernel
theorem dX9_begins_17 : decode cX9_begins 17 = .ok (.getfield 7, 3) := by decide +kernel
theorem dX9_begins_20 : decode cX9_begins 20 = .ok (.iload_n 1, 1) := by decide +kernel
theorem dX9_begins_21 : decode cX9_begins 21 = .ok (.aload_n 0, 1) := by decide +kernel
theorem dX9_begins_22 : decode cX9_begins 22 = .ok (.getfield 31, 3) := by decide +kernel
theorem dX9_begins_25 : decode cX9_begins 25 = .ok (.iload_n 1, 1) := by decide +kernel
theorem dX9_begins_26 : decode cX9_begins 26 = .ok (.iaload, 1) := by decide +kernel
theorem dX9_begins_27 : decode cX9_begins 27 = .ok (.iastore, 1) := by decide +kernel
theorem dX9_begins_28 : decode cX9_begins 28 = .ok (.iinc 1 1, 3) := by decide +kernel
theorem dX9_begins_31 : decode cX9_begins 31 = .ok (.goto (-21), 3) := by decide +kernel
theorem dX9_begins_34 : decode cX9_begins 34 = .ok (.iconst 0, 1) := by decide +kernel
theorem dX9_begins_35 : decode cX9_begins 35 = .ok (.istore_n 1, 1) := by decide +kernel
theorem dX9_begins_36 : decode cX9_begins 36 = .ok (.iload_n 1, 1) := by decide +kernel
theorem dX9_begins_37 : decode cX9_begins 37 = .ok (.bipush 10, 2) := by decide +kernel
theorem dX9_begins_39 : decode cX9_begins 39 = .ok (.if_icmp .ge 21, 3) := by decide +kernel
theorem dX9_begins_42 : decode cX9_begins 42 = .ok (.aload_n 0, 1) := by decide +kernel
theorem dX9_begins_43 : decode cX9_begins 43 = .ok (.getfield 13, 3) := by decide +kernel
theorem dX9_begins_46 : decode cX9_begins 46 = .ok (.iload_n 1, 1) := by decide +kernel
theorem dX9_begins_47 : decode cX9_begins 47 = .ok (.aload_n 0, 1) := by decide +kernel
theorem dX9_begins_48 : decode cX9_begins 48 = .ok (.getfield 34, 3) := by decide +kernel
theorem dX9_begins_51 : decode cX9_begins 51 = .ok (.iload_n 1, 1) := by decide +kernel
theorem dX9_begins_52 : decode cX9_begins 52 = .ok (.laload, 1) := by decide +kernel
theorem dX9_begins_53 : decode cX9_begins 53 = .ok (.lastore, 1) := by decide +kernel
theorem dX9_begins_54 : decode cX9_begins 54 = .ok (.iinc 1 1, 3) := by decide +kernel
theorem dX9_begins_57 : decode cX9_begins 57 = .ok (.goto (-21), 3) := by decide +kernel
theorem dX9_begins_60 : decode cX9_begins 60 = .ok (.iconst 0, 1) := by decide +kernel
theorem dX9_begins_61 : decode cX9_begins 61 = .ok (.istore_n 1, 1) := by decide +kernel
theorem dX9_begins_62 : decode cX9_begins 62 = .ok (.iload_n 1, 1) := by decide +kernel
theorem dX9_begins_63 : decode cX9_begins 63 = .ok (.iconst 4, 1) := by decide +kernel
theorem dX9_begins_64 : decode cX9_begins 64 = .ok (.if_icmp .ge 21, 3) := by decide +kernel
theorem dX9_begins_67 : decode cX9_begins 67 = .ok (.aload_n 0, 1) := by decide +kernel
theorem dX9_begins_68 : decode cX9_begins 68 = .ok (.getfield 17, 3) := by decide +kernel
theorem dX9_begins_71 : decode cX9_begins 71 = .ok (.iload_n 1, 1) := by decide +kernel
theorem dX9_begins_72 : decode cX9_begins 72 = .ok (.aload_n 0, 1) := by decide +kernel
theorem dX9_begins_73 : decode cX9_begins 73 = .ok (.getfield 37, 3) := by decide +kernel
theorem dX9_begins_76 : decode cX9_begins 76 = .ok (.iload_n 1, 1) := by decide +kernel
theorem dX9_begins_77 : decode cX9_begins 77 = .ok (.iaload, 1) := by decide +kernel
theorem dX9_begins_78 : decode cX9_begins 78 = .ok (.iastore, 1) := by decide +kernel
theorem dX9_begins_79 : decode cX9_begins 79 = .ok (.iinc 1 1, 3) := by decide +kernel
theorem dX9_begins_82 : decode cX9_begins 82 = .ok (.goto (-20), 3) := by decide +kernel
theorem dX9_begins_85 : decode cX9_begins 85 = .ok (.iconst 0, 1) := by decide +kernel
theorem dX9_begins_86 : decode cX9_begins 86 = .ok (.istore_n 1, 1) := by decide +kernel
theorem dX9_begins_87 : decode cX9_begins 87 = .ok (.iload_n 1, 1) := by decide +kernel
theorem dX9_begins_88 : decode cX9_begins 88 = .ok (.sipush 438, 3) := by decide +kernel
theorem dX9_begins_91 : decode cX9_begins 91 = .ok (.if_icmp .ge 16, 3) := by decide +kernel
theorem dX9_begins_94 : decode cX9_begins 94 = .ok (.aload_n 0, 1) := by decide +kernel
theorem dX9_begins_95 : decode cX9_begins 95 = .ok (.getfield 20, 3) := by decide +kernel
theorem dX9_begins_98 : decode cX9_begins 98 = .ok (.iload_n 1, 1) := by decide +kernel
theorem dX9_begins_99 : decode cX9_begins 99 = .ok (.iconst 0, 1) := by decide +kernel
theorem dX9_begins_100 : decode cX9_begins 100 = .ok (.iastore, 1) := by decide +kernel
theorem dX9_begins_101 : decode cX9_begins 101 = .ok (.iinc 1 1, 3) := by decide +kernel
theorem dX9_begins_104 : decode cX9_begins 104 = .ok (.goto (-17), 3) := by decide +kernel
theorem dX9_begins_107 : decode cX9_begins 107 = .ok (.aload_n 0, 1) := by decide +kernel
theorem dX9_begins_108 : decode cX9_begins 108 = .ok (.getfield 20, 3) := by decide +kernel
theorem dX9_begins_111 : decode cX9_begins 111 = .ok (.iconst 0, 1) := by decide +kernel
theorem dX9_begins_112 : decode cX9_begins 112 = .ok (.aload_n 0, 1) := by decide +kernel
theorem dX9_begins_113 : decode cX9_begins 113 = .ok (.getfield 56, 3) := by decide +kernel
theorem dX9_begins_116 : decode cX9_begins 116 = .ok (.iastore, 1) := by decide +kernel
theorem dX9_begins_117 : decode cX9_begins 117 = .ok (.aload_n 0, 1) := by decide +kernel
theorem dX9_begins_118 : decode cX9_begins 118 = .ok (.getfield 20, 3) := by decide +kernel
theorem dX9_begins_121 : decode cX9_begins 121 = .ok (.iconst 2, 1) := by decide +kernel
theorem dX9_begins_122 : decode cX9_begins 122 = .ok (.iconst (-1), 1) := by decide +kernel
theorem dX9_begins_123 : decode cX9_begins 123 = .ok (.iastore, 1) := by decide +kernel
theorem dX9_begins_124 : decode cX9_begins 124 = .ok (.aload_n 0, 1) := by decide +kernel
theorem dX9_begins_125 : decode cX9_begins 125 = .ok (.getfield 20, 3) := by decide +kernel
theorem dX9_begins_128 : decode cX9_begins 128 = .ok (.iconst 3, 1) := by decide +kernel
theorem dX9_begins_129 : decode cX9_begins 129 = .ok (.iconst (-1), 1) := by decide +kernel
theorem dX9_begins_130 : decode cX9_begins 130 = .ok (.iastore, 1) := by decide +kernel
theorem dX9_begins_131 : decode cX9_begins 131 = .ok (.aload_n 0, 1) := by decide +kernel
theorem dX9_begins_132 : decode cX9_begins 132 = .ok (.getfield 20, 3) := by decide +kernel
theorem dX9_begins_135 : decode cX9_begins 135 = .ok (.iconst 4, 1) := by decide +kernel
theorem dX9_begins_136 : decode cX9_begins 136 = .ok (.aload_n 0, 1) := by decide +kernel
theorem dX9_begins_137 : decode cX9_begins 137 = .ok (.getfield 162, 3) := by decide +kernel
theorem dX9_begins_140 : decode cX9_begins 140 = .ok (.iastore, 1) := by decide +kernel
theorem dX9_begins_141 : decode cX9_begins 141 = .ok (.aload_n 0, 1) := by decide +kernel
theorem dX9_begins_142 : decode cX9_begins 142 = .ok (.iconst 0, 1) := by decide +kernel
theorem dX9_begins_143 : decode cX9_begins 143 = .ok (.putfield 200, 3) := by decide +kernel
theorem dX9_begins_146 : decode cX9_begins 146 = .ok (.aload_n 0, 1) := by decide +kernel
theorem dX9_begins_147 : decode cX9_begins 147 = .ok (.getfield 52, 3) := by decide +kernel
theorem dX9_begins_150 : decode cX9_begins 150 = .ok (.iconst 0, 1) := by decide +kernel
theorem dX9_begins_151 : decode cX9_begins 151 = .ok (.iconst 0, 1) := by decide +kernel
theorem dX9_begins_152 : decode cX9_begins 152 = .ok (.bastore, 1) := by decide +kernel
theorem dX9_begins_153 : decode cX9_begins 153 = .ok (.aload_n 0, 1) := by decide +kernel
theorem dX9_begins_154 : decode cX9_begins 154 = .ok (.getfield 52, 3) := by decide +kernel
theorem dX9_begins_157 : decode cX9_begins 157 = .ok (.iconst 1, 1) := by decide +kernel
theorem dX9_begins_158 : decode cX9_begins 158 = .ok (.iconst 0, 1) := by decide +kernel
theorem dX9_begins_159 : decode cX9_begins 159 = .ok (.bastore, 1) := by decide +kernel
theorem dX9_begins_160 : decode cX9_begins 160 = .ok (.return_, 1) := by decide +kernel
theorem dX9_errorPosition_0 : decode cX9_errorPosition 0 = .ok (.aload_n 0, 1) := by decide +kernel
theorem dX9_errorPosition_1 : decode cX9_errorPosition 1 = .ok (.iconst 0, 1) := by decide +kernel
theorem dX9_errorPosition_2 : decode cX9_errorPosition 2 = .ok (.putfield 65, 3) := by decide +kernel
theorem dX9_errorPosition_5 : decode cX9_errorPosition 5 = .ok (.aload_n 0, 1) := by decide +kernel
theorem dX9_errorPosition_6 : decode cX9_errorPosition 6 = .ok (.getfield 27, 3) := by decide +kernel
theorem dX9_errorPosition_9 : decode cX9_errorPosition 9 = .ok (.ireturn, 1) := by decide +kernel
theorem dX9_toldOf_0 : decode cX9_toldOf 0 = .ok (.aload_n 0, 1) := by decide +kernel
theorem dX9_toldOf_1 : decode cX9_toldOf 1 = .ok (.getfield 7, 3) := by decide +kernel
theorem dX9_toldOf_4 : decode cX9_toldOf 4 = .ok (.bipush 8, 2) := by decide +kernel
theorem dX9_toldOf_6 : decode cX9_toldOf 6 = .ok (.iload_n 1, 1) := by decide +kernel
theorem dX9_toldOf_7 : decode cX9_toldOf 7 = .ok (.imul, 1) := by decide +kernel
theorem dX9_toldOf_8 : decode cX9_toldOf 8 = .ok (.iload_n 2, 1) := by decide +kernel
theorem dX9_toldOf_9 : decode cX9_toldOf 9 = .ok (.iadd, 1) := by decide +kernel
theorem dX9_toldOf_10 : decode cX9_toldOf 10 = .ok (.iaload, 1) := by decide +kernel
theorem dX9_toldOf_11 : decode cX9_toldOf 11 = .ok (.ireturn, 1) := by decide +kernel
theorem dX9_of_0 : decode cX9_of 0 = .ok (.aload_n 0, 1) := by decide +kernel
theorem dX9_of_1 : decode cX9_of 1 = .ok (.getfield 20, 3) := by decide +kernel
theorem dX9_of_4 : decode cX9_of 4 = .ok (.bipush 6, 2) := by decide +kernel
theorem dX9_of_6 : decode cX9_of 6 = .ok (.bipush 20, 2) := by decide +kernel
theorem dX9_of_8 : decode cX9_of 8 = .ok (.iload_n 1, 1) := by decide +kernel
theorem dX9_of_9 : decode cX9_of 9 = .ok (.imul, 1) := by decide +kernel
theorem dX9_of_10 : decode cX9_of 10 = .ok (.iadd, 1) := by decide +kernel
theorem dX9_of_11 : decode cX9_of 11 = .ok (.iload_n 2, 1) := by decide +kernel
theorem dX9_of_12 : decode cX9_of 12 = .ok (.iadd, 1) := by decide +kernel
theorem dX9_of_13 : decode cX9_of 13 = .ok (.iaload, 1) := by decide +kernel
theorem dX9_of_14 : decode cX9_of 14 = .ok (.ireturn, 1) := by decide +kernel
theorem dX9_sets_0 : decode cX9_sets 0 = .ok (.aload_n 0, 1) := by decide +kernel
theorem dX9_sets_1 : decode cX9_sets 1 = .ok (.getfield 20, 3) := by decide +kernel
theorem dX9_sets_4 : decode cX9_sets 4 = .ok (.bipush 6, 2) := by decide +kernel
theorem dX9_sets_6 : decode cX9_sets 6 = .ok (.bipush 20, 2) := by decide +kernel
theorem dX9_sets_8 : decode cX9_sets 8 = .ok (.iload_n 1, 1) := by decide +kernel
theorem dX9_sets_9 : decode cX9_sets 9 = .ok (.imul, 1) := by decide +kernel
theorem dX9_sets_10 : decode cX9_sets 10 = .ok (.iadd, 1) := by decide +kernel
theorem dX9_sets_11 : decode cX9_sets 11 = .ok (.iload_n 2, 1) := by decide +kernel
theorem dX9_sets_12 : decode cX9_sets 12 = .ok (.iadd, 1) := by decide +kernel
theorem dX9_sets_13 : decode cX9_sets 13 = .ok (.iload_n 3, 1) := by decide +kernel
theorem dX9_sets_14 : decode cX9_sets 14 = .ok (.iastore, 1) := by decide +kernel
theorem dX9_sets_15 : decode cX9_sets 15 = .ok (.return_, 1) := by decide +kernel
theorem dX9_uses_0 : decode cX9_uses 0 = .ok (.aload_n 0, 1) := by decide +kernel
theorem dX9_uses_1 : decode cX9_uses 1 = .ok (.iload_n 1, 1) := by decide +kernel
theorem dX9_uses_2 : decode cX9_uses 2 = .ok (.iconst 0, 1) := by decide +kernel
theorem dX9_uses_3 : decode cX9_uses 3 = .ok (.invokevirtual 203, 3) := by decide +kernel
theorem dX9_uses_6 : decode cX9_uses 6 = .ok (.lookupswitch 63 #[(0, 34), (4, 36), (5, 56)], 34) := by decide +kernel
theorem dX9_uses_40 : decode cX9_uses 40 = .ok (.iconst 0, 1) := by decide +kernel
theorem dX9_uses_41 : decode cX9_uses 41 = .ok (.ireturn, 1) := by decide +kernel
theorem dX9_uses_42 : decode cX9_uses 42 = .ok (.aload_n 0, 1) := by decide +kernel
theorem dX9_uses_43 : decode cX9_uses 43 = .ok (.iload_n 1, 1) := by decide +kernel
theorem dX9_uses_44 : decode cX9_uses 44 = .ok (.iconst 1, 1) := by decide +kernel
theorem dX9_uses_45 : decode cX9_uses 45 = .ok (.invokevirtual 203, 3) := by decide +kernel
theorem dX9_uses_48 : decode cX9_uses 48 = .ok (.aload_n 0, 1) := by decide +kernel
theorem dX9_uses_49 : decode cX9_uses 49 = .ok (.iload_n 1, 1) := by decide +kernel
theorem dX9_uses_50 : decode cX9_uses 50 = .ok (.iconst 4, 1) := by decide +kernel
theorem dX9_uses_51 : decode cX9_uses 51 = .ok (.invokevirtual 207, 3) := by decide +kernel
theorem dX9_uses_54 : decode cX9_uses 54 = .ok (.imul, 1) := by decide +kernel
theorem dX9_uses_55 : decode cX9_uses 55 = .ok (.bipush 99, 2) := by decide +kernel
theorem dX9_uses_57 : decode cX9_uses 57 = .ok (.iadd, 1) := by decide +kernel
theorem dX9_uses_58 : decode cX9_uses 58 = .ok (.bipush 100, 2) := by decide +kernel
theorem dX9_uses_60 : decode cX9_uses 60 = .ok (.idiv, 1) := by decide +kernel
theorem dX9_uses_61 : decode cX9_uses 61 = .ok (.ireturn, 1) := by decide +kernel
theorem dX9_uses_62 : decode cX9_uses 62 = .ok (.aload_n 0, 1) := by decide +kernel
theorem dX9_uses_63 : decode cX9_uses 63 = .ok (.iload_n 1, 1) := by decide +kernel
theorem dX9_uses_64 : decode cX9_uses 64 = .ok (.iconst 5, 1) := by decide +kernel
theorem dX9_uses_65 : decode cX9_uses 65 = .ok (.invokevirtual 207, 3) := by decide +kernel
theorem dX9_uses_68 : decode cX9_uses 68 = .ok (.ireturn, 1) := by decide +kernel
theorem dX9_uses_69 : decode cX9_uses 69 = .ok (.aload_n 0, 1) := by decide +kernel
theorem dX9_uses_70 : decode cX9_uses 70 = .ok (.iload_n 1, 1) := by decide +kernel
theorem dX9_uses_71 : decode cX9_uses 71 = .ok (.iconst 1, 1) := by decide +kernel
theorem dX9_uses_72 : decode cX9_uses 72 = .ok (.invokevirtual 203, 3) := by decide +kernel
theorem dX9_uses_75 : decode cX9_uses 75 = .ok (.aload_n 0, 1) := by decide +kernel
theorem dX9_uses_76 : decode cX9_uses 76 = .ok (.iload_n 1, 1) := by decide +kernel
theorem dX9_uses_77 : decode cX9_uses 77 = .ok (.iconst 2, 1) := by decide +kernel
theorem dX9_uses_78 : decode cX9_uses 78 = .ok (.invokevirtual 203, 3) := by decide +kernel
theorem dX9_uses_81 : decode cX9_uses 81 = .ok (.iadd, 1) := by decide +kernel
theorem dX9_uses_82 : decode cX9_uses 82 = .ok (.ireturn, 1) := by decide +kernel
theorem dX9_usesAll_0 : decode cX9_usesAll 0 = .ok (.iconst 0, 1) := by decide +kernel
theorem dX9_usesAll_1 : decode cX9_usesAll 1 = .ok (.istore_n 1, 1) := by decide +kernel
theorem dX9_usesAll_2 : decode cX9_usesAll 2 = .ok (.iconst 0, 1) := by decide +kernel
theorem dX9_usesAll_3 : decode cX9_usesAll 3 = .ok (.istore_n 2, 1) := by decide +kernel
theorem dX9_usesAll_4 : decode cX9_usesAll 4 = .ok (.iload_n 2, 1) := by decide +kernel
theorem dX9_usesAll_5 : decode cX9_usesAll 5 = .ok (.aload_n 0, 1) := by decide +kernel
theorem dX9_usesAll_6 : decode cX9_usesAll 6 = .ok (.getfield 197, 3) := by decide +kernel
theorem dX9_usesAll_9 : decode cX9_usesAll 9 = .ok (.if_icmp .ge 17, 3) := by decide +kernel
theorem dX9_usesAll_12 : decode cX9_usesAll 12 = .ok (.iload_n 1, 1) := by decide +kernel
theorem dX9_usesAll_13 : decode cX9_usesAll 13 = .ok (.aload_n 0, 1) := by decide +kernel
theorem dX9_usesAll_14 : decode cX9_usesAll 14 = .ok (.iload_n 2, 1) := by decide +kernel
theorem dX9_usesAll_15 : decode cX9_usesAll 15 = .ok (.invokevirtual 210, 3) := by decide +kernel
theorem dX9_usesAll_18 : decode cX9_usesAll 18 = .ok (.iadd, 1) := by decide +kernel
theorem dX9_usesAll_19 : decode cX9_usesAll 19 = .ok (.istore_n 1, 1) := by decide +kernel
theorem dX9_usesAll_20 : decode cX9_usesAll 20 = .ok (.iinc 2 1, 3) := by decide +kernel
theorem dX9_usesAll_23 : decode cX9_usesAll 23 = .ok (.goto (-19), 3) := by decide +kernel
theorem dX9_usesAll_26 : decode cX9_usesAll 26 = .ok (.iload_n 1, 1) := by decide +kernel
theorem dX9_usesAll_27 : decode cX9_usesAll 27 = .ok (.ireturn, 1) := by decide +kernel
theorem dX9_habitOf_0 : decode cX9_habitOf 0 = .ok (.aload_n 0, 1) := by decide +kernel
theorem dX9_habitOf_1 : decode cX9_habitOf 1 = .ok (.iload_n 1, 1) := by decide +kernel
theorem dX9_habitOf_2 : decode cX9_habitOf 2 = .ok (.bipush 10, 2) := by decide +kernel
theorem dX9_habitOf_4 : decode cX9_habitOf 4 = .ok (.invokevirtual 203, 3) := by decide +kernel
theorem dX9_habitOf_7 : decode cX9_habitOf 7 = .ok (.istore_n 2, 1) := by decide +kernel
theorem dX9_habitOf_8 : decode cX9_habitOf 8 = .ok (.iconst 0, 1) := by decide +kernel
theorem dX9_habitOf_9 : decode cX9_habitOf 9 = .ok (.istore_n 3, 1) := by decide +kernel
theorem dX9_habitOf_10 : decode cX9_habitOf 10 = .ok (.iconst 0, 1) := by decide +kernel
theorem dX9_habitOf_11 : decode cX9_habitOf 11 = .ok (.istore 4, 2) := by decide +kernel
theorem dX9_habitOf_13 : decode cX9_habitOf 13 = .ok (.iload 4, 2) := by decide +kernel
theorem dX9_habitOf_15 : decode cX9_habitOf 15 = .ok (.iload_n 2, 1) := by decide +kernel
theorem dX9_habitOf_16 : decode cX9_habitOf 16 = .ok (.if_icmp .ge 22, 3) := by decide +kernel
theorem dX9_habitOf_19 : decode cX9_habitOf 19 = .ok (.iload_n 3, 1) := by decide +kernel
theorem dX9_habitOf_20 : decode cX9_habitOf 20 = .ok (.aload_n 0, 1) := by decide +kernel
theorem dX9_habitOf_21 : decode cX9_habitOf 21 = .ok (.iload_n 1, 1) := by decide +kernel
theorem dX9_habitOf_22 : decode cX9_habitOf 22 = .ok (.bipush 11, 2) := by decide +kernel
theorem dX9_habitOf_24 : decode cX9_habitOf 24 = .ok (.iload 4, 2) := by decide +kernel
theorem dX9_habitOf_26 : decode cX9_habitOf 26 = .ok (.iadd, 1) := by decide +kernel
theorem dX9_habitOf_27 : decode cX9_habitOf 27 = .ok (.invokevirtual 203, 3) := by decide +kernel
theorem dX9_habitOf_30 : decode cX9_habitOf 30 = .ok (.iadd, 1) := by decide +kernel
theorem dX9_habitOf_31 : decode cX9_habitOf 31 = .ok (.istore_n 3, 1) := by decide +kernel
theorem dX9_habitOf_32 : decode cX9_habitOf 32 = .ok (.iinc 4 1, 3) := by decide +kernel
theorem dX9_habitOf_35 : decode cX9_habitOf 35 = .ok (.goto (-22), 3) := by decide +kernel
theorem dX9_habitOf_38 : decode cX9_habitOf 38 = .ok (.iload_n 2, 1) := by decide +kernel
theorem dX9_habitOf_39 : decode cX9_habitOf 39 = .ok (.ifCond .ne 9, 3) := by decide +kernel
theorem dX9_habitOf_42 : decode cX9_habitOf 42 = .ok (.sipush 600, 3) := by decide +kernel
theorem dX9_habitOf_45 : decode cX9_habitOf 45 = .ok (.goto 6, 3) := by decide +kernel
theorem dX9_habitOf_48 : decode cX9_habitOf 48 = .ok (.iload_n 3, 1) := by decide +kernel
theorem dX9_habitOf_49 : decode cX9_habitOf 49 = .ok (.iload_n 2, 1) := by decide +kernel
theorem dX9_habitOf_50 : decode cX9_habitOf 50 = .ok (.idiv, 1) := by decide +kernel
theorem dX9_habitOf_51 : decode cX9_habitOf 51 = .ok (.ireturn, 1) := by decide +kernel
theorem dX9_followers_0 : decode cX9_followers 0 = .ok (.aload_n 0, 1) := by decide +kernel
theorem dX9_followers_1 : decode cX9_followers 1 = .ok (.getfield 20, 3) := by decide +kernel
theorem dX9_followers_4 : decode cX9_followers 4 = .ok (.sipush 206, 3) := by decide +kernel
theorem dX9_followers_7 : decode cX9_followers 7 = .ok (.bipush 10, 2) := by decide +kernel
theorem dX9_followers_9 : decode cX9_followers 9 = .ok (.iload_n 1, 1) := by decide +kernel
theorem dX9_followers_10 : decode cX9_followers 10 = .ok (.imul, 1) := by decide +kernel
theorem dX9_followers_11 : decode cX9_followers 11 = .ok (.iadd, 1) := by decide +kernel
theorem dX9_followers_12 : decode cX9_followers 12 = .ok (.iload_n 2, 1) := by decide +kernel
theorem dX9_followers_13 : decode cX9_followers 13 = .ok (.iadd, 1) := by decide +kernel
theorem dX9_followers_14 : decode cX9_followers 14 = .ok (.iaload, 1) := by decide +kernel
theorem dX9_followers_15 : decode cX9_followers 15 = .ok (.ireturn, 1) := by decide +kernel
theorem dX9_isExpected_0 : decode cX9_isExpected 0 = .ok (.aload_n 0, 1) := by decide +kernel
theorem dX9_isExpected_1 : decode cX9_isExpected 1 = .ok (.getfield 20, 3) := by decide +kernel
theorem dX9_isExpected_4 : decode cX9_isExpected 4 = .ok (.iconst 3, 1) := by decide +kernel
theorem dX9_isExpected_5 : decode cX9_isExpected 5 = .ok (.iaload, 1) := by decide +kernel
theorem dX9_isExpected_6 : decode cX9_isExpected 6 = .ok (.istore_n 2, 1) := by decide +kernel
theorem dX9_isExpected_7 : decode cX9_isExpected 7 = .ok (.iload_n 2, 1) := by decide +kernel
theorem dX9_isExpected_8 : decode cX9_isExpected 8 = .ok (.iconst (-1), 1) := by decide +kernel
theorem dX9_isExpected_9 : decode cX9_isExpected 9 = .ok (.if_icmp .ne 5, 3) := by decide +kernel
theorem dX9_isExpected_12 : decode cX9_isExpected 12 = .ok (.iconst 0, 1) := by decide +kernel
theorem dX9_isExpected_13 : decode cX9_isExpected 13 = .ok (.ireturn, 1) := by decide +kernel
theorem dX9_isExpected_14 : decode cX9_isExpected 14 = .ok (.iconst 0, 1) := by decide +kernel
theorem dX9_isExpected_15 : decode cX9_isExpected 15 = .ok (.istore_n 3, 1) := by decide +kernel
theorem dX9_isExpected_16 : decode cX9_isExpected 16 = .ok (.iconst 0, 1) := by decide +kernel
theorem dX9_isExpected_17 : decode cX9_isExpected 17 = .ok (.istore 4, 2) := by decide +kernel
theorem dX9_isExpected_19 : decode cX9_isExpected 19 = .ok (.iload 4, 2) := by decide +kernel
theorem dX9_isExpected_21 : decode cX9_isExpected 21 = .ok (.aload_n 0, 1) := by decide +kernel
theorem dX9_isExpected_22 : decode cX9_isExpected 22 = .ok (.getfield 197, 3) := by decide +kernel
theorem dX9_isExpected_25 : decode cX9_isExpected 25 = .ok (.if_icmp .ge 19, 3) := by decide +kernel
theorem dX9_isExpected_28 : decode cX9_isExpected 28 = .ok (.iload_n 3, 1) := by decide +kernel
theorem dX9_isExpected_29 : decode cX9_isExpected 29 = .ok (.aload_n 0, 1) := by decide +kernel
theorem dX9_isExpected_30 : decode cX9_isExpected 30 = .ok (.iload_n 2, 1) := by decide +kernel
theorem dX9_isExpected_31 : decode cX9_isExpected 31 = .ok (.iload 4, 2) := by decide +kernel
theorem dX9_isExpected_33 : decode cX9_isExpected 33 = .ok (.invokevirtual 213, 3) := by decide +kernel
theorem dX9_isExpected_36 : decode cX9_isExpected 36 = .ok (.iadd, 1) := by decide +kernel
theorem dX9_isExpected_37 : decode cX9_isExpected 37 = .ok (.istore_n 3, 1) := by decide +kernel
theorem dX9_isExpected_38 : decode cX9_isExpected 38 = .ok (.iinc 4 1, 3) := by decide +kernel
theorem dX9_isExpected_41 : decode cX9_isExpected 41 = .ok (.goto (-22), 3) := by decide +kernel
theorem dX9_isExpected_44 : decode cX9_isExpected 44 = .ok (.aload_n 0, 1) := by decide +kernel
theorem dX9_isExpected_45 : decode cX9_isExpected 45 = .ok (.iload_n 2, 1) := by decide +kernel
theorem dX9_isExpected_46 : decode cX9_isExpected 46 = .ok (.iload_n 1, 1) := by decide +kernel
theorem dX9_isExpected_47 : decode cX9_isExpected 47 = .ok (.invokevirtual 213, 3) := by decide +kernel
theorem dX9_isExpected_50 : decode cX9_isExpected 50 = .ok (.ifCond .le 19, 3) := by decide +kernel
theorem dX9_isExpected_53 : decode cX9_isExpected 53 = .ok (.iconst 2, 1) := by decide +kernel
theorem dX9_isExpected_54 : decode cX9_isExpected 54 = .ok (.aload_n 0, 1) := by decide +kernel
theorem dX9_isExpected_55 : decode cX9_isExpected 55 = .ok (.iload_n 2, 1) := by decide +kernel
theorem dX9_isExpected_56 : decode cX9_isExpected 56 = .ok (.iload_n 1, 1) := by decide +kernel
theorem dX9_isExpected_57 : decode cX9_isExpected 57 = .ok (.invokevirtual 213, 3) := by decide +kernel
theorem dX9_isExpected_60 : decode cX9_isExpected 60 = .ok (.imul, 1) := by decide +kernel
theorem dX9_isExpected_61 : decode cX9_isExpected 61 = .ok (.iload_n 3, 1) := by decide +kernel
theorem dX9_isExpected_62 : decode cX9_isExpected 62 = .ok (.if_icmp .lt 7, 3) := by decide +kernel
theorem dX9_isExpected_65 : decode cX9_isExpected 65 = .ok (.iconst 1, 1) := by decide +kernel
theorem dX9_isExpected_66 : decode cX9_isExpected 66 = .ok (.goto 4, 3) := by decide +kernel
theorem dX9_isExpected_69 : decode cX9_isExpected 69 = .ok (.iconst 0, 1) := by decide +kernel
theorem dX9_isExpected_70 : decode cX9_isExpected 70 = .ok (.ireturn, 1) := by decide +kernel
theorem dX9_away_0 : decode cX9_away 0 = .ok (.aload_n 0, 1) := by decide +kernel
theorem dX9_away_1 : decode cX9_away 1 = .ok (.iload_n 1, 1) := by decide +kernel
theorem dX9_away_2 : decode cX9_away 2 = .ok (.iconst 0, 1) := by decide +kernel
theorem dX9_away_3 : decode cX9_away 3 = .ok (.invokevirtual 203, 3) := by decide +kernel
theorem dX9_away_6 : decode cX9_away 6 = .ok (.iconst 1, 1) := by decide +kernel
theorem dX9_away_7 : decode cX9_away 7 = .ok (.if_icmp .ne 7, 3) := by decide +kernel
theorem dX9_away_10 : decode cX9_away 10 = .ok (.iconst 0, 1) := by decide +kernel
theorem dX9_away_11 : decode cX9_away 11 = .ok (.goto 17, 3) := by decide +kernel
theorem dX9_away_14 : decode cX9_away 14 = .ok (.aload_n 0, 1) := by decide +kernel
theorem dX9_away_15 : decode cX9_away 15 = .ok (.getfield 20, 3) := by decide +kernel
theorem dX9_away_18 : decode cX9_away 18 = .ok (.iconst 1, 1) := by decide +kernel
theorem dX9_away_19 : decode cX9_away 19 = .ok (.iaload, 1) := by decide +kernel
theorem dX9_away_20 : decode cX9_away 20 = .ok (.aload_n 0, 1) := by decide +kernel
theorem dX9_away_21 : decode cX9_away 21 = .ok (.iload_n 1, 1) := by decide +kernel
theorem dX9_away_22 : decode cX9_away 22 = .ok (.bipush 8, 2) := by decide +kernel
theorem dX9_away_24 : decode cX9_away 24 = .ok (.invokevirtual 203, 3) := by decide +kernel
theorem dX9_away_27 : decode cX9_away 27 = .ok (.isub, 1) := by decide +kernel
theorem dX9_away_28 : decode cX9_away 28 = .ok (.ireturn, 1) := by decide +kernel
theorem dX9_promiseOf_0 : decode cX9_promiseOf 0 = .ok (.aload_n 0, 1) := by decide +kernel
theorem dX9_promiseOf_1 : decode cX9_promiseOf 1 = .ok (.iload_n 1, 1) := by decide +kernel
theorem dX9_promiseOf_2 : decode cX9_promiseOf 2 = .ok (.iconst 0, 1) := by decide +kernel
theorem dX9_promiseOf_3 : decode cX9_promiseOf 3 = .ok (.invokevirtual 203, 3) := by decide +kernel
theorem dX9_promiseOf_6 : decode cX9_promiseOf 6 = .ok (.iconst 1, 1) := by decide +kernel
theorem dX9_promiseOf_7 : decode cX9_promiseOf 7 = .ok (.if_icmp .eq 11, 3) := by decide +kernel
theorem dX9_promiseOf_10 : decode cX9_promiseOf 10 = .ok (.aload_n 0, 1) := by decide +kernel
theorem dX9_promiseOf_11 : decode cX9_promiseOf 11 = .ok (.iload_n 1, 1) := by decide +kernel
theorem dX9_promiseOf_12 : decode cX9_promiseOf 12 = .ok (.invokevirtual 216, 3) := by decide +kernel
theorem dX9_promiseOf_15 : decode cX9_promiseOf 15 = .ok (.ifCond .eq 5, 3) := by decide +kernel
theorem dX9_promiseOf_18 : decode cX9_promiseOf 18 = .ok (.iconst 0, 1) := by decide +kernel
theorem dX9_promiseOf_19 : decode cX9_promiseOf 19 = .ok (.ireturn, 1) := by decide +kernel
theorem dX9_promiseOf_20 : decode cX9_promiseOf 20 = .ok (.aload_n 0, 1) := by decide +kernel
theorem dX9_promiseOf_21 : decode cX9_promiseOf 21 = .ok (.iload_n 1, 1) := by decide +kernel
theorem dX9_promiseOf_22 : decode cX9_promiseOf 22 = .ok (.bipush 9, 2) := by decide +kernel
theorem dX9_promiseOf_24 : decode cX9_promiseOf 24 = .ok (.invokevirtual 203, 3) := by decide +kernel
theorem dX9_promiseOf_27 : decode cX9_promiseOf 27 = .ok (.ifCond .ne 7, 3) := by decide +kernel
theorem dX9_promiseOf_30 : decode cX9_promiseOf 30 = .ok (.sipush 600, 3) := by decide +kernel
theorem dX9_promiseOf_33 : decode cX9_promiseOf 33 = .ok (.ireturn, 1) := by decide +kernel
theorem dX9_promiseOf_34 : decode cX9_promiseOf 34 = .ok (.aload_n 0, 1) := by decide +kernel
theorem dX9_promiseOf_35 : decode cX9_promiseOf 35 = .ok (.iload_n 1, 1) := by decide +kernel
theorem dX9_promiseOf_36 : decode cX9_promiseOf 36 = .ok (.invokevirtual 219, 3) := by decide +kernel
theorem dX9_promiseOf_39 : decode cX9_promiseOf 39 = .ok (.aload_n 0, 1) := by decide +kernel
theorem dX9_promiseOf_40 : decode cX9_promiseOf 40 = .ok (.iload_n 1, 1) := by decide +kernel
theorem dX9_promiseOf_41 : decode cX9_promiseOf 41 = .ok (.invokevirtual 222, 3) := by decide +kernel
theorem dX9_promiseOf_44 : decode cX9_promiseOf 44 = .ok (.isub, 1) := by decide +kernel
theorem dX9_promiseOf_45 : decode cX9_promiseOf 45 = .ok (.istore_n 2, 1) := by decide +kernel
theorem dX9_promiseOf_46 : decode cX9_promiseOf 46 = .ok (.iload_n 2, 1) := by decide +kernel
theorem dX9_promiseOf_47 : decode cX9_promiseOf 47 = .ok (.ifCond .ge 7, 3) := by decide +kernel
theorem dX9_promiseOf_50 : decode cX9_promiseOf 50 = .ok (.iconst 0, 1) := by decide +kernel
theorem dX9_promiseOf_51 : decode cX9_promiseOf 51 = .ok (.goto 4, 3) := by decide +kernel
theorem dX9_promiseOf_54 : decode cX9_promiseOf 54 = .ok (.iload_n 2, 1) := by decide +kernel
theorem dX9_promiseOf_55 : decode cX9_promiseOf 55 = .ok (.ireturn, 1) := by decide +kernel
theorem dX9_isPrecious_0 : decode cX9_isPrecious 0 = .ok (.aload_n 0, 1) := by decide +kernel
theorem dX9_isPrecious_1 : decode cX9_isPrecious 1 = .ok (.iload_n 1, 1) := by decide +kernel
theorem dX9_isPrecious_2 : decode cX9_isPrecious 2 = .ok (.iconst 4, 1) := by decide +kernel
theorem dX9_isPrecious_3 : decode cX9_isPrecious 3 = .ok (.invokevirtual 203, 3) := by decide +kernel
theorem dX9_isPrecious_6 : decode cX9_isPrecious 6 = .ok (.ifCond .le 25, 3) := by decide +kernel
theorem dX9_isPrecious_9 : decode cX9_isPrecious 9 = .ok (.aload_n 0, 1) := by decide +kernel
theorem dX9_isPrecious_10 : decode cX9_isPrecious 10 = .ok (.getfield 20, 3) := by decide +kernel
theorem dX9_isPrecious_13 : decode cX9_isPrecious 13 = .ok (.iconst 1, 1) := by decide +kernel
theorem dX9_isPrecious_14 : decode cX9_isPrecious 14 = .ok (.iaload, 1) := by decide +kernel
theorem dX9_isPrecious_15 : decode cX9_isPrecious 15 = .ok (.aload_n 0, 1) := by decide +kernel
theorem dX9_isPrecious_16 : decode cX9_isPrecious 16 = .ok (.iload_n 1, 1) := by decide +kernel
theorem dX9_isPrecious_17 : decode cX9_isPrecious 17 = .ok (.iconst 5, 1) := by decide +kernel
theorem dX9_isPrecious_18 : decode cX9_isPrecious 18 = .ok (.invokevirtual 203, 3) := by decide +kernel
theorem dX9_isPrecious_21 : decode cX9_isPrecious 21 = .ok (.bipush 60, 2) := by decide +kernel
theorem dX9_isPrecious_23 : decode cX9_isPrecious 23 = .ok (.iadd, 1) := by decide +kernel
theorem dX9_isPrecious_24 : decode cX9_isPrecious 24 = .ok (.if_icmp .ge 7, 3) := by decide +kernel
theorem dX9_isPrecious_27 : decode cX9_isPrecious 27 = .ok (.iconst 1, 1) := by decide +kernel
theorem dX9_isPrecious_28 : decode cX9_isPrecious 28 = .ok (.goto 4, 3) := by decide +kernel
theorem dX9_isPrecious_31 : decode cX9_isPrecious 31 = .ok (.iconst 0, 1) := by decide +kernel
theorem dX9_isPrecious_32 : decode cX9_isPrecious 32 = .ok (.ireturn, 1) := by decide +kernel
theorem dX9_canHave_0 : decode cX9_canHave 0 = .ok (.aload_n 0, 1) := by decide +kernel
theorem dX9_canHave_1 : decode cX9_canHave 1 = .ok (.iload_n 1, 1) := by decide +kernel
theorem dX9_canHave_2 : decode cX9_canHave 2 = .ok (.iconst 0, 1) := by decide +kernel
theorem dX9_canHave_3 : decode cX9_canHave 3 = .ok (.invokevirtual 203, 3) := by decide +kernel
theorem dX9_canHave_6 : decode cX9_canHave 6 = .ok (.istore_n 3, 1) := by decide +kernel
theorem dX9_canHave_7 : decode cX9_canHave 7 = .ok (.aload_n 0, 1) := by decide +kernel
theorem dX9_canHave_8 : decode cX9_canHave 8 = .ok (.iload_n 1, 1) := by decide +kernel
theorem dX9_canHave_9 : decode cX9_canHave 9 = .ok (.bipush 6, 2) := by decide +kernel
theorem dX9_canHave_11 : decode cX9_canHave 11 = .ok (.invokevirtual 203, 3) := by decide +kernel
theorem dX9_canHave_14 : decode cX9_canHave 14 = .ok (.ifCond .ne 7, 3) := by decide +kernel
theorem dX9_canHave_17 : decode cX9_canHave 17 = .ok (.iconst 1, 1) := by decide +kernel
theorem dX9_canHave_18 : decode cX9_canHave 18 = .ok (.goto 4, 3) := by decide +kernel
theorem dX9_canHave_21 : decode cX9_canHave 21 = .ok (.iconst 0, 1) := by decide +kernel
theorem dX9_canHave_22 : decode cX9_canHave 22 = .ok (.istore 4, 2) := by decide +kernel
theorem dX9_canHave_24 : decode cX9_canHave 24 = .ok (.iload_n 2, 1) := by decide +kernel
theorem dX9_canHave_25 : decode cX9_canHave 25 = .ok (.tableswitch 124 1 5 #[35, 60, 76, 92, 108], 35) := by decide +kernel
theorem dX9_canHave_60 : decode cX9_canHave 60 = .ok (.iload_n 3, 1) := by decide +kernel
theorem dX9_canHave_61 : decode cX9_canHave 61 = .ok (.iconst 2, 1) := by decide +kernel
theorem dX9_canHave_62 : decode cX9_canHave 62 = .ok (.if_icmp .eq 8, 3) := by decide +kernel
theorem dX9_canHave_65 : decode cX9_canHave 65 = .ok (.iload_n 3, 1) := by decide +kernel
theorem dX9_canHave_66 : decode cX9_canHave 66 = .ok (.iconst 3, 1) := by decide +kernel
theorem dX9_canHave_67 : decode cX9_canHave 67 = .ok (.if_icmp .ne 16, 3) := by decide +kernel
theorem dX9_canHave_70 : decode cX9_canHave 70 = .ok (.aload_n 0, 1) := by decide +kernel
theorem dX9_canHave_71 : decode cX9_canHave 71 = .ok (.iload_n 1, 1) := by decide +kernel
theorem dX9_canHave_72 : decode cX9_canHave 72 = .ok (.iconst 2, 1) := by decide +kernel
theorem dX9_canHave_73 : decode cX9_canHave 73 = .ok (.invokevirtual 203, 3) := by decide +kernel
theorem dX9_canHave_76 : decode cX9_canHave 76 = .ok (.ifCond .le 7, 3) := by decide +kernel
theorem dX9_canHave_79 : decode cX9_canHave 79 = .ok (.iconst 1, 1) := by decide +kernel
theorem dX9_canHave_80 : decode cX9_canHave 80 = .ok (.goto 4, 3) := by decide +kernel
theorem dX9_canHave_83 : decode cX9_canHave 83 = .ok (.iconst 0, 1) := by decide +kernel
theorem dX9_canHave_84 : decode cX9_canHave 84 = .ok (.ireturn, 1) := by decide +kernel
theorem dX9_canHave_85 : decode cX9_canHave 85 = .ok (.iload_n 3, 1) := by decide +kernel
theorem dX9_canHave_86 : decode cX9_canHave 86 = .ok (.iconst 3, 1) := by decide +kernel
theorem dX9_canHave_87 : decode cX9_canHave 87 = .ok (.if_icmp .ne 12, 3) := by decide +kernel
theorem dX9_canHave_90 : decode cX9_canHave 90 = .ok (.iload 4, 2) := by decide +kernel
theorem dX9_canHave_92 : decode cX9_canHave 92 = .ok (.ifCond .eq 7, 3) := by decide +kernel
theorem dX9_canHave_95 : decode cX9_canHave 95 = .ok (.iconst 1, 1) := by decide +kernel
theorem dX9_canHave_96 : decode cX9_canHave 96 = .ok (.goto 4, 3) := by decide +kernel
theorem dX9_canHave_99 : decode cX9_canHave 99 = .ok (.iconst 0, 1) := by decide +kernel
theorem dX9_canHave_100 : decode cX9_canHave 100 = .ok (.ireturn, 1) := by decide +kernel
theorem dX9_canHave_101 : decode cX9_canHave 101 = .ok (.iload_n 3, 1) := by decide +kernel
theorem dX9_canHave_102 : decode cX9_canHave 102 = .ok (.iconst 2, 1) := by decide +kernel
theorem dX9_canHave_103 : decode cX9_canHave 103 = .ok (.if_icmp .ne 12, 3) := by decide +kernel
theorem dX9_canHave_106 : decode cX9_canHave 106 = .ok (.iload 4, 2) := by decide +kernel
theorem dX9_canHave_108 : decode cX9_canHave 108 = .ok (.ifCond .eq 7, 3) := by decide +kernel
theorem dX9_canHave_111 : decode cX9_canHave 111 = .ok (.iconst 1, 1) := by decide +kernel
theorem dX9_canHave_112 : decode cX9_canHave 112 = .ok (.goto 4, 3) := by decide +kernel
theorem dX9_canHave_115 : decode cX9_canHave 115 = .ok (.iconst 0, 1) := by decide +kernel
theorem dX9_canHave_116 : decode cX9_canHave 116 = .ok (.ireturn, 1) := by decide +kernel
theorem dX9_canHave_117 : decode cX9_canHave 117 = .ok (.iload_n 3, 1) := by decide +kernel
theorem dX9_canHave_118 : decode cX9_canHave 118 = .ok (.iconst 4, 1) := by decide +kernel
theorem dX9_canHave_119 : decode cX9_canHave 119 = .ok (.if_icmp .ne 12, 3) := by decide +kernel
theorem dX9_canHave_122 : decode cX9_canHave 122 = .ok (.iload 4, 2) := by decide +kernel
theorem dX9_canHave_124 : decode cX9_canHave 124 = .ok (.ifCond .eq 7, 3) := by decide +kernel
theorem dX9_canHave_127 : decode cX9_canHave 127 = .ok (.iconst 1, 1) := by decide +kernel
theorem dX9_canHave_128 : decode cX9_canHave 128 = .ok (.goto 4, 3) := by decide +kernel
theorem dX9_canHave_131 : decode cX9_canHave 131 = .ok (.iconst 0, 1) := by decide +kernel
theorem dX9_canHave_132 : decode cX9_canHave 132 = .ok (.ireturn, 1) := by decide +kernel
theorem dX9_canHave_133 : decode cX9_canHave 133 = .ok (.iload_n 3, 1) := by decide +kernel
theorem dX9_canHave_134 : decode cX9_canHave 134 = .ok (.iconst 5, 1) := by decide +kernel
theorem dX9_canHave_135 : decode cX9_canHave 135 = .ok (.if_icmp .ne 12, 3) := by decide +kernel
theorem dX9_canHave_138 : decode cX9_canHave 138 = .ok (.iload 4, 2) := by decide +kernel
theorem dX9_canHave_140 : decode cX9_canHave 140 = .ok (.ifCond .eq 7, 3) := by decide +kernel
theorem dX9_canHave_143 : decode cX9_canHave 143 = .ok (.iconst 1, 1) := by decide +kernel
theorem dX9_canHave_144 : decode cX9_canHave 144 = .ok (.goto 4, 3) := by decide +kernel
theorem dX9_canHave_147 : decode cX9_canHave 147 = .ok (.iconst 0, 1) := by decide +kernel
theorem dX9_canHave_148 : decode cX9_canHave 148 = .ok (.ireturn, 1) := by decide +kernel
theorem dX9_canHave_149 : decode cX9_canHave 149 = .ok (.iload_n 3, 1) := by decide +kernel
theorem dX9_canHave_150 : decode cX9_canHave 150 = .ok (.iconst 1, 1) := by decide +kernel
theorem dX9_canHave_151 : decode cX9_canHave 151 = .ok (.if_icmp .ne 16, 3) := by decide +kernel
theorem dX9_canHave_154 : decode cX9_canHave 154 = .ok (.aload_n 0, 1) := by decide +kernel
theorem dX9_canHave_155 : decode cX9_canHave 155 = .ok (.iload_n 1, 1) := by decide +kernel
theorem dX9_canHave_156 : decode cX9_canHave 156 = .ok (.iconst 2, 1) := by decide +kernel
theorem dX9_canHave_157 : decode cX9_canHave 157 = .ok (.invokevirtual 203, 3) := by decide +kernel
theorem dX9_canHave_160 : decode cX9_canHave 160 = .ok (.ifCond .le 7, 3) := by decide +kernel
theorem dX9_canHave_163 : decode cX9_canHave 163 = .ok (.iconst 1, 1) := by decide +kernel
theorem dX9_canHave_164 : decode cX9_canHave 164 = .ok (.goto 4, 3) := by decide +kernel
theorem dX9_canHave_167 : decode cX9_canHave 167 = .ok (.iconst 0, 1) := by decide +kernel
theorem dX9_canHave_168 : decode cX9_canHave 168 = .ok (.ireturn, 1) := by decide +kernel
theorem dX9_rankOf_0 : decode cX9_rankOf 0 = .ok (.aload_n 0, 1) := by decide +kernel
theorem dX9_rankOf_1 : decode cX9_rankOf 1 = .ok (.getfield 20, 3) := by decide +kernel
theorem dX9_rankOf_4 : decode cX9_rankOf 4 = .ok (.iconst 4, 1) := by decide +kernel
theorem dX9_rankOf_5 : decode cX9_rankOf 5 = .ok (.iaload, 1) := by decide +kernel
theorem dX9_rankOf_6 : decode cX9_rankOf 6 = .ok (.ifCond .ne 11, 3) := by decide +kernel
theorem dX9_rankOf_9 : decode cX9_rankOf 9 = .ok (.aload_n 0, 1) := by decide +kernel
theorem dX9_rankOf_10 : decode cX9_rankOf 10 = .ok (.iload_n 1, 1) := by decide +kernel
theorem dX9_rankOf_11 : decode cX9_rankOf 11 = .ok (.invokevirtual 225, 3) := by decide +kernel
theorem dX9_rankOf_14 : decode cX9_rankOf 14 = .ok (.goto 26, 3) := by decide +kernel
theorem dX9_rankOf_17 : decode cX9_rankOf 17 = .ok (.aload_n 0, 1) := by decide +kernel
theorem dX9_rankOf_18 : decode cX9_rankOf 18 = .ok (.getfield 20, 3) := by decide +kernel
theorem dX9_rankOf_21 : decode cX9_rankOf 21 = .ok (.iconst 4, 1) := by decide +kernel
theorem dX9_rankOf_22 : decode cX9_rankOf 22 = .ok (.iaload, 1) := by decide +kernel
theorem dX9_rankOf_23 : decode cX9_rankOf 23 = .ok (.iconst 1, 1) := by decide +kernel
theorem dX9_rankOf_24 : decode cX9_rankOf 24 = .ok (.if_icmp .ne 11, 3) := by decide +kernel
theorem dX9_rankOf_27 : decode cX9_rankOf 27 = .ok (.aload_n 0, 1) := by decide +kernel
theorem dX9_rankOf_28 : decode cX9_rankOf 28 = .ok (.iload_n 1, 1) := by decide +kernel
theorem dX9_rankOf_29 : decode cX9_rankOf 29 = .ok (.invokevirtual 210, 3) := by decide +kernel
theorem dX9_rankOf_32 : decode cX9_rankOf 32 = .ok (.goto 8, 3) := by decide +kernel
theorem dX9_rankOf_35 : decode cX9_rankOf 35 = .ok (.aload_n 0, 1) := by decide +kernel
theorem dX9_rankOf_36 : decode cX9_rankOf 36 = .ok (.iload_n 1, 1) := by decide +kernel
theorem dX9_rankOf_37 : decode cX9_rankOf 37 = .ok (.invokevirtual 222, 3) := by decide +kernel
theorem dX9_rankOf_40 : decode cX9_rankOf 40 = .ok (.ireturn, 1) := by decide +kernel
theorem dX9_comesAhead_0 : decode cX9_comesAhead 0 = .ok (.iload_n 3, 1) := by decide +kernel
theorem dX9_comesAhead_1 : decode cX9_comesAhead 1 = .ok (.iconst 4, 1) := by decide +kernel
theorem dX9_comesAhead_2 : decode cX9_comesAhead 2 = .ok (.if_icmp .eq 8, 3) := by decide +kernel
theorem dX9_comesAhead_5 : decode cX9_comesAhead 5 = .ok (.iload_n 3, 1) := by decide +kernel
theorem dX9_comesAhead_6 : decode cX9_comesAhead 6 = .ok (.iconst 5, 1) := by decide +kernel
theorem dX9_comesAhead_7 : decode cX9_comesAhead 7 = .ok (.if_icmp .ne 7, 3) := by decide +kernel
theorem dX9_comesAhead_10 : decode cX9_comesAhead 10 = .ok (.iconst 1, 1) := by decide +kernel
theorem dX9_comesAhead_11 : decode cX9_comesAhead 11 = .ok (.goto 4, 3) := by decide +kernel
theorem dX9_comesAhead_14 : decode cX9_comesAhead 14 = .ok (.iconst 0, 1) := by decide +kernel
theorem dX9_comesAhead_15 : decode cX9_comesAhead 15 = .ok (.istore 4, 2) := by decide +kernel
theorem dX9_comesAhead_17 : decode cX9_comesAhead 17 = .ok (.iload 4, 2) := by decide +kernel
theorem dX9_comesAhead_19 : decode cX9_comesAhead 19 = .ok (.ifCond .eq 30, 3) := by decide +kernel
theorem dX9_comesAhead_22 : decode cX9_comesAhead 22 = .ok (.aload_n 0, 1) := by decide +kernel
theorem dX9_comesAhead_23 : decode cX9_comesAhead 23 = .ok (.iload_n 1, 1) := by decide +kernel
theorem dX9_comesAhead_24 : decode cX9_comesAhead 24 = .ok (.invokevirtual 228, 3) := by decide +kernel
theorem dX9_comesAhead_27 : decode cX9_comesAhead 27 = .ok (.aload_n 0, 1) := by decide +kernel
theorem dX9_comesAhead_28 : decode cX9_comesAhead 28 = .ok (.iload_n 2, 1) := by decide +kernel
theorem dX9_comesAhead_29 : decode cX9_comesAhead 29 = .ok (.invokevirtual 228, 3) := by decide +kernel
theorem dX9_comesAhead_32 : decode cX9_comesAhead 32 = .ok (.if_icmp .eq 17, 3) := by decide +kernel
theorem dX9_comesAhead_35 : decode cX9_comesAhead 35 = .ok (.aload_n 0, 1) := by decide +kernel
theorem dX9_comesAhead_36 : decode cX9_comesAhead 36 = .ok (.iload_n 1, 1) := by decide +kernel
theorem dX9_comesAhead_37 : decode cX9_comesAhead 37 = .ok (.invokevirtual 228, 3) := by decide +kernel
theorem dX9_comesAhead_40 : decode cX9_comesAhead 40 = .ok (.ifCond .ne 7, 3) := by decide +kernel
theorem dX9_comesAhead_43 : decode cX9_comesAhead 43 = .ok (.iconst 1, 1) := by decide +kernel
theorem dX9_comesAhead_44 : decode cX9_comesAhead 44 = .ok (.goto 4, 3) := by decide +kernel
theorem dX9_comesAhead_47 : decode cX9_comesAhead 47 = .ok (.iconst 0, 1) := by decide +kernel
theorem dX9_comesAhead_48 : decode cX9_comesAhead 48 = .ok (.ireturn, 1) := by decide +kernel
theorem dX9_comesAhead_49 : decode cX9_comesAhead 49 = .ok (.aload_n 0, 1) := by decide +kernel
theorem dX9_comesAhead_50 : decode cX9_comesAhead 50 = .ok (.iload_n 1, 1) := by decide +kernel
theorem dX9_comesAhead_51 : decode cX9_comesAhead 51 = .ok (.invokevirtual 231, 3) := by decide +kernel
theorem dX9_comesAhead_54 : decode cX9_comesAhead 54 = .ok (.aload_n 0, 1) := by decide +kernel
theorem dX9_comesAhead_55 : decode cX9_comesAhead 55 = .ok (.iload_n 2, 1) := by decide +kernel
theorem dX9_comesAhead_56 : decode cX9_comesAhead 56 = .ok (.invokevirtual 231, 3) := by decide +kernel
theorem dX9_comesAhead_59 : decode cX9_comesAhead 59 = .ok (.if_icmp .le 7, 3) := by decide +kernel
theorem dX9_comesAhead_62 : decode cX9_comesAhead 62 = .ok (.iconst 1, 1) := by decide +kernel
theorem dX9_comesAhead_63 : decode cX9_comesAhead 63 = .ok (.goto 4, 3) := by decide +kernel
theorem dX9_comesAhead_66 : decode cX9_comesAhead 66 = .ok (.iconst 0, 1) := by decide +kernel
theorem dX9_comesAhead_67 : decode cX9_comesAhead 67 = .ok (.ireturn, 1) := by decide +kernel
theorem dX9_victimOf_0 : decode cX9_victimOf 0 = .ok (.iconst (-1), 1) := by decide +kernel
theorem dX9_victimOf_1 : decode cX9_victimOf 1 = .ok (.istore_n 2, 1) := by decide +kernel
theorem dX9_victimOf_2 : decode cX9_victimOf 2 = .ok (.iconst 0, 1) := by decide +kernel
theorem dX9_victimOf_3 : decode cX9_victimOf 3 = .ok (.istore_n 3, 1) := by decide +kernel
theorem dX9_victimOf_4 : decode cX9_victimOf 4 = .ok (.iload_n 3, 1) := by decide +kernel
theorem dX9_victimOf_5 : decode cX9_victimOf 5 = .ok (.aload_n 0, 1) := by decide +kernel
theorem dX9_victimOf_6 : decode cX9_victimOf 6 = .ok (.getfield 197, 3) := by decide +kernel
theorem dX9_victimOf_9 : decode cX9_victimOf 9 = .ok (.if_icmp .ge 39, 3) := by decide +kernel
theorem dX9_victimOf_12 : decode cX9_victimOf 12 = .ok (.aload_n 0, 1) := by decide +kernel
theorem dX9_victimOf_13 : decode cX9_victimOf 13 = .ok (.iload_n 3, 1) := by decide +kernel
theorem dX9_victimOf_14 : decode cX9_victimOf 14 = .ok (.iload_n 1, 1) := by decide +kernel
theorem dX9_victimOf_15 : decode cX9_victimOf 15 = .ok (.invokevirtual 234, 3) := by decide +kernel
theorem dX9_victimOf_18 : decode cX9_victimOf 18 = .ok (.ifCond .eq 22, 3) := by decide +kernel
theorem dX9_victimOf_21 : decode cX9_victimOf 21 = .ok (.iload_n 2, 1) := by decide +kernel
theorem dX9_victimOf_22 : decode cX9_victimOf 22 = .ok (.iconst (-1), 1) := by decide +kernel
theorem dX9_victimOf_23 : decode cX9_victimOf 23 = .ok (.if_icmp .eq 13, 3) := by decide +kernel
theorem dX9_victimOf_26 : decode cX9_victimOf 26 = .ok (.aload_n 0, 1) := by decide +kernel
theorem dX9_victimOf_27 : decode cX9_victimOf 27 = .ok (.iload_n 3, 1) := by decide +kernel
theorem dX9_victimOf_28 : decode cX9_victimOf 28 = .ok (.iload_n 2, 1) := by decide +kernel
theorem dX9_victimOf_29 : decode cX9_victimOf 29 = .ok (.iload_n 1, 1) := by decide +kernel
theorem dX9_victimOf_30 : decode cX9_victimOf 30 = .ok (.invokevirtual 237, 3) := by decide +kernel
theorem dX9_victimOf_33 : decode cX9_victimOf 33 = .ok (.ifCond .eq 7, 3) := by decide +kernel
theorem dX9_victimOf_36 : decode cX9_victimOf 36 = .ok (.iload_n 3, 1) := by decide +kernel
theorem dX9_victimOf_37 : decode cX9_victimOf 37 = .ok (.goto 4, 3) := by decide +kernel
theorem dX9_victimOf_40 : decode cX9_victimOf 40 = .ok (.iload_n 2, 1) := by decide +kernel
theorem dX9_victimOf_41 : decode cX9_victimOf 41 = .ok (.istore_n 2, 1) := by decide +kernel
theorem dX9_victimOf_42 : decode cX9_victimOf 42 = .ok (.iinc 3 1, 3) := by decide +kernel
theorem dX9_victimOf_45 : decode cX9_victimOf 45 = .ok (.goto (-41), 3) := by decide +kernel
theorem dX9_victimOf_48 : decode cX9_victimOf 48 = .ok (.iload_n 2, 1) := by decide +kernel
theorem dX9_victimOf_49 : decode cX9_victimOf 49 = .ok (.ireturn, 1) := by decide +kernel
theorem dX9_writes_0 : decode cX9_writes 0 = .ok (.bipush 23, 2) := by decide +kernel
theorem dX9_writes_2 : decode cX9_writes 2 = .ok (.istore_n 3, 1) := by decide +kernel
theorem dX9_writes_3 : decode cX9_writes 3 = .ok (.iload_n 3, 1) := by decide +kernel
theorem dX9_writes_4 : decode cX9_writes 4 = .ok (.ifCond .le 56, 3) := by decide +kernel
theorem dX9_writes_7 : decode cX9_writes 7 = .ok (.iconst 0, 1) := by decide +kernel
theorem dX9_writes_8 : decode cX9_writes 8 = .ok (.istore 4, 2) := by decide +kernel
theorem dX9_writes_10 : decode cX9_writes 10 = .ok (.iload 4, 2) := by decide +kernel
theorem dX9_writes_12 : decode cX9_writes 12 = .ok (.iconst 3, 1) := by decide +kernel
theorem dX9_writes_13 : decode cX9_writes 13 = .ok (.if_icmp .ge 41, 3) := by decide +kernel
theorem dX9_writes_16 : decode cX9_writes 16 = .ok (.aload_n 0, 1) := by decide +kernel
theorem dX9_writes_17 : decode cX9_writes 17 = .ok (.getfield 20, 3) := by decide +kernel
theorem dX9_writes_20 : decode cX9_writes 20 = .ok (.sipush 306, 3) := by decide +kernel
theorem dX9_writes_23 : decode cX9_writes 23 = .ok (.iconst 3, 1) := by decide +kernel
theorem dX9_writes_24 : decode cX9_writes 24 = .ok (.iload_n 3, 1) := by decide +kernel
theorem dX9_writes_25 : decode cX9_writes 25 = .ok (.imul, 1) := by decide +kernel
theorem dX9_writes_26 : decode cX9_writes 26 = .ok (.iadd, 1) := by decide +kernel
theorem dX9_writes_27 : decode cX9_writes 27 = .ok (.iload 4, 2) := by decide +kernel
theorem dX9_writes_29 : decode cX9_writes 29 = .ok (.iadd, 1) := by decide +kernel
theorem dX9_writes_30 : decode cX9_writes 30 = .ok (.aload_n 0, 1) := by decide +kernel
theorem dX9_writes_31 : decode cX9_writes 31 = .ok (.getfield 20, 3) := by decide +kernel
theorem dX9_writes_34 : decode cX9_writes 34 = .ok (.sipush 306, 3) := by decide +kernel
theorem dX9_writes_37 : decode cX9_writes 37 = .ok (.iconst 3, 1) := by decide +kernel
theorem dX9_writes_38 : decode cX9_writes 38 = .ok (.iload_n 3, 1) := by decide +kernel
theorem dX9_writes_39 : decode cX9_writes 39 = .ok (.imul, 1) := by decide +kernel
theorem dX9_writes_40 : decode cX9_writes 40 = .ok (.iadd, 1) := by decide +kernel
theorem dX9_writes_41 : decode cX9_writes 41 = .ok (.iconst 3, 1) := by decide +kernel
theorem dX9_writes_42 : decode cX9_writes 42 = .ok (.isub, 1) := by decide +kernel
theorem dX9_writes_43 : decode cX9_writes 43 = .ok (.iload 4, 2) := by decide +kernel
theorem dX9_writes_45 : decode cX9_writes 45 = .ok (.iadd, 1) := by decide +kernel
theorem dX9_writes_46 : decode cX9_writes 46 = .ok (.iaload, 1) := by decide +kernel
theorem dX9_writes_47 : decode cX9_writes 47 = .ok (.iastore, 1) := by decide +kernel
theorem dX9_writes_48 : decode cX9_writes 48 = .ok (.iinc 4 1, 3) := by decide +kernel
theorem dX9_writes_51 : decode cX9_writes 51 = .ok (.goto (-41), 3) := by decide +kernel
theorem dX9_writes_54 : decode cX9_writes 54 = .ok (.iinc 3 (-1), 3) := by decide +kernel
theorem dX9_writes_57 : decode cX9_writes 57 = .ok (.goto (-54), 3) := by decide +kernel
theorem dX9_writes_60 : decode cX9_writes 60 = .ok (.aload_n 0, 1) := by decide +kernel
theorem dX9_writes_61 : decode cX9_writes 61 = .ok (.getfield 20, 3) := by decide +kernel
theorem dX9_writes_64 : decode cX9_writes 64 = .ok (.sipush 306, 3) := by decide +kernel
theorem dX9_writes_67 : decode cX9_writes 67 = .ok (.iload_n 1, 1) := by decide +kernel
theorem dX9_writes_68 : decode cX9_writes 68 = .ok (.iastore, 1) := by decide +kernel
theorem dX9_writes_69 : decode cX9_writes 69 = .ok (.aload_n 0, 1) := by decide +kernel
theorem dX9_writes_70 : decode cX9_writes 70 = .ok (.getfield 20, 3) := by decide +kernel
theorem dX9_writes_73 : decode cX9_writes 73 = .ok (.sipush 307, 3) := by decide +kernel
theorem dX9_writes_76 : decode cX9_writes 76 = .ok (.iload_n 2, 1) := by decide +kernel
theorem dX9_writes_77 : decode cX9_writes 77 = .ok (.iastore, 1) := by decide +kernel
theorem dX9_writes_78 : decode cX9_writes 78 = .ok (.aload_n 0, 1) := by decide +kernel
theorem dX9_writes_79 : decode cX9_writes 79 = .ok (.getfield 20, 3) := by decide +kernel
theorem dX9_writes_82 : decode cX9_writes 82 = .ok (.sipush 308, 3) := by decide +kernel
theorem dX9_writes_85 : decode cX9_writes 85 = .ok (.aload_n 0, 1) := by decide +kernel
theorem dX9_writes_86 : decode cX9_writes 86 = .ok (.getfield 20, 3) := by decide +kernel
theorem dX9_writes_89 : decode cX9_writes 89 = .ok (.iconst 1, 1) := by decide +kernel
theorem dX9_writes_90 : decode cX9_writes 90 = .ok (.iaload, 1) := by decide +kernel
theorem dX9_writes_91 : decode cX9_writes 91 = .ok (.iastore, 1) := by decide +kernel
theorem dX9_writes_92 : decode cX9_writes 92 = .ok (.aload_n 0, 1) := by decide +kernel
theorem dX9_writes_93 : decode cX9_writes 93 = .ok (.getfield 20, 3) := by decide +kernel
theorem dX9_writes_96 : decode cX9_writes 96 = .ok (.iconst 5, 1) := by decide +kernel
theorem dX9_writes_97 : decode cX9_writes 97 = .ok (.dup2, 1) := by decide +kernel
theorem dX9_writes_98 : decode cX9_writes 98 = .ok (.iaload, 1) := by decide +kernel
theorem dX9_writes_99 : decode cX9_writes 99 = .ok (.aload_n 0, 1) := by decide +kernel
theorem dX9_writes_100 : decode cX9_writes 100 = .ok (.getfield 20, 3) := by decide +kernel
theorem dX9_writes_103 : decode cX9_writes 103 = .ok (.iconst 5, 1) := by decide +kernel
theorem dX9_writes_104 : decode cX9_writes 104 = .ok (.iaload, 1) := by decide +kernel
theorem dX9_writes_105 : decode cX9_writes 105 = .ok (.bipush 24, 2) := by decide +kernel
theorem dX9_writes_107 : decode cX9_writes 107 = .ok (.if_icmp .ge 7, 3) := by decide +kernel
theorem dX9_writes_110 : decode cX9_writes 110 = .ok (.iconst 1, 1) := by decide +kernel
theorem dX9_writes_111 : decode cX9_writes 111 = .ok (.goto 4, 3) := by decide +kernel
theorem dX9_writes_114 : decode cX9_writes 114 = .ok (.iconst 0, 1) := by decide +kernel
theorem dX9_writes_115 : decode cX9_writes 115 = .ok (.iadd, 1) := by decide +kernel
theorem dX9_writes_116 : decode cX9_writes 116 = .ok (.iastore, 1) := by decide +kernel
theorem dX9_writes_117 : decode cX9_writes 117 = .ok (.aload_n 0, 1) := by decide +kernel
theorem dX9_writes_118 : decode cX9_writes 118 = .ok (.getfield 20, 3) := by decide +kernel
theorem dX9_writes_121 : decode cX9_writes 121 = .ok (.sipush 378, 3) := by decide +kernel
theorem dX9_writes_124 : decode cX9_writes 124 = .ok (.iload_n 1, 1) := by decide +kernel
theorem dX9_writes_125 : decode cX9_writes 125 = .ok (.iadd, 1) := by decide +kernel
theorem dX9_writes_126 : decode cX9_writes 126 = .ok (.dup2, 1) := by decide +kernel
theorem dX9_writes_127 : decode cX9_writes 127 = .ok (.iaload, 1) := by decide +kernel
theorem dX9_writes_128 : decode cX9_writes 128 = .ok (.iconst 1, 1) := by decide +kernel
theorem dX9_writes_129 : decode cX9_writes 129 = .ok (.iadd, 1) := by decide +kernel
theorem dX9_writes_130 : decode cX9_writes 130 = .ok (.iastore, 1) := by decide +kernel
theorem dX9_writes_131 : decode cX9_writes 131 = .ok (.return_, 1) := by decide +kernel
theorem dX9_empties_0 : decode cX9_empties 0 = .ok (.aload_n 0, 1) := by decide +kernel
theorem dX9_empties_1 : decode cX9_empties 1 = .ok (.iload_n 1, 1) := by decide +kernel
theorem dX9_empties_2 : decode cX9_empties 2 = .ok (.iconst 0, 1) := by decide +kernel
theorem dX9_empties_3 : decode cX9_empties 3 = .ok (.iconst 0, 1) := by decide +kernel
theorem dX9_empties_4 : decode cX9_empties 4 = .ok (.invokevirtual 240, 3) := by decide +kernel
theorem dX9_empties_7 : decode cX9_empties 7 = .ok (.aload_n 0, 1) := by decide +kernel
theorem dX9_empties_8 : decode cX9_empties 8 = .ok (.iload_n 1, 1) := by decide +kernel
theorem dX9_empties_9 : decode cX9_empties 9 = .ok (.iconst 1, 1) := by decide +kernel
theorem dX9_empties_10 : decode cX9_empties 10 = .ok (.iconst 0, 1) := by decide +kernel
theorem dX9_empties_11 : decode cX9_empties 11 = .ok (.invokevirtual 240, 3) := by decide +kernel
theorem dX9_empties_14 : decode cX9_empties 14 = .ok (.aload_n 0, 1) := by decide +kernel
theorem dX9_empties_15 : decode cX9_empties 15 = .ok (.iload_n 1, 1) := by decide +kernel
theorem dX9_empties_16 : decode cX9_empties 16 = .ok (.iconst 2, 1) := by decide +kernel
theorem dX9_empties_17 : decode cX9_empties 17 = .ok (.iconst 0, 1) := by decide +kernel
theorem dX9_empties_18 : decode cX9_empties 18 = .ok (.invokevirtual 240, 3) := by decide +kernel
theorem dX9_empties_21 : decode cX9_empties 21 = .ok (.aload_n 0, 1) := by decide +kernel
theorem dX9_empties_22 : decode cX9_empties 22 = .ok (.iload_n 1, 1) := by decide +kernel
theorem dX9_empties_23 : decode cX9_empties 23 = .ok (.iconst 3, 1) := by decide +kernel
theorem dX9_empties_24 : decode cX9_empties 24 = .ok (.iconst 0, 1) := by decide +kernel
theorem dX9_empties_25 : decode cX9_empties 25 = .ok (.invokevirtual 240, 3) := by decide +kernel
theorem dX9_empties_28 : decode cX9_empties 28 = .ok (.aload_n 0, 1) := by decide +kernel
theorem dX9_empties_29 : decode cX9_empties 29 = .ok (.iload_n 1, 1) := by decide +kernel
theorem dX9_empties_30 : decode cX9_empties 30 = .ok (.bipush 15, 2) := by decide +kernel
theorem dX9_empties_32 : decode cX9_empties 32 = .ok (.iconst 0, 1) := by decide +kernel
theorem dX9_empties_33 : decode cX9_empties 33 = .ok (.invokevirtual 240, 3) := by decide +kernel
theorem dX9_empties_36 : decode cX9_empties 36 = .ok (.return_, 1) := by decide +kernel
theorem dX9_steps_0 : decode cX9_steps 0 = .ok (.iload_n 2, 1) := by decide +kernel
theorem dX9_steps_1 : decode cX9_steps 1 = .ok (.iconst 5, 1) := by decide +kernel
theorem dX9_steps_2 : decode cX9_steps 2 = .ok (.if_icmp .ne 11, 3) := by decide +kernel
theorem dX9_steps_5 : decode cX9_steps 5 = .ok (.aload_n 0, 1) := by decide +kernel
theorem dX9_steps_6 : decode cX9_steps 6 = .ok (.iload_n 1, 1) := by decide +kernel
theorem dX9_steps_7 : decode cX9_steps 7 = .ok (.invokevirtual 244, 3) := by decide +kernel
theorem dX9_steps_10 : decode cX9_steps 10 = .ok (.goto 76, 3) := by decide +kernel
theorem dX9_steps_13 : decode cX9_steps 13 = .ok (.iload_n 2, 1) := by decide +kernel
theorem dX9_steps_14 : decode cX9_steps 14 = .ok (.iconst 3, 1) := by decide +kernel
theorem dX9_steps_15 : decode cX9_steps 15 = .ok (.if_icmp .ne 13, 3) := by decide +kernel
theorem dX9_steps_18 : decode cX9_steps 18 = .ok (.aload_n 0, 1) := by decide +kernel
theorem dX9_steps_19 : decode cX9_steps 19 = .ok (.iload_n 1, 1) := by decide +kernel
theorem dX9_steps_20 : decode cX9_steps 20 = .ok (.iconst 0, 1) := by decide +kernel
theorem dX9_steps_21 : decode cX9_steps 21 = .ok (.iconst 3, 1) := by decide +kernel
theorem dX9_steps_22 : decode cX9_steps 22 = .ok (.invokevirtual 240, 3) := by decide +kernel
theorem dX9_steps_25 : decode cX9_steps 25 = .ok (.goto 61, 3) := by decide +kernel
theorem dX9_steps_28 : decode cX9_steps 28 = .ok (.aload_n 0, 1) := by decide +kernel
theorem dX9_steps_29 : decode cX9_steps 29 = .ok (.iload_n 1, 1) := by decide +kernel
theorem dX9_steps_30 : decode cX9_steps 30 = .ok (.iconst 2, 1) := by decide +kernel
theorem dX9_steps_31 : decode cX9_steps 31 = .ok (.iconst 0, 1) := by decide +kernel
theorem dX9_steps_32 : decode cX9_steps 32 = .ok (.invokevirtual 240, 3) := by decide +kernel
theorem dX9_steps_35 : decode cX9_steps 35 = .ok (.aload_n 0, 1) := by decide +kernel
theorem dX9_steps_36 : decode cX9_steps 36 = .ok (.iload_n 1, 1) := by decide +kernel
theorem dX9_steps_37 : decode cX9_steps 37 = .ok (.iconst 0, 1) := by decide +kernel
theorem dX9_steps_38 : decode cX9_steps 38 = .ok (.iload_n 2, 1) := by decide +kernel
theorem dX9_steps_39 : decode cX9_steps 39 = .ok (.iconst 2, 1) := by decide +kernel
theorem dX9_steps_40 : decode cX9_steps 40 = .ok (.if_icmp .ne 7, 3) := by decide +kernel
theorem dX9_steps_43 : decode cX9_steps 43 = .ok (.iconst 4, 1) := by decide +kernel
theorem dX9_steps_44 : decode cX9_steps 44 = .ok (.goto 18, 3) := by decide +kernel
theorem dX9_steps_47 : decode cX9_steps 47 = .ok (.iload_n 2, 1) := by decide +kernel
theorem dX9_steps_48 : decode cX9_steps 48 = .ok (.iconst 4, 1) := by decide +kernel
theorem dX9_steps_49 : decode cX9_steps 49 = .ok (.if_icmp .ne 7, 3) := by decide +kernel
theorem dX9_steps_52 : decode cX9_steps 52 = .ok (.iconst 5, 1) := by decide +kernel
theorem dX9_steps_53 : decode cX9_steps 53 = .ok (.goto 9, 3) := by decide +kernel
theorem dX9_steps_56 : decode cX9_steps 56 = .ok (.aload_n 0, 1) := by decide +kernel
theorem dX9_steps_57 : decode cX9_steps 57 = .ok (.iload_n 1, 1) := by decide +kernel
theorem dX9_steps_58 : decode cX9_steps 58 = .ok (.iconst 0, 1) := by decide +kernel
theorem dX9_steps_59 : decode cX9_steps 59 = .ok (.invokevirtual 203, 3) := by decide +kernel
theorem dX9_steps_62 : decode cX9_steps 62 = .ok (.invokevirtual 240, 3) := by decide +kernel
theorem dX9_steps_65 : decode cX9_steps 65 = .ok (.aload_n 0, 1) := by decide +kernel
theorem dX9_steps_66 : decode cX9_steps 66 = .ok (.iload_n 1, 1) := by decide +kernel
theorem dX9_steps_67 : decode cX9_steps 67 = .ok (.iconst 1, 1) := by decide +kernel
theorem dX9_steps_68 : decode cX9_steps 68 = .ok (.iload_n 2, 1) := by decide +kernel
theorem dX9_steps_69 : decode cX9_steps 69 = .ok (.iconst 4, 1) := by decide +kernel
theorem dX9_steps_70 : decode cX9_steps 70 = .ok (.if_icmp .ne 7, 3) := by decide +kernel
theorem dX9_steps_73 : decode cX9_steps 73 = .ok (.iconst 0, 1) := by decide +kernel
theorem dX9_steps_74 : decode cX9_steps 74 = .ok (.goto 9, 3) := by decide +kernel
theorem dX9_steps_77 : decode cX9_steps 77 = .ok (.aload_n 0, 1) := by decide +kernel
theorem dX9_steps_78 : decode cX9_steps 78 = .ok (.iload_n 1, 1) := by decide +kernel
theorem dX9_steps_79 : decode cX9_steps 79 = .ok (.iconst 1, 1) := by decide +kernel
theorem dX9_steps_80 : decode cX9_steps 80 = .ok (.invokevirtual 203, 3) := by decide +kernel
theorem dX9_steps_83 : decode cX9_steps 83 = .ok (.invokevirtual 240, 3) := by decide +kernel
theorem dX9_steps_86 : decode cX9_steps 86 = .ok (.aload_n 0, 1) := by decide +kernel
theorem dX9_steps_87 : decode cX9_steps 87 = .ok (.iload_n 2, 1) := by decide +kernel
theorem dX9_steps_88 : decode cX9_steps 88 = .ok (.iload_n 1, 1) := by decide +kernel
theorem dX9_steps_89 : decode cX9_steps 89 = .ok (.invokevirtual 247, 3) := by decide +kernel
theorem dX9_steps_92 : decode cX9_steps 92 = .ok (.return_, 1) := by decide +kernel
theorem dX9_memory_0 : decode cX9_memory 0 = .ok (.iconst 0, 1) := by decide +kernel
theorem dX9_memory_1 : decode cX9_memory 1 = .ok (.istore_n 1, 1) := by decide +kernel
theorem dX9_memory_2 : decode cX9_memory 2 = .ok (.aload_n 0, 1) := by decide +kernel
theorem dX9_memory_3 : decode cX9_memory 3 = .ok (.invokevirtual 251, 3) := by decide +kernel
theorem dX9_memory_6 : decode cX9_memory 6 = .ok (.aload_n 0, 1) := by decide +kernel
theorem dX9_memory_7 : decode cX9_memory 7 = .ok (.getfield 20, 3) := by decide +kernel
theorem dX9_memory_10 : decode cX9_memory 10 = .ok (.iconst 0, 1) := by decide +kernel
theorem dX9_memory_11 : decode cX9_memory 11 = .ok (.iaload, 1) := by decide +kernel
theorem dX9_memory_12 : decode cX9_memory 12 = .ok (.if_icmp .le 50, 3) := by decide +kernel
theorem dX9_memory_15 : decode cX9_memory 15 = .ok (.iconst 1, 1) := by decide +kernel
theorem dX9_memory_16 : decode cX9_memory 16 = .ok (.istore_n 2, 1) := by decide +kernel
theorem dX9_memory_17 : decode cX9_memory 17 = .ok (.iload_n 2, 1) := by decide +kernel
theorem dX9_memory_18 : decode cX9_memory 18 = .ok (.bipush 6, 2) := by decide +kernel
theorem dX9_memory_20 : decode cX9_memory 20 = .ok (.if_icmp .gt 18, 3) := by decide +kernel
theorem dX9_memory_23 : decode cX9_memory 23 = .ok (.aload_n 0, 1) := by decide +kernel
theorem dX9_memory_24 : decode cX9_memory 24 = .ok (.iload_n 2, 1) := by decide +kernel
theorem dX9_memory_25 : decode cX9_memory 25 = .ok (.invokevirtual 254, 3) := by decide +kernel
theorem dX9_memory_28 : decode cX9_memory 28 = .ok (.iconst (-1), 1) := by decide +kernel
theorem dX9_memory_29 : decode cX9_memory 29 = .ok (.if_icmp .ne 9, 3) := by decide +kernel
theorem dX9_memory_32 : decode cX9_memory 32 = .ok (.iinc 2 1, 3) := by decide +kernel
theorem dX9_memory_35 : decode cX9_memory 35 = .ok (.goto (-18), 3) := by decide +kernel
theorem dX9_memory_38 : decode cX9_memory 38 = .ok (.iload_n 2, 1) := by decide +kernel
theorem dX9_memory_39 : decode cX9_memory 39 = .ok (.bipush 6, 2) := by decide +kernel
theorem dX9_memory_41 : decode cX9_memory 41 = .ok (.if_icmp .le 5, 3) := by decide +kernel
theorem dX9_memory_44 : decode cX9_memory 44 = .ok (.iconst (-1), 1) := by decide +kernel
theorem dX9_memory_45 : decode cX9_memory 45 = .ok (.ireturn, 1) := by decide +kernel
theorem dX9_memory_46 : decode cX9_memory 46 = .ok (.aload_n 0, 1) := by decide +kernel
theorem dX9_memory_47 : decode cX9_memory 47 = .ok (.aload_n 0, 1) := by decide +kernel
theorem dX9_memory_48 : decode cX9_memory 48 = .ok (.iload_n 2, 1) := by decide +kernel
theorem dX9_memory_49 : decode cX9_memory 49 = .ok (.invokevirtual 254, 3) := by decide +kernel
theorem dX9_memory_52 : decode cX9_memory 52 = .ok (.iload_n 2, 1) := by decide +kernel
theorem dX9_memory_53 : decode cX9_memory 53 = .ok (.invokevirtual 257, 3) := by decide +kernel
theorem dX9_memory_56 : decode cX9_memory 56 = .ok (.iinc 1 1, 3) := by decide +kernel
theorem dX9_memory_59 : decode cX9_memory 59 = .ok (.goto (-57), 3) := by decide +kernel
theorem dX9_memory_62 : decode cX9_memory 62 = .ok (.iload_n 1, 1) := by decide +kernel
theorem dX9_memory_63 : decode cX9_memory 63 = .ok (.ireturn, 1) := by decide +kernel
theorem dX9_waitFor_0 : decode cX9_waitFor 0 = .ok (.aload_n 0, 1) := by decide +kernel
theorem dX9_waitFor_1 : decode cX9_waitFor 1 = .ok (.iload_n 1, 1) := by decide +kernel
theorem dX9_waitFor_2 : decode cX9_waitFor 2 = .ok (.iconst 0, 1) := by decide +kernel
theorem dX9_waitFor_3 : decode cX9_waitFor 3 = .ok (.invokevirtual 203, 3) := by decide +kernel
theorem dX9_waitFor_6 : decode cX9_waitFor 6 = .ok (.tableswitch 89 0 5 #[38, 52, 89, 89, 54, 75], 38) := by decide +kernel
theorem dX9_waitFor_44 : decode cX9_waitFor 44 = .ok (.aload_n 0, 1) := by decide +kernel
theorem dX9_waitFor_45 : decode cX9_waitFor 45 = .ok (.getfield 17, 3) := by decide +kernel
theorem dX9_waitFor_48 : decode cX9_waitFor 48 = .ok (.iconst 0, 1) := by decide +kernel
theorem dX9_waitFor_49 : decode cX9_waitFor 49 = .ok (.iaload, 1) := by decide +kernel
theorem dX9_waitFor_50 : decode cX9_waitFor 50 = .ok (.aload_n 0, 1) := by decide +kernel
theorem dX9_waitFor_51 : decode cX9_waitFor 51 = .ok (.iload_n 1, 1) := by decide +kernel
theorem dX9_waitFor_52 : decode cX9_waitFor 52 = .ok (.iconst 0, 1) := by decide +kernel
theorem dX9_waitFor_53 : decode cX9_waitFor 53 = .ok (.invokevirtual 207, 3) := by decide +kernel
theorem dX9_waitFor_56 : decode cX9_waitFor 56 = .ok (.imul, 1) := by decide +kernel
theorem dX9_waitFor_57 : decode cX9_waitFor 57 = .ok (.ireturn, 1) := by decide +kernel
theorem dX9_waitFor_58 : decode cX9_waitFor 58 = .ok (.iconst 0, 1) := by decide +kernel
theorem dX9_waitFor_59 : decode cX9_waitFor 59 = .ok (.ireturn, 1) := by decide +kernel
theorem dX9_waitFor_60 : decode cX9_waitFor 60 = .ok (.aload_n 0, 1) := by decide +kernel
theorem dX9_waitFor_61 : decode cX9_waitFor 61 = .ok (.getfield 17, 3) := by decide +kernel
theorem dX9_waitFor_64 : decode cX9_waitFor 64 = .ok (.iconst 3, 1) := by decide +kernel
theorem dX9_waitFor_65 : decode cX9_waitFor 65 = .ok (.iaload, 1) := by decide +kernel
theorem dX9_waitFor_66 : decode cX9_waitFor 66 = .ok (.aload_n 0, 1) := by decide +kernel
theorem dX9_waitFor_67 : decode cX9_waitFor 67 = .ok (.getfield 17, 3) := by decide +kernel
theorem dX9_waitFor_70 : decode cX9_waitFor 70 = .ok (.iconst 1, 1) := by decide +kernel
theorem dX9_waitFor_71 : decode cX9_waitFor 71 = .ok (.iaload, 1) := by decide +kernel
theorem dX9_waitFor_72 : decode cX9_waitFor 72 = .ok (.aload_n 0, 1) := by decide +kernel
theorem dX9_waitFor_73 : decode cX9_waitFor 73 = .ok (.iload_n 1, 1) := by decide +kernel
theorem dX9_waitFor_74 : decode cX9_waitFor 74 = .ok (.iconst 1, 1) := by decide +kernel
theorem dX9_waitFor_75 : decode cX9_waitFor 75 = .ok (.invokevirtual 203, 3) := by decide +kernel
theorem dX9_waitFor_78 : decode cX9_waitFor 78 = .ok (.imul, 1) := by decide +kernel
theorem dX9_waitFor_79 : decode cX9_waitFor 79 = .ok (.iadd, 1) := by decide +kernel
theorem dX9_waitFor_80 : decode cX9_waitFor 80 = .ok (.ireturn, 1) := by decide +kernel
theorem dX9_waitFor_81 : decode cX9_waitFor 81 = .ok (.aload_n 0, 1) := by decide +kernel
theorem dX9_waitFor_82 : decode cX9_waitFor 82 = .ok (.getfield 17, 3) := by decide +kernel
theorem dX9_waitFor_85 : decode cX9_waitFor 85 = .ok (.iconst 2, 1) := by decide +kernel
theorem dX9_waitFor_86 : decode cX9_waitFor 86 = .ok (.iaload, 1) := by decide +kernel
theorem dX9_waitFor_87 : decode cX9_waitFor 87 = .ok (.aload_n 0, 1) := by decide +kernel
theorem dX9_waitFor_88 : decode cX9_waitFor 88 = .ok (.iload_n 1, 1) := by decide +kernel
theorem dX9_waitFor_89 : decode cX9_waitFor 89 = .ok (.iconst 0, 1) := by decide +kernel
theorem dX9_waitFor_90 : decode cX9_waitFor 90 = .ok (.invokevirtual 207, 3) := by decide +kernel
theorem dX9_waitFor_93 : decode cX9_waitFor 93 = .ok (.imul, 1) := by decide +kernel
theorem dX9_waitFor_94 : decode cX9_waitFor 94 = .ok (.ireturn, 1) := by decide +kernel
theorem dX9_waitFor_95 : decode cX9_waitFor 95 = .ok (.aload_n 0, 1) := by decide +kernel
theorem dX9_waitFor_96 : decode cX9_waitFor 96 = .ok (.getfield 17, 3) := by decide +kernel
theorem dX9_waitFor_99 : decode cX9_waitFor 99 = .ok (.iconst 3, 1) := by decide +kernel
theorem dX9_waitFor_100 : decode cX9_waitFor 100 = .ok (.iaload, 1) := by decide +kernel
theorem dX9_waitFor_101 : decode cX9_waitFor 101 = .ok (.ireturn, 1) := by decide +kernel
theorem dX9_rests_0 : decode cX9_rests 0 = .ok (.aload_n 0, 1) := by decide +kernel
theorem dX9_rests_1 : decode cX9_rests 1 = .ok (.iload_n 1, 1) := by decide +kernel
theorem dX9_rests_2 : decode cX9_rests 2 = .ok (.iconst 0, 1) := by decide +kernel
theorem dX9_rests_3 : decode cX9_rests 3 = .ok (.iconst 2, 1) := by decide +kernel
theorem dX9_rests_4 : decode cX9_rests 4 = .ok (.invokevirtual 240, 3) := by decide +kernel
theorem dX9_rests_7 : decode cX9_rests 7 = .ok (.aload_n 0, 1) := by decide +kernel
theorem dX9_rests_8 : decode cX9_rests 8 = .ok (.iload_n 1, 1) := by decide +kernel
theorem dX9_rests_9 : decode cX9_rests 9 = .ok (.bipush 7, 2) := by decide +kernel
theorem dX9_rests_11 : decode cX9_rests 11 = .ok (.aload_n 0, 1) := by decide +kernel
theorem dX9_rests_12 : decode cX9_rests 12 = .ok (.getfield 20, 3) := by decide +kernel
theorem dX9_rests_15 : decode cX9_rests 15 = .ok (.iconst 1, 1) := by decide +kernel
theorem dX9_rests_16 : decode cX9_rests 16 = .ok (.iaload, 1) := by decide +kernel
theorem dX9_rests_17 : decode cX9_rests 17 = .ok (.invokevirtual 240, 3) := by decide +kernel
theorem dX9_rests_20 : decode cX9_rests 20 = .ok (.aload_n 0, 1) := by decide +kernel
theorem dX9_rests_21 : decode cX9_rests 21 = .ok (.iload_n 1, 1) := by decide +kernel
theorem dX9_rests_22 : decode cX9_rests 22 = .ok (.bipush 8, 2) := by decide +kernel
theorem dX9_rests_24 : decode cX9_rests 24 = .ok (.aload_n 0, 1) := by decide +kernel
theorem dX9_rests_25 : decode cX9_rests 25 = .ok (.getfield 20, 3) := by decide +kernel
theorem dX9_rests_28 : decode cX9_rests 28 = .ok (.iconst 1, 1) := by decide +kernel
theorem dX9_rests_29 : decode cX9_rests 29 = .ok (.iaload, 1) := by decide +kernel
theorem dX9_rests_30 : decode cX9_rests 30 = .ok (.invokevirtual 240, 3) := by decide +kernel
theorem dX9_rests_33 : decode cX9_rests 33 = .ok (.return_, 1) := by decide +kernel
theorem dX9_laysShown_0 : decode cX9_laysShown 0 = .ok (.aload_n 0, 1) := by decide +kernel
theorem dX9_laysShown_1 : decode cX9_laysShown 1 = .ok (.getfield 20, 3) := by decide +kernel
theorem dX9_laysShown_4 : decode cX9_laysShown 4 = .ok (.iconst 2, 1) := by decide +kernel
theorem dX9_laysShown_5 : decode cX9_laysShown 5 = .ok (.iaload, 1) := by decide +kernel
theorem dX9_laysShown_6 : decode cX9_laysShown 6 = .ok (.iconst (-1), 1) := by decide +kernel
theorem dX9_laysShown_7 : decode cX9_laysShown 7 = .ok (.if_icmp .eq 13, 3) := by decide +kernel
theorem dX9_laysShown_10 : decode cX9_laysShown 10 = .ok (.aload_n 0, 1) := by decide +kernel
theorem dX9_laysShown_11 : decode cX9_laysShown 11 = .ok (.aload_n 0, 1) := by decide +kernel
theorem dX9_laysShown_12 : decode cX9_laysShown 12 = .ok (.getfield 20, 3) := by decide +kernel
theorem dX9_laysShown_15 : decode cX9_laysShown 15 = .ok (.iconst 2, 1) := by decide +kernel
theorem dX9_laysShown_16 : decode cX9_laysShown 16 = .ok (.iaload, 1) := by decide +kernel
theorem dX9_laysShown_17 : decode cX9_laysShown 17 = .ok (.invokevirtual 260, 3) := by decide +kernel
theorem dX9_laysShown_20 : decode cX9_laysShown 20 = .ok (.aload_n 0, 1) := by decide +kernel
theorem dX9_laysShown_21 : decode cX9_laysShown 21 = .ok (.iload_n 1, 1) := by decide +kernel
theorem dX9_laysShown_22 : decode cX9_laysShown 22 = .ok (.iconst 0, 1) := by decide +kernel
theorem dX9_laysShown_23 : decode cX9_laysShown 23 = .ok (.invokevirtual 203, 3) := by decide +kernel
theorem dX9_laysShown_26 : decode cX9_laysShown 26 = .ok (.istore_n 2, 1) := by decide +kernel
theorem dX9_laysShown_27 : decode cX9_laysShown 27 = .ok (.iload_n 2, 1) := by decide +kernel
theorem dX9_laysShown_28 : decode cX9_laysShown 28 = .ok (.ifCond .eq 8, 3) := by decide +kernel
theorem dX9_laysShown_31 : decode cX9_laysShown 31 = .ok (.iload_n 2, 1) := by decide +kernel
theorem dX9_laysShown_32 : decode cX9_laysShown 32 = .ok (.iconst 5, 1) := by decide +kernel
theorem dX9_laysShown_33 : decode cX9_laysShown 33 = .ok (.if_icmp .ne 47, 3) := by decide +kernel
theorem dX9_laysShown_36 : decode cX9_laysShown 36 = .ok (.aload_n 0, 1) := by decide +kernel
theorem dX9_laysShown_37 : decode cX9_laysShown 37 = .ok (.iload_n 1, 1) := by decide +kernel
theorem dX9_laysShown_38 : decode cX9_laysShown 38 = .ok (.iconst 1, 1) := by decide +kernel
theorem dX9_laysShown_39 : decode cX9_laysShown 39 = .ok (.aload_n 0, 1) := by decide +kernel
theorem dX9_laysShown_40 : decode cX9_laysShown 40 = .ok (.iload_n 1, 1) := by decide +kernel
theorem dX9_laysShown_41 : decode cX9_laysShown 41 = .ok (.iconst 0, 1) := by decide +kernel
theorem dX9_laysShown_42 : decode cX9_laysShown 42 = .ok (.invokevirtual 207, 3) := by decide +kernel
theorem dX9_laysShown_45 : decode cX9_laysShown 45 = .ok (.invokevirtual 240, 3) := by decide +kernel
theorem dX9_laysShown_48 : decode cX9_laysShown 48 = .ok (.aload_n 0, 1) := by decide +kernel
theorem dX9_laysShown_49 : decode cX9_laysShown 49 = .ok (.iload_n 1, 1) := by decide +kernel
theorem dX9_laysShown_50 : decode cX9_laysShown 50 = .ok (.iconst 2, 1) := by decide +kernel
theorem dX9_laysShown_51 : decode cX9_laysShown 51 = .ok (.aload_n 0, 1) := by decide +kernel
theorem dX9_laysShown_52 : decode cX9_laysShown 52 = .ok (.iload_n 1, 1) := by decide +kernel
theorem dX9_laysShown_53 : decode cX9_laysShown 53 = .ok (.iconst 1, 1) := by decide +kernel
theorem dX9_laysShown_54 : decode cX9_laysShown 54 = .ok (.invokevirtual 207, 3) := by decide +kernel
theorem dX9_laysShown_57 : decode cX9_laysShown 57 = .ok (.invokevirtual 240, 3) := by decide +kernel
theorem dX9_laysShown_60 : decode cX9_laysShown 60 = .ok (.aload_n 0, 1) := by decide +kernel
theorem dX9_laysShown_61 : decode cX9_laysShown 61 = .ok (.iload_n 1, 1) := by decide +kernel
theorem dX9_laysShown_62 : decode cX9_laysShown 62 = .ok (.iconst 3, 1) := by decide +kernel
theorem dX9_laysShown_63 : decode cX9_laysShown 63 = .ok (.iload_n 2, 1) := by decide +kernel
theorem dX9_laysShown_64 : decode cX9_laysShown 64 = .ok (.ifCond .ne 7, 3) := by decide +kernel
theorem dX9_laysShown_67 : decode cX9_laysShown 67 = .ok (.iconst 0, 1) := by decide +kernel
theorem dX9_laysShown_68 : decode cX9_laysShown 68 = .ok (.goto 9, 3) := by decide +kernel
theorem dX9_laysShown_71 : decode cX9_laysShown 71 = .ok (.aload_n 0, 1) := by decide +kernel
theorem dX9_laysShown_72 : decode cX9_laysShown 72 = .ok (.iload_n 1, 1) := by decide +kernel
theorem dX9_laysShown_73 : decode cX9_laysShown 73 = .ok (.iconst 3, 1) := by decide +kernel
theorem dX9_laysShown_74 : decode cX9_laysShown 74 = .ok (.invokevirtual 203, 3) := by decide +kernel
theorem dX9_laysShown_77 : decode cX9_laysShown 77 = .ok (.invokevirtual 240, 3) := by decide +kernel
theorem dX9_laysShown_80 : decode cX9_laysShown 80 = .ok (.aload_n 0, 1) := by decide +kernel
theorem dX9_laysShown_81 : decode cX9_laysShown 81 = .ok (.iload_n 1, 1) := by decide +kernel
theorem dX9_laysShown_82 : decode cX9_laysShown 82 = .ok (.iconst 0, 1) := by decide +kernel
theorem dX9_laysShown_83 : decode cX9_laysShown 83 = .ok (.iconst 1, 1) := by decide +kernel
theorem dX9_laysShown_84 : decode cX9_laysShown 84 = .ok (.invokevirtual 240, 3) := by decide +kernel
theorem dX9_laysShown_87 : decode cX9_laysShown 87 = .ok (.aload_n 0, 1) := by decide +kernel
theorem dX9_laysShown_88 : decode cX9_laysShown 88 = .ok (.getfield 20, 3) := by decide +kernel
theorem dX9_laysShown_91 : decode cX9_laysShown 91 = .ok (.iconst 2, 1) := by decide +kernel
theorem dX9_laysShown_92 : decode cX9_laysShown 92 = .ok (.iload_n 1, 1) := by decide +kernel
theorem dX9_laysShown_93 : decode cX9_laysShown 93 = .ok (.iastore, 1) := by decide +kernel
theorem dX9_laysShown_94 : decode cX9_laysShown 94 = .ok (.aload_n 0, 1) := by decide +kernel
theorem dX9_laysShown_95 : decode cX9_laysShown 95 = .ok (.getfield 20, 3) := by decide +kernel
theorem dX9_laysShown_98 : decode cX9_laysShown 98 = .ok (.iconst 3, 1) := by decide +kernel
theorem dX9_laysShown_99 : decode cX9_laysShown 99 = .ok (.iload_n 1, 1) := by decide +kernel
theorem dX9_laysShown_100 : decode cX9_laysShown 100 = .ok (.iastore, 1) := by decide +kernel
theorem dX9_laysShown_101 : decode cX9_laysShown 101 = .ok (.return_, 1) := by decide +kernel
theorem dX9_countsHabits_0 : decode cX9_countsHabits 0 = .ok (.aload_n 0, 1) := by decide +kernel
theorem dX9_countsHabits_1 : decode cX9_countsHabits 1 = .ok (.iload_n 1, 1) := by decide +kernel
theorem dX9_countsHabits_2 : decode cX9_countsHabits 2 = .ok (.bipush 9, 2) := by decide +kernel
theorem dX9_countsHabits_4 : decode cX9_countsHabits 4 = .ok (.invokevirtual 203, 3) := by decide +kernel
theorem dX9_countsHabits_7 : decode cX9_countsHabits 7 = .ok (.iconst 1, 1) := by decide +kernel
theorem dX9_countsHabits_8 : decode cX9_countsHabits 8 = .ok (.if_icmp .ne 100, 3) := by decide +kernel
theorem dX9_countsHabits_11 : decode cX9_countsHabits 11 = .ok (.aload_n 0, 1) := by decide +kernel
theorem dX9_countsHabits_12 : decode cX9_countsHabits 12 = .ok (.iload_n 1, 1) := by decide +kernel
theorem dX9_countsHabits_13 : decode cX9_countsHabits 13 = .ok (.bipush 10, 2) := by decide +kernel
theorem dX9_countsHabits_15 : decode cX9_countsHabits 15 = .ok (.invokevirtual 203, 3) := by decide +kernel
theorem dX9_countsHabits_18 : decode cX9_countsHabits 18 = .ok (.iconst 4, 1) := by decide +kernel
theorem dX9_countsHabits_19 : decode cX9_countsHabits 19 = .ok (.if_icmp .ne 44, 3) := by decide +kernel
theorem dX9_countsHabits_22 : decode cX9_countsHabits 22 = .ok (.iconst 1, 1) := by decide +kernel
theorem dX9_countsHabits_23 : decode cX9_countsHabits 23 = .ok (.istore_n 3, 1) := by decide +kernel
theorem dX9_countsHabits_24 : decode cX9_countsHabits 24 = .ok (.iload_n 3, 1) := by decide +kernel
theorem dX9_countsHabits_25 : decode cX9_countsHabits 25 = .ok (.iconst 4, 1) := by decide +kernel
theorem dX9_countsHabits_26 : decode cX9_countsHabits 26 = .ok (.if_icmp .ge 29, 3) := by decide +kernel
theorem dX9_countsHabits_29 : decode cX9_countsHabits 29 = .ok (.aload_n 0, 1) := by decide +kernel
theorem dX9_countsHabits_30 : decode cX9_countsHabits 30 = .ok (.iload_n 1, 1) := by decide +kernel
theorem dX9_countsHabits_31 : decode cX9_countsHabits 31 = .ok (.bipush 11, 2) := by decide +kernel
theorem dX9_countsHabits_33 : decode cX9_countsHabits 33 = .ok (.iload_n 3, 1) := by decide +kernel
theorem dX9_countsHabits_34 : decode cX9_countsHabits 34 = .ok (.iadd, 1) := by decide +kernel
theorem dX9_countsHabits_35 : decode cX9_countsHabits 35 = .ok (.iconst 1, 1) := by decide +kernel
theorem dX9_countsHabits_36 : decode cX9_countsHabits 36 = .ok (.isub, 1) := by decide +kernel
theorem dX9_countsHabits_37 : decode cX9_countsHabits 37 = .ok (.aload_n 0, 1) := by decide +kernel
theorem dX9_countsHabits_38 : decode cX9_countsHabits 38 = .ok (.iload_n 1, 1) := by decide +kernel
theorem dX9_countsHabits_39 : decode cX9_countsHabits 39 = .ok (.bipush 11, 2) := by decide +kernel
theorem dX9_countsHabits_41 : decode cX9_countsHabits 41 = .ok (.iload_n 3, 1) := by decide +kernel
theorem dX9_countsHabits_42 : decode cX9_countsHabits 42 = .ok (.iadd, 1) := by decide +kernel
theorem dX9_countsHabits_43 : decode cX9_countsHabits 43 = .ok (.invokevirtual 203, 3) := by decide +kernel
theorem dX9_countsHabits_46 : decode cX9_countsHabits 46 = .ok (.invokevirtual 240, 3) := by decide +kernel
theorem dX9_countsHabits_49 : decode cX9_countsHabits 49 = .ok (.iinc 3 1, 3) := by decide +kernel
theorem dX9_countsHabits_52 : decode cX9_countsHabits 52 = .ok (.goto (-28), 3) := by decide +kernel
theorem dX9_countsHabits_55 : decode cX9_countsHabits 55 = .ok (.aload_n 0, 1) := by decide +kernel
theorem dX9_countsHabits_56 : decode cX9_countsHabits 56 = .ok (.iload_n 1, 1) := by decide +kernel
theorem dX9_countsHabits_57 : decode cX9_countsHabits 57 = .ok (.bipush 10, 2) := by decide +kernel
theorem dX9_countsHabits_59 : decode cX9_countsHabits 59 = .ok (.iconst 3, 1) := by decide +kernel
theorem dX9_countsHabits_60 : decode cX9_countsHabits 60 = .ok (.invokevirtual 240, 3) := by decide +kernel
theorem dX9_countsHabits_63 : decode cX9_countsHabits 63 = .ok (.aload_n 0, 1) := by decide +kernel
theorem dX9_countsHabits_64 : decode cX9_countsHabits 64 = .ok (.iload_n 1, 1) := by decide +kernel
theorem dX9_countsHabits_65 : decode cX9_countsHabits 65 = .ok (.bipush 11, 2) := by decide +kernel
theorem dX9_countsHabits_67 : decode cX9_countsHabits 67 = .ok (.aload_n 0, 1) := by decide +kernel
theorem dX9_countsHabits_68 : decode cX9_countsHabits 68 = .ok (.iload_n 1, 1) := by decide +kernel
theorem dX9_countsHabits_69 : decode cX9_countsHabits 69 = .ok (.bipush 10, 2) := by decide +kernel
theorem dX9_countsHabits_71 : decode cX9_countsHabits 71 = .ok (.invokevirtual 203, 3) := by decide +kernel
theorem dX9_countsHabits_74 : decode cX9_countsHabits 74 = .ok (.iadd, 1) := by decide +kernel
theorem dX9_countsHabits_75 : decode cX9_countsHabits 75 = .ok (.aload_n 0, 1) := by decide +kernel
theorem dX9_countsHabits_76 : decode cX9_countsHabits 76 = .ok (.getfield 20, 3) := by decide +kernel
theorem dX9_countsHabits_79 : decode cX9_countsHabits 79 = .ok (.iconst 1, 1) := by decide +kernel
theorem dX9_countsHabits_80 : decode cX9_countsHabits 80 = .ok (.iaload, 1) := by decide +kernel
theorem dX9_countsHabits_81 : decode cX9_countsHabits 81 = .ok (.aload_n 0, 1) := by decide +kernel
theorem dX9_countsHabits_82 : decode cX9_countsHabits 82 = .ok (.iload_n 1, 1) := by decide +kernel
theorem dX9_countsHabits_83 : decode cX9_countsHabits 83 = .ok (.bipush 8, 2) := by decide +kernel
theorem dX9_countsHabits_85 : decode cX9_countsHabits 85 = .ok (.invokevirtual 203, 3) := by decide +kernel
theorem dX9_countsHabits_88 : decode cX9_countsHabits 88 = .ok (.isub, 1) := by decide +kernel
theorem dX9_countsHabits_89 : decode cX9_countsHabits 89 = .ok (.invokevirtual 240, 3) := by decide +kernel
theorem dX9_countsHabits_92 : decode cX9_countsHabits 92 = .ok (.aload_n 0, 1) := by decide +kernel
theorem dX9_countsHabits_93 : decode cX9_countsHabits 93 = .ok (.iload_n 1, 1) := by decide +kernel
theorem dX9_countsHabits_94 : decode cX9_countsHabits 94 = .ok (.bipush 10, 2) := by decide +kernel
theorem dX9_countsHabits_96 : decode cX9_countsHabits 96 = .ok (.aload_n 0, 1) := by decide +kernel
theorem dX9_countsHabits_97 : decode cX9_countsHabits 97 = .ok (.iload_n 1, 1) := by decide +kernel
theorem dX9_countsHabits_98 : decode cX9_countsHabits 98 = .ok (.bipush 10, 2) := by decide +kernel
theorem dX9_countsHabits_100 : decode cX9_countsHabits 100 = .ok (.invokevirtual 203, 3) := by decide +kernel
theorem dX9_countsHabits_103 : decode cX9_countsHabits 103 = .ok (.iconst 1, 1) := by decide +kernel
theorem dX9_countsHabits_104 : decode cX9_countsHabits 104 = .ok (.iadd, 1) := by decide +kernel
theorem dX9_countsHabits_105 : decode cX9_countsHabits 105 = .ok (.invokevirtual 240, 3) := by decide +kernel
theorem dX9_countsHabits_108 : decode cX9_countsHabits 108 = .ok (.aload_n 0, 1) := by decide +kernel
theorem dX9_countsHabits_109 : decode cX9_countsHabits 109 = .ok (.iload_n 1, 1) := by decide +kernel
theorem dX9_countsHabits_110 : decode cX9_countsHabits 110 = .ok (.bipush 9, 2) := by decide +kernel
theorem dX9_countsHabits_112 : decode cX9_countsHabits 112 = .ok (.iconst 1, 1) := by decide +kernel
theorem dX9_countsHabits_113 : decode cX9_countsHabits 113 = .ok (.invokevirtual 240, 3) := by decide +kernel
theorem dX9_countsHabits_116 : decode cX9_countsHabits 116 = .ok (.iload_n 2, 1) := by decide +kernel
theorem dX9_countsHabits_117 : decode cX9_countsHabits 117 = .ok (.iconst (-1), 1) := by decide +kernel
theorem dX9_countsHabits_118 : decode cX9_countsHabits 118 = .ok (.if_icmp .eq 27, 3) := by decide +kernel
theorem dX9_countsHabits_121 : decode cX9_countsHabits 121 = .ok (.iload_n 2, 1) := by decide +kernel
theorem dX9_countsHabits_122 : decode cX9_countsHabits 122 = .ok (.iload_n 1, 1) := by decide +kernel
theorem dX9_countsHabits_123 : decode cX9_countsHabits 123 = .ok (.if_icmp .eq 22, 3) := by decide +kernel
theorem dX9_countsHabits_126 : decode cX9_countsHabits 126 = .ok (.aload_n 0, 1) := by decide +kernel
theorem dX9_countsHabits_127 : decode cX9_countsHabits 127 = .ok (.getfield 20, 3) := by decide +kernel
theorem dX9_countsHabits_130 : decode cX9_countsHabits 130 = .ok (.sipush 206, 3) := by decide +kernel
theorem dX9_countsHabits_133 : decode cX9_countsHabits 133 = .ok (.bipush 10, 2) := by decide +kernel
theorem dX9_countsHabits_135 : decode cX9_countsHabits 135 = .ok (.iload_n 2, 1) := by decide +kernel
theorem dX9_countsHabits_136 : decode cX9_countsHabits 136 = .ok (.imul, 1) := by decide +kernel
theorem dX9_countsHabits_137 : decode cX9_countsHabits 137 = .ok (.iadd, 1) := by decide +kernel
theorem dX9_countsHabits_138 : decode cX9_countsHabits 138 = .ok (.iload_n 1, 1) := by decide +kernel
theorem dX9_countsHabits_139 : decode cX9_countsHabits 139 = .ok (.iadd, 1) := by decide +kernel
theorem dX9_countsHabits_140 : decode cX9_countsHabits 140 = .ok (.dup2, 1) := by decide +kernel
theorem dX9_countsHabits_141 : decode cX9_countsHabits 141 = .ok (.iaload, 1) := by decide +kernel
theorem dX9_countsHabits_142 : decode cX9_countsHabits 142 = .ok (.iconst 1, 1) := by decide +kernel
theorem dX9_countsHabits_143 : decode cX9_countsHabits 143 = .ok (.iadd, 1) := by decide +kernel
theorem dX9_countsHabits_144 : decode cX9_countsHabits 144 = .ok (.iastore, 1) := by decide +kernel
theorem dX9_countsHabits_145 : decode cX9_countsHabits 145 = .ok (.return_, 1) := by decide +kernel
theorem dX9_puts_0 : decode cX9_puts 0 = .ok (.iconst 0, 1) := by decide +kernel
theorem dX9_puts_1 : decode cX9_puts 1 = .ok (.istore_n 2, 1) := by decide +kernel
theorem dX9_puts_2 : decode cX9_puts 2 = .ok (.iload_n 2, 1) := by decide +kernel
theorem dX9_puts_3 : decode cX9_puts 3 = .ok (.sipush 438, 3) := by decide +kernel
theorem dX9_puts_6 : decode cX9_puts 6 = .ok (.if_icmp .ge 15, 3) := by decide +kernel
theorem dX9_puts_9 : decode cX9_puts 9 = .ok (.aload_n 1, 1) := by decide +kernel
theorem dX9_puts_10 : decode cX9_puts 10 = .ok (.iload_n 2, 1) := by decide +kernel
theorem dX9_puts_11 : decode cX9_puts 11 = .ok (.aload_n 0, 1) := by decide +kernel
theorem dX9_puts_12 : decode cX9_puts 12 = .ok (.iload_n 2, 1) := by decide +kernel
theorem dX9_puts_13 : decode cX9_puts 13 = .ok (.iaload, 1) := by decide +kernel
theorem dX9_puts_14 : decode cX9_puts 14 = .ok (.iastore, 1) := by decide +kernel
theorem dX9_puts_15 : decode cX9_puts 15 = .ok (.iinc 2 1, 3) := by decide +kernel
theorem dX9_puts_18 : decode cX9_puts 18 = .ok (.goto (-16), 3) := by decide +kernel
theorem dX9_puts_21 : decode cX9_puts 21 = .ok (.return_, 1) := by decide +kernel
theorem dX9_shows_0 : decode cX9_shows 0 = .ok (.aload_n 0, 1) := by decide +kernel
theorem dX9_shows_1 : decode cX9_shows 1 = .ok (.iconst 0, 1) := by decide +kernel
theorem dX9_shows_2 : decode cX9_shows 2 = .ok (.putfield 263, 3) := by decide +kernel
theorem dX9_shows_5 : decode cX9_shows 5 = .ok (.aload_n 0, 1) := by decide +kernel
theorem dX9_shows_6 : decode cX9_shows 6 = .ok (.iload_n 1, 1) := by decide +kernel
theorem dX9_shows_7 : decode cX9_shows 7 = .ok (.iconst 0, 1) := by decide +kernel
theorem dX9_shows_8 : decode cX9_shows 8 = .ok (.invokevirtual 203, 3) := by decide +kernel
theorem dX9_shows_11 : decode cX9_shows 11 = .ok (.iconst 1, 1) := by decide +kernel
theorem dX9_shows_12 : decode cX9_shows 12 = .ok (.if_icmp .ne 5, 3) := by decide +kernel
theorem dX9_shows_15 : decode cX9_shows 15 = .ok (.iconst 0, 1) := by decide +kernel
theorem dX9_shows_16 : decode cX9_shows 16 = .ok (.ireturn, 1) := by decide +kernel
theorem dX9_shows_17 : decode cX9_shows 17 = .ok (.aload_n 0, 1) := by decide +kernel
theorem dX9_shows_18 : decode cX9_shows 18 = .ok (.iload_n 1, 1) := by decide +kernel
theorem dX9_shows_19 : decode cX9_shows 19 = .ok (.invokevirtual 266, 3) := by decide +kernel
theorem dX9_shows_22 : decode cX9_shows 22 = .ok (.istore_n 2, 1) := by decide +kernel
theorem dX9_shows_23 : decode cX9_shows 23 = .ok (.aload_n 0, 1) := by decide +kernel
theorem dX9_shows_24 : decode cX9_shows 24 = .ok (.getfield 20, 3) := by decide +kernel
theorem dX9_shows_27 : decode cX9_shows 27 = .ok (.iconst 3, 1) := by decide +kernel
theorem dX9_shows_28 : decode cX9_shows 28 = .ok (.iaload, 1) := by decide +kernel
theorem dX9_shows_29 : decode cX9_shows 29 = .ok (.istore_n 3, 1) := by decide +kernel
theorem dX9_shows_30 : decode cX9_shows 30 = .ok (.aload_n 0, 1) := by decide +kernel
theorem dX9_shows_31 : decode cX9_shows 31 = .ok (.getfield 20, 3) := by decide +kernel
theorem dX9_shows_34 : decode cX9_shows 34 = .ok (.aload_n 0, 1) := by decide +kernel
theorem dX9_shows_35 : decode cX9_shows 35 = .ok (.getfield 40, 3) := by decide +kernel
theorem dX9_shows_38 : decode cX9_shows 38 = .ok (.invokestatic 269, 3) := by decide +kernel
theorem dX9_shows_41 : decode cX9_shows 41 = .ok (.aload_n 0, 1) := by decide +kernel
theorem dX9_shows_42 : decode cX9_shows 42 = .ok (.iload_n 1, 1) := by decide +kernel
theorem dX9_shows_43 : decode cX9_shows 43 = .ok (.invokevirtual 273, 3) := by decide +kernel
theorem dX9_shows_46 : decode cX9_shows 46 = .ok (.aload_n 0, 1) := by decide +kernel
theorem dX9_shows_47 : decode cX9_shows 47 = .ok (.aload_n 0, 1) := by decide +kernel
theorem dX9_shows_48 : decode cX9_shows 48 = .ok (.invokevirtual 276, 3) := by decide +kernel
theorem dX9_shows_51 : decode cX9_shows 51 = .ok (.putfield 263, 3) := by decide +kernel
theorem dX9_shows_54 : decode cX9_shows 54 = .ok (.aload_n 0, 1) := by decide +kernel
theorem dX9_shows_55 : decode cX9_shows 55 = .ok (.getfield 263, 3) := by decide +kernel
theorem dX9_shows_58 : decode cX9_shows 58 = .ok (.iconst (-1), 1) := by decide +kernel
theorem dX9_shows_59 : decode cX9_shows 59 = .ok (.if_icmp .ne 16, 3) := by decide +kernel
theorem dX9_shows_62 : decode cX9_shows 62 = .ok (.aload_n 0, 1) := by decide +kernel
theorem dX9_shows_63 : decode cX9_shows 63 = .ok (.getfield 40, 3) := by decide +kernel
theorem dX9_shows_66 : decode cX9_shows 66 = .ok (.aload_n 0, 1) := by decide +kernel
theorem dX9_shows_67 : decode cX9_shows 67 = .ok (.getfield 20, 3) := by decide +kernel
theorem dX9_shows_70 : decode cX9_shows 70 = .ok (.invokestatic 269, 3) := by decide +kernel
theorem dX9_shows_73 : decode cX9_shows 73 = .ok (.iconst (-1), 1) := by decide +kernel
theorem dX9_shows_74 : decode cX9_shows 74 = .ok (.ireturn, 1) := by decide +kernel
theorem dX9_shows_75 : decode cX9_shows 75 = .ok (.aload_n 0, 1) := by decide +kernel
theorem dX9_shows_76 : decode cX9_shows 76 = .ok (.iload_n 1, 1) := by decide +kernel
theorem dX9_shows_77 : decode cX9_shows 77 = .ok (.iload_n 3, 1) := by decide +kernel
theorem dX9_shows_78 : decode cX9_shows 78 = .ok (.invokevirtual 279, 3) := by decide +kernel
theorem dX9_shows_81 : decode cX9_shows 81 = .ok (.aload_n 0, 1) := by decide +kernel
theorem dX9_shows_82 : decode cX9_shows 82 = .ok (.bipush 7, 2) := by decide +kernel
theorem dX9_shows_84 : decode cX9_shows 84 = .ok (.iload_n 1, 1) := by decide +kernel
theorem dX9_shows_85 : decode cX9_shows 85 = .ok (.invokevirtual 247, 3) := by decide +kernel
theorem dX9_shows_88 : decode cX9_shows 88 = .ok (.iload_n 2, 1) := by decide +kernel
theorem dX9_shows_89 : decode cX9_shows 89 = .ok (.aload_n 0, 1) := by decide +kernel
theorem dX9_shows_90 : decode cX9_shows 90 = .ok (.iload_n 1, 1) := by decide +kernel
theorem dX9_shows_91 : decode cX9_shows 91 = .ok (.bipush 6, 2) := by decide +kernel
theorem dX9_shows_93 : decode cX9_shows 93 = .ok (.invokevirtual 207, 3) := by decide +kernel
theorem dX9_shows_96 : decode cX9_shows 96 = .ok (.if_icmp .le 36, 3) := by decide +kernel
theorem dX9_shows_99 : decode cX9_shows 99 = .ok (.aload_n 0, 1) := by decide +kernel
theorem dX9_shows_100 : decode cX9_shows 100 = .ok (.iload_n 1, 1) := by decide +kernel
theorem dX9_shows_101 : decode cX9_shows 101 = .ok (.iconst 4, 1) := by decide +kernel
theorem dX9_shows_102 : decode cX9_shows 102 = .ok (.aload_n 0, 1) := by decide +kernel
theorem dX9_shows_103 : decode cX9_shows 103 = .ok (.iload_n 1, 1) := by decide +kernel
theorem dX9_shows_104 : decode cX9_shows 104 = .ok (.iconst 4, 1) := by decide +kernel
theorem dX9_shows_105 : decode cX9_shows 105 = .ok (.invokevirtual 203, 3) := by decide +kernel
theorem dX9_shows_108 : decode cX9_shows 108 = .ok (.iconst 1, 1) := by decide +kernel
theorem dX9_shows_109 : decode cX9_shows 109 = .ok (.iadd, 1) := by decide +kernel
theorem dX9_shows_110 : decode cX9_shows 110 = .ok (.invokevirtual 240, 3) := by decide +kernel
theorem dX9_shows_113 : decode cX9_shows 113 = .ok (.aload_n 0, 1) := by decide +kernel
theorem dX9_shows_114 : decode cX9_shows 114 = .ok (.iload_n 1, 1) := by decide +kernel
theorem dX9_shows_115 : decode cX9_shows 115 = .ok (.iconst 5, 1) := by decide +kernel
theorem dX9_shows_116 : decode cX9_shows 116 = .ok (.aload_n 0, 1) := by decide +kernel
theorem dX9_shows_117 : decode cX9_shows 117 = .ok (.getfield 20, 3) := by decide +kernel
theorem dX9_shows_120 : decode cX9_shows 120 = .ok (.iconst 1, 1) := by decide +kernel
theorem dX9_shows_121 : decode cX9_shows 121 = .ok (.iaload, 1) := by decide +kernel
theorem dX9_shows_122 : decode cX9_shows 122 = .ok (.invokevirtual 240, 3) := by decide +kernel
theorem dX9_shows_125 : decode cX9_shows 125 = .ok (.aload_n 0, 1) := by decide +kernel
theorem dX9_shows_126 : decode cX9_shows 126 = .ok (.bipush 8, 2) := by decide +kernel
theorem dX9_shows_128 : decode cX9_shows 128 = .ok (.iload_n 1, 1) := by decide +kernel
theorem dX9_shows_129 : decode cX9_shows 129 = .ok (.invokevirtual 247, 3) := by decide +kernel
theorem dX9_shows_132 : decode cX9_shows 132 = .ok (.iload_n 2, 1) := by decide +kernel
theorem dX9_shows_133 : decode cX9_shows 133 = .ok (.ireturn, 1) := by decide +kernel
theorem dX9_gets_0 : decode cX9_gets 0 = .ok (.aload_n 0, 1) := by decide +kernel
theorem dX9_gets_1 : decode cX9_gets 1 = .ok (.iload_n 1, 1) := by decide +kernel
theorem dX9_gets_2 : decode cX9_gets 2 = .ok (.iconst 3, 1) := by decide +kernel
theorem dX9_gets_3 : decode cX9_gets 3 = .ok (.invokevirtual 207, 3) := by decide +kernel
theorem dX9_gets_6 : decode cX9_gets 6 = .ok (.aload_n 0, 1) := by decide +kernel
theorem dX9_gets_7 : decode cX9_gets 7 = .ok (.iload_n 1, 1) := by decide +kernel
theorem dX9_gets_8 : decode cX9_gets 8 = .ok (.iconst 1, 1) := by decide +kernel
theorem dX9_gets_9 : decode cX9_gets 9 = .ok (.invokevirtual 203, 3) := by decide +kernel
theorem dX9_gets_12 : decode cX9_gets 12 = .ok (.isub, 1) := by decide +kernel
theorem dX9_gets_13 : decode cX9_gets 13 = .ok (.istore_n 3, 1) := by decide +kernel
theorem dX9_gets_14 : decode cX9_gets 14 = .ok (.iload_n 2, 1) := by decide +kernel
theorem dX9_gets_15 : decode cX9_gets 15 = .ok (.iload_n 3, 1) := by decide +kernel
theorem dX9_gets_16 : decode cX9_gets 16 = .ok (.if_icmp .ge 7, 3) := by decide +kernel
theorem dX9_gets_19 : decode cX9_gets 19 = .ok (.iload_n 2, 1) := by decide +kernel
theorem dX9_gets_20 : decode cX9_gets 20 = .ok (.goto 4, 3) := by decide +kernel
theorem dX9_gets_23 : decode cX9_gets 23 = .ok (.iload_n 3, 1) := by decide +kernel
theorem dX9_gets_24 : decode cX9_gets 24 = .ok (.istore 4, 2) := by decide +kernel
theorem dX9_gets_26 : decode cX9_gets 26 = .ok (.iload 4, 2) := by decide +kernel
theorem dX9_gets_28 : decode cX9_gets 28 = .ok (.ifCond .gt 5, 3) := by decide +kernel
theorem dX9_gets_31 : decode cX9_gets 31 = .ok (.iconst 0, 1) := by decide +kernel
theorem dX9_gets_32 : decode cX9_gets 32 = .ok (.ireturn, 1) := by decide +kernel
theorem dX9_gets_33 : decode cX9_gets 33 = .ok (.aload_n 0, 1) := by decide +kernel
theorem dX9_gets_34 : decode cX9_gets 34 = .ok (.getfield 20, 3) := by decide +kernel
theorem dX9_gets_37 : decode cX9_gets 37 = .ok (.aload_n 0, 1) := by decide +kernel
theorem dX9_gets_38 : decode cX9_gets 38 = .ok (.getfield 40, 3) := by decide +kernel
theorem dX9_gets_41 : decode cX9_gets 41 = .ok (.invokestatic 269, 3) := by decide +kernel
theorem dX9_gets_44 : decode cX9_gets 44 = .ok (.aload_n 0, 1) := by decide +kernel
theorem dX9_gets_45 : decode cX9_gets 45 = .ok (.iload_n 1, 1) := by decide +kernel
theorem dX9_gets_46 : decode cX9_gets 46 = .ok (.iconst 1, 1) := by decide +kernel
theorem dX9_gets_47 : decode cX9_gets 47 = .ok (.aload_n 0, 1) := by decide +kernel
theorem dX9_gets_48 : decode cX9_gets 48 = .ok (.iload_n 1, 1) := by decide +kernel
theorem dX9_gets_49 : decode cX9_gets 49 = .ok (.iconst 1, 1) := by decide +kernel
theorem dX9_gets_50 : decode cX9_gets 50 = .ok (.invokevirtual 203, 3) := by decide +kernel
theorem dX9_gets_53 : decode cX9_gets 53 = .ok (.iload 4, 2) := by decide +kernel
theorem dX9_gets_55 : decode cX9_gets 55 = .ok (.iadd, 1) := by decide +kernel
theorem dX9_gets_56 : decode cX9_gets 56 = .ok (.invokevirtual 240, 3) := by decide +kernel
theorem dX9_gets_59 : decode cX9_gets 59 = .ok (.aload_n 0, 1) := by decide +kernel
theorem dX9_gets_60 : decode cX9_gets 60 = .ok (.invokevirtual 276, 3) := by decide +kernel
theorem dX9_gets_63 : decode cX9_gets 63 = .ok (.istore 5, 2) := by decide +kernel
theorem dX9_gets_65 : decode cX9_gets 65 = .ok (.iload 5, 2) := by decide +kernel
theorem dX9_gets_67 : decode cX9_gets 67 = .ok (.iconst (-1), 1) := by decide +kernel
theorem dX9_gets_68 : decode cX9_gets 68 = .ok (.if_icmp .ne 23, 3) := by decide +kernel
theorem dX9_gets_71 : decode cX9_gets 71 = .ok (.aload_n 0, 1) := by decide +kernel
theorem dX9_gets_72 : decode cX9_gets 72 = .ok (.getfield 40, 3) := by decide +kernel
theorem dX9_gets_75 : decode cX9_gets 75 = .ok (.aload_n 0, 1) := by decide +kernel
theorem dX9_gets_76 : decode cX9_gets 76 = .ok (.getfield 20, 3) := by decide +kernel
theorem dX9_gets_79 : decode cX9_gets 79 = .ok (.invokestatic 269, 3) := by decide +kernel
theorem dX9_gets_82 : decode cX9_gets 82 = .ok (.aload_n 0, 1) := by decide +kernel
theorem dX9_gets_83 : decode cX9_gets 83 = .ok (.bipush 9, 2) := by decide +kernel
theorem dX9_gets_85 : decode cX9_gets 85 = .ok (.iload_n 1, 1) := by decide +kernel
theorem dX9_gets_86 : decode cX9_gets 86 = .ok (.invokevirtual 247, 3) := by decide +kernel
theorem dX9_gets_89 : decode cX9_gets 89 = .ok (.iconst 0, 1) := by decide +kernel
theorem dX9_gets_90 : decode cX9_gets 90 = .ok (.ireturn, 1) := by decide +kernel
theorem dX9_gets_91 : decode cX9_gets 91 = .ok (.iload 5, 2) := by decide +kernel
theorem dX9_gets_93 : decode cX9_gets 93 = .ok (.ireturn, 1) := by decide +kernel
theorem dX9_passes_0 : decode cX9_passes 0 = .ok (.aload_n 0, 1) := by decide +kernel
theorem dX9_passes_1 : decode cX9_passes 1 = .ok (.getfield 20, 3) := by decide +kernel
theorem dX9_passes_4 : decode cX9_passes 4 = .ok (.iconst 1, 1) := by decide +kernel
theorem dX9_passes_5 : decode cX9_passes 5 = .ok (.dup2, 1) := by decide +kernel
theorem dX9_passes_6 : decode cX9_passes 6 = .ok (.iaload, 1) := by decide +kernel
theorem dX9_passes_7 : decode cX9_passes 7 = .ok (.iconst 1, 1) := by decide +kernel
theorem dX9_passes_8 : decode cX9_passes 8 = .ok (.iadd, 1) := by decide +kernel
theorem dX9_passes_9 : decode cX9_passes 9 = .ok (.iastore, 1) := by decide +kernel
theorem dX9_passes_10 : decode cX9_passes 10 = .ok (.iconst 0, 1) := by decide +kernel
theorem dX9_passes_11 : decode cX9_passes 11 = .ok (.istore_n 1, 1) := by decide +kernel
theorem dX9_passes_12 : decode cX9_passes 12 = .ok (.aload_n 0, 1) := by decide +kernel
theorem dX9_passes_13 : decode cX9_passes 13 = .ok (.getfield 20, 3) := by decide +kernel
theorem dX9_passes_16 : decode cX9_passes 16 = .ok (.iconst 2, 1) := by decide +kernel
theorem dX9_passes_17 : decode cX9_passes 17 = .ok (.iaload, 1) := by decide +kernel
theorem dX9_passes_18 : decode cX9_passes 18 = .ok (.iconst (-1), 1) := by decide +kernel
theorem dX9_passes_19 : decode cX9_passes 19 = .ok (.if_icmp .eq 27, 3) := by decide +kernel
theorem dX9_passes_22 : decode cX9_passes 22 = .ok (.iload_n 1, 1) := by decide +kernel
theorem dX9_passes_23 : decode cX9_passes 23 = .ok (.aload_n 0, 1) := by decide +kernel
theorem dX9_passes_24 : decode cX9_passes 24 = .ok (.aload_n 0, 1) := by decide +kernel
theorem dX9_passes_25 : decode cX9_passes 25 = .ok (.getfield 20, 3) := by decide +kernel
theorem dX9_passes_28 : decode cX9_passes 28 = .ok (.iconst 2, 1) := by decide +kernel
theorem dX9_passes_29 : decode cX9_passes 29 = .ok (.iaload, 1) := by decide +kernel
theorem dX9_passes_30 : decode cX9_passes 30 = .ok (.aload_n 0, 1) := by decide +kernel
theorem dX9_passes_31 : decode cX9_passes 31 = .ok (.aload_n 0, 1) := by decide +kernel
theorem dX9_passes_32 : decode cX9_passes 32 = .ok (.getfield 20, 3) := by decide +kernel
theorem dX9_passes_35 : decode cX9_passes 35 = .ok (.iconst 2, 1) := by decide +kernel
theorem dX9_passes_36 : decode cX9_passes 36 = .ok (.iaload, 1) := by decide +kernel
theorem dX9_passes_37 : decode cX9_passes 37 = .ok (.iconst 2, 1) := by decide +kernel
theorem dX9_passes_38 : decode cX9_passes 38 = .ok (.invokevirtual 207, 3) := by decide +kernel
theorem dX9_passes_41 : decode cX9_passes 41 = .ok (.invokevirtual 282, 3) := by decide +kernel
theorem dX9_passes_44 : decode cX9_passes 44 = .ok (.iadd, 1) := by decide +kernel
theorem dX9_passes_45 : decode cX9_passes 45 = .ok (.istore_n 1, 1) := by decide +kernel
theorem dX9_passes_46 : decode cX9_passes 46 = .ok (.iconst 0, 1) := by decide +kernel
theorem dX9_passes_47 : decode cX9_passes 47 = .ok (.istore_n 2, 1) := by decide +kernel
theorem dX9_passes_48 : decode cX9_passes 48 = .ok (.iload_n 2, 1) := by decide +kernel
theorem dX9_passes_49 : decode cX9_passes 49 = .ok (.aload_n 0, 1) := by decide +kernel
theorem dX9_passes_50 : decode cX9_passes 50 = .ok (.getfield 197, 3) := by decide +kernel
theorem dX9_passes_53 : decode cX9_passes 53 = .ok (.if_icmp .ge 59, 3) := by decide +kernel
theorem dX9_passes_56 : decode cX9_passes 56 = .ok (.aload_n 0, 1) := by decide +kernel
theorem dX9_passes_57 : decode cX9_passes 57 = .ok (.iload_n 2, 1) := by decide +kernel
theorem dX9_passes_58 : decode cX9_passes 58 = .ok (.bipush 7, 2) := by decide +kernel
theorem dX9_passes_60 : decode cX9_passes 60 = .ok (.invokevirtual 207, 3) := by decide +kernel
theorem dX9_passes_63 : decode cX9_passes 63 = .ok (.istore_n 3, 1) := by decide +kernel
theorem dX9_passes_64 : decode cX9_passes 64 = .ok (.aload_n 0, 1) := by decide +kernel
theorem dX9_passes_65 : decode cX9_passes 65 = .ok (.iload_n 2, 1) := by decide +kernel
theorem dX9_passes_66 : decode cX9_passes 66 = .ok (.iconst 0, 1) := by decide +kernel
theorem dX9_passes_67 : decode cX9_passes 67 = .ok (.invokevirtual 203, 3) := by decide +kernel
theorem dX9_passes_70 : decode cX9_passes 70 = .ok (.iconst 2, 1) := by decide +kernel
theorem dX9_passes_71 : decode cX9_passes 71 = .ok (.if_icmp .ne 35, 3) := by decide +kernel
theorem dX9_passes_74 : decode cX9_passes 74 = .ok (.iload_n 3, 1) := by decide +kernel
theorem dX9_passes_75 : decode cX9_passes 75 = .ok (.ifCond .le 31, 3) := by decide +kernel
theorem dX9_passes_78 : decode cX9_passes 78 = .ok (.aload_n 0, 1) := by decide +kernel
theorem dX9_passes_79 : decode cX9_passes 79 = .ok (.getfield 20, 3) := by decide +kernel
theorem dX9_passes_82 : decode cX9_passes 82 = .ok (.iconst 1, 1) := by decide +kernel
theorem dX9_passes_83 : decode cX9_passes 83 = .ok (.iaload, 1) := by decide +kernel
theorem dX9_passes_84 : decode cX9_passes 84 = .ok (.aload_n 0, 1) := by decide +kernel
theorem dX9_passes_85 : decode cX9_passes 85 = .ok (.iload_n 2, 1) := by decide +kernel
theorem dX9_passes_86 : decode cX9_passes 86 = .ok (.bipush 7, 2) := by decide +kernel
theorem dX9_passes_88 : decode cX9_passes 88 = .ok (.invokevirtual 203, 3) := by decide +kernel
theorem dX9_passes_91 : decode cX9_passes 91 = .ok (.isub, 1) := by decide +kernel
theorem dX9_passes_92 : decode cX9_passes 92 = .ok (.iload_n 3, 1) := by decide +kernel
theorem dX9_passes_93 : decode cX9_passes 93 = .ok (.irem, 1) := by decide +kernel
theorem dX9_passes_94 : decode cX9_passes 94 = .ok (.ifCond .ne 12, 3) := by decide +kernel
theorem dX9_passes_97 : decode cX9_passes 97 = .ok (.iload_n 1, 1) := by decide +kernel
theorem dX9_passes_98 : decode cX9_passes 98 = .ok (.aload_n 0, 1) := by decide +kernel
theorem dX9_passes_99 : decode cX9_passes 99 = .ok (.iload_n 2, 1) := by decide +kernel
theorem dX9_passes_100 : decode cX9_passes 100 = .ok (.iconst 1, 1) := by decide +kernel
theorem dX9_passes_101 : decode cX9_passes 101 = .ok (.invokevirtual 282, 3) := by decide +kernel
theorem dX9_passes_104 : decode cX9_passes 104 = .ok (.iadd, 1) := by decide +kernel
theorem dX9_passes_105 : decode cX9_passes 105 = .ok (.istore_n 1, 1) := by decide +kernel
theorem dX9_passes_106 : decode cX9_passes 106 = .ok (.iinc 2 1, 3) := by decide +kernel
theorem dX9_passes_109 : decode cX9_passes 109 = .ok (.goto (-61), 3) := by decide +kernel
theorem dX9_passes_112 : decode cX9_passes 112 = .ok (.iload_n 1, 1) := by decide +kernel
theorem dX9_passes_113 : decode cX9_passes 113 = .ok (.ireturn, 1) := by decide +kernel
theorem dX9_complaints_0 : decode cX9_complaints 0 = .ok (.iconst 0, 1) := by decide +kernel
theorem dX9_complaints_1 : decode cX9_complaints 1 = .ok (.istore_n 1, 1) := by decide +kernel
theorem dX9_complaints_2 : decode cX9_complaints 2 = .ok (.iconst 0, 1) := by decide +kernel
theorem dX9_complaints_3 : decode cX9_complaints 3 = .ok (.istore_n 2, 1) := by decide +kernel
theorem dX9_complaints_4 : decode cX9_complaints 4 = .ok (.iload_n 2, 1) := by decide +kernel
theorem dX9_complaints_5 : decode cX9_complaints 5 = .ok (.aload_n 0, 1) := by decide +kernel
theorem dX9_complaints_6 : decode cX9_complaints 6 = .ok (.getfield 197, 3) := by decide +kernel
theorem dX9_complaints_9 : decode cX9_complaints 9 = .ok (.if_icmp .ge 18, 3) := by decide +kernel
theorem dX9_complaints_12 : decode cX9_complaints 12 = .ok (.iload_n 1, 1) := by decide +kernel
theorem dX9_complaints_13 : decode cX9_complaints 13 = .ok (.aload_n 0, 1) := by decide +kernel
theorem dX9_complaints_14 : decode cX9_complaints 14 = .ok (.iload_n 2, 1) := by decide +kernel
theorem dX9_complaints_15 : decode cX9_complaints 15 = .ok (.iconst 4, 1) := by decide +kernel
theorem dX9_complaints_16 : decode cX9_complaints 16 = .ok (.invokevirtual 203, 3) := by decide +kernel
theorem dX9_complaints_19 : decode cX9_complaints 19 = .ok (.iadd, 1) := by decide +kernel
theorem dX9_complaints_20 : decode cX9_complaints 20 = .ok (.istore_n 1, 1) := by decide +kernel
theorem dX9_complaints_21 : decode cX9_complaints 21 = .ok (.iinc 2 1, 3) := by decide +kernel
theorem dX9_complaints_24 : decode cX9_complaints 24 = .ok (.goto (-20), 3) := by decide +kernel
theorem dX9_complaints_27 : decode cX9_complaints 27 = .ok (.iload_n 1, 1) := by decide +kernel
theorem dX9_complaints_28 : decode cX9_complaints 28 = .ok (.ireturn, 1) := by decide +kernel
theorem dX9_size_0 : decode cX9_size 0 = .ok (.aload_n 0, 1) := by decide +kernel
theorem dX9_size_1 : decode cX9_size 1 = .ok (.iconst 0, 1) := by decide +kernel
theorem dX9_size_2 : decode cX9_size 2 = .ok (.putfield 65, 3) := by decide +kernel
theorem dX9_size_5 : decode cX9_size 5 = .ok (.aload_n 0, 1) := by decide +kernel
theorem dX9_size_6 : decode cX9_size 6 = .ok (.iload_n 1, 1) := by decide +kernel
theorem dX9_size_7 : decode cX9_size 7 = .ok (.iconst 0, 1) := by decide +kernel
theorem dX9_size_8 : decode cX9_size 8 = .ok (.bipush 8, 2) := by decide +kernel
theorem dX9_size_10 : decode cX9_size 10 = .ok (.invokestatic 89, 3) := by decide +kernel
theorem dX9_size_13 : decode cX9_size 13 = .ok (.ifCond .ne 7, 3) := by decide +kernel
theorem dX9_size_16 : decode cX9_size 16 = .ok (.iconst 1, 1) := by decide +kernel
theorem dX9_size_17 : decode cX9_size 17 = .ok (.goto 4, 3) := by decide +kernel
theorem dX9_size_20 : decode cX9_size 20 = .ok (.iconst 0, 1) := by decide +kernel
theorem dX9_size_21 : decode cX9_size 21 = .ok (.iconst 1, 1) := by decide +kernel
theorem dX9_size_22 : decode cX9_size 22 = .ok (.invokevirtual 185, 3) := by decide +kernel
theorem dX9_size_25 : decode cX9_size 25 = .ok (.ifCond .eq 5, 3) := by decide +kernel
theorem dX9_size_28 : decode cX9_size 28 = .ok (.iconst 0, 1) := by decide +kernel
theorem dX9_size_29 : decode cX9_size 29 = .ok (.ireturn, 1) := by decide +kernel
theorem dX9_size_30 : decode cX9_size 30 = .ok (.iload_n 1, 1) := by decide +kernel
theorem dX9_size_31 : decode cX9_size 31 = .ok (.tableswitch 95 0 7 #[45, 50, 57, 62, 69, 76, 83, 90], 45) := by decide +kernel
theorem dX9_size_76 : decode cX9_size 76 = .ok (.aload_n 0, 1) := by decide +kernel
theorem dX9_size_77 : decode cX9_size 77 = .ok (.getfield 197, 3) := by decide +kernel
theorem dX9_size_80 : decode cX9_size 80 = .ok (.ireturn, 1) := by decide +kernel
theorem dX9_size_81 : decode cX9_size 81 = .ok (.aload_n 0, 1) := by decide +kernel
theorem dX9_size_82 : decode cX9_size 82 = .ok (.getfield 20, 3) := by decide +kernel
theorem dX9_size_85 : decode cX9_size 85 = .ok (.iconst 0, 1) := by decide +kernel
theorem dX9_size_86 : decode cX9_size 86 = .ok (.iaload, 1) := by decide +kernel
theorem dX9_size_87 : decode cX9_size 87 = .ok (.ireturn, 1) := by decide +kernel
theorem dX9_size_88 : decode cX9_size 88 = .ok (.aload_n 0, 1) := by decide +kernel
theorem dX9_size_89 : decode cX9_size 89 = .ok (.invokevirtual 251, 3) := by decide +kernel
theorem dX9_size_92 : decode cX9_size 92 = .ok (.ireturn, 1) := by decide +kernel
theorem dX9_size_93 : decode cX9_size 93 = .ok (.aload_n 0, 1) := by decide +kernel
theorem dX9_size_94 : decode cX9_size 94 = .ok (.getfield 20, 3) := by decide +kernel
theorem dX9_size_97 : decode cX9_size 97 = .ok (.iconst 1, 1) := by decide +kernel
theorem dX9_size_98 : decode cX9_size 98 = .ok (.iaload, 1) := by decide +kernel
theorem dX9_size_99 : decode cX9_size 99 = .ok (.ireturn, 1) := by decide +kernel
theorem dX9_size_100 : decode cX9_size 100 = .ok (.aload_n 0, 1) := by decide +kernel
theorem dX9_size_101 : decode cX9_size 101 = .ok (.getfield 20, 3) := by decide +kernel
theorem dX9_size_104 : decode cX9_size 104 = .ok (.iconst 2, 1) := by decide +kernel
theorem dX9_size_105 : decode cX9_size 105 = .ok (.iaload, 1) := by decide +kernel
theorem dX9_size_106 : decode cX9_size 106 = .ok (.ireturn, 1) := by decide +kernel
theorem dX9_size_107 : decode cX9_size 107 = .ok (.aload_n 0, 1) := by decide +kernel
theorem dX9_size_108 : decode cX9_size 108 = .ok (.getfield 20, 3) := by decide +kernel
theorem dX9_size_111 : decode cX9_size 111 = .ok (.iconst 3, 1) := by decide +kernel
theorem dX9_size_112 : decode cX9_size 112 = .ok (.iaload, 1) := by decide +kernel
theorem dX9_size_113 : decode cX9_size 113 = .ok (.ireturn, 1) := by decide +kernel
theorem dX9_size_114 : decode cX9_size 114 = .ok (.aload_n 0, 1) := by decide +kernel
theorem dX9_size_115 : decode cX9_size 115 = .ok (.getfield 20, 3) := by decide +kernel
theorem dX9_size_118 : decode cX9_size 118 = .ok (.iconst 4, 1) := by decide +kernel
theorem dX9_size_119 : decode cX9_size 119 = .ok (.iaload, 1) := by decide +kernel
theorem dX9_size_120 : decode cX9_size 120 = .ok (.ireturn, 1) := by decide +kernel
theorem dX9_size_121 : decode cX9_size 121 = .ok (.aload_n 0, 1) := by decide +kernel
theorem dX9_size_122 : decode cX9_size 122 = .ok (.invokevirtual 285, 3) := by decide +kernel
theorem dX9_size_125 : decode cX9_size 125 = .ok (.ireturn, 1) := by decide +kernel
theorem dX9_size_126 : decode cX9_size 126 = .ok (.aload_n 0, 1) := by decide +kernel
theorem dX9_size_127 : decode cX9_size 127 = .ok (.getfield 200, 3) := by decide +kernel
theorem dX9_size_130 : decode cX9_size 130 = .ok (.ireturn, 1) := by decide +kernel
theorem dX9_find_0 : decode cX9_find 0 = .ok (.aload_n 0, 1) := by decide +kernel
theorem dX9_find_1 : decode cX9_find 1 = .ok (.iconst 0, 1) := by decide +kernel
theorem dX9_find_2 : decode cX9_find 2 = .ok (.putfield 65, 3) := by decide +kernel
theorem dX9_find_5 : decode cX9_find 5 = .ok (.aload_n 0, 1) := by decide +kernel
theorem dX9_find_6 : decode cX9_find 6 = .ok (.aload_n 0, 1) := by decide +kernel
theorem dX9_find_7 : decode cX9_find 7 = .ok (.getfield 68, 3) := by decide +kernel
theorem dX9_find_10 : decode cX9_find 10 = .ok (.putfield 75, 3) := by decide +kernel
theorem dX9_find_13 : decode cX9_find 13 = .ok (.aload_n 0, 1) := by decide +kernel
theorem dX9_find_14 : decode cX9_find 14 = .ok (.iconst 0, 1) := by decide +kernel
theorem dX9_find_15 : decode cX9_find 15 = .ok (.putfield 68, 3) := by decide +kernel
theorem dX9_find_18 : decode cX9_find 18 = .ok (.aload_n 0, 1) := by decide +kernel
theorem dX9_find_19 : decode cX9_find 19 = .ok (.iconst 0, 1) := by decide +kernel
theorem dX9_find_20 : decode cX9_find 20 = .ok (.putfield 93, 3) := by decide +kernel
theorem dX9_find_23 : decode cX9_find 23 = .ok (.aload_n 0, 1) := by decide +kernel
theorem dX9_find_24 : decode cX9_find 24 = .ok (.iconst 0, 1) := by decide +kernel
theorem dX9_find_25 : decode cX9_find 25 = .ok (.putfield 82, 3) := by decide +kernel
theorem dX9_find_28 : decode cX9_find 28 = .ok (.aload_n 0, 1) := by decide +kernel
theorem dX9_find_29 : decode cX9_find 29 = .ok (.invokevirtual 102, 3) := by decide +kernel
theorem dX9_find_32 : decode cX9_find 32 = .ok (.aload_n 0, 1) := by decide +kernel
theorem dX9_find_33 : decode cX9_find 33 = .ok (.getfield 82, 3) := by decide +kernel
theorem dX9_find_36 : decode cX9_find 36 = .ok (.istore_n 1, 1) := by decide +kernel
theorem dX9_find_37 : decode cX9_find 37 = .ok (.aload_n 0, 1) := by decide +kernel
theorem dX9_find_38 : decode cX9_find 38 = .ok (.aload_n 0, 1) := by decide +kernel
theorem dX9_find_39 : decode cX9_find 39 = .ok (.getfield 82, 3) := by decide +kernel
theorem dX9_find_42 : decode cX9_find 42 = .ok (.invokevirtual 85, 3) := by decide +kernel
theorem dX9_find_45 : decode cX9_find 45 = .ok (.bipush 32, 2) := by decide +kernel
theorem dX9_find_47 : decode cX9_find 47 = .ok (.if_icmp .ne 16, 3) := by decide +kernel
theorem dX9_find_50 : decode cX9_find 50 = .ok (.aload_n 0, 1) := by decide +kernel
theorem dX9_find_51 : decode cX9_find 51 = .ok (.dup, 1) := by decide +kernel
theorem dX9_find_52 : decode cX9_find 52 = .ok (.getfield 82, 3) := by decide +kernel
theorem dX9_find_55 : decode cX9_find 55 = .ok (.iconst 1, 1) := by decide +kernel
theorem dX9_find_56 : decode cX9_find 56 = .ok (.iadd, 1) := by decide +kernel
theorem dX9_find_57 : decode cX9_find 57 = .ok (.putfield 82, 3) := by decide +kernel
theorem dX9_find_60 : decode cX9_find 60 = .ok (.goto (-23), 3) := by decide +kernel
theorem dX9_find_63 : decode cX9_find 63 = .ok (.iload_n 1, 1) := by decide +kernel
theorem dX9_find_64 : decode cX9_find 64 = .ok (.ifCond .eq 20, 3) := by decide +kernel
theorem dX9_find_67 : decode cX9_find 67 = .ok (.iload_n 1, 1) := by decide +kernel
theorem dX9_find_68 : decode cX9_find 68 = .ok (.bipush 8, 2) := by decide +kernel
theorem dX9_find_70 : decode cX9_find 70 = .ok (.if_icmp .gt 14, 3) := by decide +kernel
theorem dX9_find_73 : decode cX9_find 73 = .ok (.aload_n 0, 1) := by decide +kernel
theorem dX9_find_74 : decode cX9_find 74 = .ok (.getfield 82, 3) := by decide +kernel
theorem dX9_find_77 : decode cX9_find 77 = .ok (.aload_n 0, 1) := by decide +kernel
theorem dX9_find_78 : decode cX9_find 78 = .ok (.getfield 75, 3) := by decide +kernel
theorem dX9_find_81 : decode cX9_find 81 = .ok (.if_icmp .ge 7, 3) := by decide +kernel
theorem dX9_find_84 : decode cX9_find 84 = .ok (.iconst (-1), 1) := by decide +kernel
theorem dX9_find_85 : decode cX9_find 85 = .ok (.goto 18, 3) := by decide +kernel
theorem dX9_find_88 : decode cX9_find 88 = .ok (.aload_n 0, 1) := by decide +kernel
theorem dX9_find_89 : decode cX9_find 89 = .ok (.getfield 13, 3) := by decide +kernel
theorem dX9_find_92 : decode cX9_find 92 = .ok (.aload_n 0, 1) := by decide +kernel
theorem dX9_find_93 : decode cX9_find 93 = .ok (.getfield 197, 3) := by decide +kernel
theorem dX9_find_96 : decode cX9_find 96 = .ok (.aload_n 0, 1) := by decide +kernel
theorem dX9_find_97 : decode cX9_find 97 = .ok (.getfield 78, 3) := by decide +kernel
theorem dX9_find_100 : decode cX9_find 100 = .ok (.invokestatic 138, 3) := by decide +kernel
theorem dX9_find_103 : decode cX9_find 103 = .ok (.ireturn, 1) := by decide +kernel
theorem dX9_no_0 : decode cX9_no 0 = .ok (.aload_n 0, 1) := by decide +kernel
theorem dX9_no_1 : decode cX9_no 1 = .ok (.iload_n 1, 1) := by decide +kernel
theorem dX9_no_2 : decode cX9_no 2 = .ok (.iconst 0, 1) := by decide +kernel
theorem dX9_no_3 : decode cX9_no 3 = .ok (.iload_n 2, 1) := by decide +kernel
theorem dX9_no_4 : decode cX9_no 4 = .ok (.iconst 1, 1) := by decide +kernel
theorem dX9_no_5 : decode cX9_no 5 = .ok (.isub, 1) := by decide +kernel
theorem dX9_no_6 : decode cX9_no 6 = .ok (.invokestatic 89, 3) := by decide +kernel
theorem dX9_no_9 : decode cX9_no 9 = .ok (.ifCond .ne 7, 3) := by decide +kernel
theorem dX9_no_12 : decode cX9_no 12 = .ok (.iconst 1, 1) := by decide +kernel
theorem dX9_no_13 : decode cX9_no 13 = .ok (.goto 4, 3) := by decide +kernel
theorem dX9_no_16 : decode cX9_no 16 = .ok (.iconst 0, 1) := by decide +kernel
theorem dX9_no_17 : decode cX9_no 17 = .ok (.iconst 1, 1) := by decide +kernel
theorem dX9_no_18 : decode cX9_no 18 = .ok (.invokevirtual 185, 3) := by decide +kernel
theorem dX9_no_21 : decode cX9_no 21 = .ok (.ireturn, 1) := by decide +kernel
theorem dX9_noProgram_0 : decode cX9_noProgram 0 = .ok (.aload_n 0, 1) := by decide +kernel
theorem dX9_noProgram_1 : decode cX9_noProgram 1 = .ok (.iconst 0, 1) := by decide +kernel
theorem dX9_noProgram_2 : decode cX9_noProgram 2 = .ok (.putfield 65, 3) := by decide +kernel
theorem dX9_noProgram_5 : decode cX9_noProgram 5 = .ok (.aload_n 0, 1) := by decide +kernel
theorem dX9_noProgram_6 : decode cX9_noProgram 6 = .ok (.iload_n 1, 1) := by decide +kernel
theorem dX9_noProgram_7 : decode cX9_noProgram 7 = .ok (.aload_n 0, 1) := by decide +kernel
theorem dX9_noProgram_8 : decode cX9_noProgram 8 = .ok (.getfield 197, 3) := by decide +kernel
theorem dX9_noProgram_11 : decode cX9_noProgram 11 = .ok (.invokevirtual 288, 3) := by decide +kernel
theorem dX9_noProgram_14 : decode cX9_noProgram 14 = .ok (.ireturn, 1) := by decide +kernel
theorem dX9_program_0 : decode cX9_program 0 = .ok (.aload_n 0, 1) := by decide +kernel
theorem dX9_program_1 : decode cX9_program 1 = .ok (.iload_n 1, 1) := by decide +kernel
theorem dX9_program_2 : decode cX9_program 2 = .ok (.invokevirtual 291, 3) := by decide +kernel
theorem dX9_program_5 : decode cX9_program 5 = .ok (.ifCond .ne 26, 3) := by decide +kernel
theorem dX9_program_8 : decode cX9_program 8 = .ok (.aload_n 0, 1) := by decide +kernel
theorem dX9_program_9 : decode cX9_program 9 = .ok (.iload_n 2, 1) := by decide +kernel
theorem dX9_program_10 : decode cX9_program 10 = .ok (.iconst 0, 1) := by decide +kernel
theorem dX9_program_11 : decode cX9_program 11 = .ok (.bipush 7, 2) := by decide +kernel
theorem dX9_program_13 : decode cX9_program 13 = .ok (.invokestatic 89, 3) := by decide +kernel
theorem dX9_program_16 : decode cX9_program 16 = .ok (.ifCond .ne 7, 3) := by decide +kernel
theorem dX9_program_19 : decode cX9_program 19 = .ok (.iconst 1, 1) := by decide +kernel
theorem dX9_program_20 : decode cX9_program 20 = .ok (.goto 4, 3) := by decide +kernel
theorem dX9_program_23 : decode cX9_program 23 = .ok (.iconst 0, 1) := by decide +kernel
theorem dX9_program_24 : decode cX9_program 24 = .ok (.iconst 2, 1) := by decide +kernel
theorem dX9_program_25 : decode cX9_program 25 = .ok (.invokevirtual 185, 3) := by decide +kernel
theorem dX9_program_28 : decode cX9_program 28 = .ok (.ifCond .eq 5, 3) := by decide +kernel
theorem dX9_program_31 : decode cX9_program 31 = .ok (.iconst 0, 1) := by decide +kernel
theorem dX9_program_32 : decode cX9_program 32 = .ok (.ireturn, 1) := by decide +kernel
theorem dX9_program_33 : decode cX9_program 33 = .ok (.iload_n 2, 1) := by decide +kernel
theorem dX9_program_34 : decode cX9_program 34 = .ok (.tableswitch 92 0 6 #[42, 49, 56, 63, 69, 76, 84], 42) := by decide +kernel
theorem dX9_program_76 : decode cX9_program 76 = .ok (.aload_n 0, 1) := by decide +kernel
theorem dX9_program_77 : decode cX9_program 77 = .ok (.iload_n 1, 1) := by decide +kernel
theorem dX9_program_78 : decode cX9_program 78 = .ok (.iconst 0, 1) := by decide +kernel
theorem dX9_program_79 : decode cX9_program 79 = .ok (.invokevirtual 203, 3) := by decide +kernel
theorem dX9_program_82 : decode cX9_program 82 = .ok (.ireturn, 1) := by decide +kernel
theorem dX9_program_83 : decode cX9_program 83 = .ok (.aload_n 0, 1) := by decide +kernel
theorem dX9_program_84 : decode cX9_program 84 = .ok (.iload_n 1, 1) := by decide +kernel
theorem dX9_program_85 : decode cX9_program 85 = .ok (.iconst 1, 1) := by decide +kernel
theorem dX9_program_86 : decode cX9_program 86 = .ok (.invokevirtual 203, 3) := by decide +kernel
theorem dX9_program_89 : decode cX9_program 89 = .ok (.ireturn, 1) := by decide +kernel
theorem dX9_program_90 : decode cX9_program 90 = .ok (.aload_n 0, 1) := by decide +kernel
theorem dX9_program_91 : decode cX9_program 91 = .ok (.iload_n 1, 1) := by decide +kernel
theorem dX9_program_92 : decode cX9_program 92 = .ok (.iconst 2, 1) := by decide +kernel
theorem dX9_program_93 : decode cX9_program 93 = .ok (.invokevirtual 203, 3) := by decide +kernel
theorem dX9_program_96 : decode cX9_program 96 = .ok (.ireturn, 1) := by decide +kernel
theorem dX9_program_97 : decode cX9_program 97 = .ok (.aload_n 0, 1) := by decide +kernel
theorem dX9_program_98 : decode cX9_program 98 = .ok (.iload_n 1, 1) := by decide +kernel
theorem dX9_program_99 : decode cX9_program 99 = .ok (.invokevirtual 210, 3) := by decide +kernel
theorem dX9_program_102 : decode cX9_program 102 = .ok (.ireturn, 1) := by decide +kernel
theorem dX9_program_103 : decode cX9_program 103 = .ok (.aload_n 0, 1) := by decide +kernel
theorem dX9_program_104 : decode cX9_program 104 = .ok (.iload_n 1, 1) := by decide +kernel
theorem dX9_program_105 : decode cX9_program 105 = .ok (.iconst 4, 1) := by decide +kernel
theorem dX9_program_106 : decode cX9_program 106 = .ok (.invokevirtual 203, 3) := by decide +kernel
theorem dX9_program_109 : decode cX9_program 109 = .ok (.ireturn, 1) := by decide +kernel
theorem dX9_program_110 : decode cX9_program 110 = .ok (.aload_n 0, 1) := by decide +kernel
theorem dX9_program_111 : decode cX9_program 111 = .ok (.iload_n 1, 1) := by decide +kernel
theorem dX9_program_112 : decode cX9_program 112 = .ok (.bipush 15, 2) := by decide +kernel
theorem dX9_program_114 : decode cX9_program 114 = .ok (.invokevirtual 203, 3) := by decide +kernel
theorem dX9_program_117 : decode cX9_program 117 = .ok (.ireturn, 1) := by decide +kernel
theorem dX9_program_118 : decode cX9_program 118 = .ok (.aload_n 0, 1) := by decide +kernel
theorem dX9_program_119 : decode cX9_program 119 = .ok (.iload_n 1, 1) := by decide +kernel
theorem dX9_program_120 : decode cX9_program 120 = .ok (.bipush 6, 2) := by decide +kernel
theorem dX9_program_122 : decode cX9_program 122 = .ok (.invokevirtual 203, 3) := by decide +kernel
theorem dX9_program_125 : decode cX9_program 125 = .ok (.ireturn, 1) := by decide +kernel
theorem dX9_program_126 : decode cX9_program 126 = .ok (.aload_n 0, 1) := by decide +kernel
theorem dX9_program_127 : decode cX9_program 127 = .ok (.iload_n 1, 1) := by decide +kernel
theorem dX9_program_128 : decode cX9_program 128 = .ok (.invokevirtual 228, 3) := by decide +kernel
theorem dX9_program_131 : decode cX9_program 131 = .ok (.ifCond .eq 7, 3) := by decide +kernel
theorem dX9_program_134 : decode cX9_program 134 = .ok (.iconst 1, 1) := by decide +kernel
theorem dX9_program_135 : decode cX9_program 135 = .ok (.goto 4, 3) := by decide +kernel
theorem dX9_program_138 : decode cX9_program 138 = .ok (.iconst 0, 1) := by decide +kernel
theorem dX9_program_139 : decode cX9_program 139 = .ok (.ireturn, 1) := by decide +kernel
theorem dX9_told_0 : decode cX9_told 0 = .ok (.aload_n 0, 1) := by decide +kernel
theorem dX9_told_1 : decode cX9_told 1 = .ok (.iload_n 1, 1) := by decide +kernel
theorem dX9_told_2 : decode cX9_told 2 = .ok (.invokevirtual 291, 3) := by decide +kernel
theorem dX9_told_5 : decode cX9_told 5 = .ok (.ifCond .ne 26, 3) := by decide +kernel
theorem dX9_told_8 : decode cX9_told 8 = .ok (.aload_n 0, 1) := by decide +kernel
theorem dX9_told_9 : decode cX9_told 9 = .ok (.iload_n 2, 1) := by decide +kernel
theorem dX9_told_10 : decode cX9_told 10 = .ok (.iconst 0, 1) := by decide +kernel
theorem dX9_told_11 : decode cX9_told 11 = .ok (.bipush 7, 2) := by decide +kernel
theorem dX9_told_13 : decode cX9_told 13 = .ok (.invokestatic 89, 3) := by decide +kernel
theorem dX9_told_16 : decode cX9_told 16 = .ok (.ifCond .ne 7, 3) := by decide +kernel
theorem dX9_told_19 : decode cX9_told 19 = .ok (.iconst 1, 1) := by decide +kernel
theorem dX9_told_20 : decode cX9_told 20 = .ok (.goto 4, 3) := by decide +kernel
theorem dX9_told_23 : decode cX9_told 23 = .ok (.iconst 0, 1) := by decide +kernel
theorem dX9_told_24 : decode cX9_told 24 = .ok (.iconst 2, 1) := by decide +kernel
theorem dX9_told_25 : decode cX9_told 25 = .ok (.invokevirtual 185, 3) := by decide +kernel
theorem dX9_told_28 : decode cX9_told 28 = .ok (.ifCond .eq 7, 3) := by decide +kernel
theorem dX9_told_31 : decode cX9_told 31 = .ok (.iconst 0, 1) := by decide +kernel
theorem dX9_told_32 : decode cX9_told 32 = .ok (.goto 9, 3) := by decide +kernel
theorem dX9_told_35 : decode cX9_told 35 = .ok (.aload_n 0, 1) := by decide +kernel
theorem dX9_told_36 : decode cX9_told 36 = .ok (.iload_n 1, 1) := by decide +kernel
theorem dX9_told_37 : decode cX9_told 37 = .ok (.iload_n 2, 1) := by decide +kernel
theorem dX9_told_38 : decode cX9_told 38 = .ok (.invokevirtual 207, 3) := by decide +kernel
theorem dX9_told_41 : decode cX9_told 41 = .ok (.ireturn, 1) := by decide +kernel
theorem dX9_picture_0 : decode cX9_picture 0 = .ok (.aload_n 0, 1) := by decide +kernel
theorem dX9_picture_1 : decode cX9_picture 1 = .ok (.iload_n 1, 1) := by decide +kernel
theorem dX9_picture_2 : decode cX9_picture 2 = .ok (.invokevirtual 291, 3) := by decide +kernel
theorem dX9_picture_5 : decode cX9_picture 5 = .ok (.ifCond .eq 7, 3) := by decide +kernel
theorem dX9_picture_8 : decode cX9_picture 8 = .ok (.iconst 0, 1) := by decide +kernel
theorem dX9_picture_9 : decode cX9_picture 9 = .ok (.goto 9, 3) := by decide +kernel
theorem dX9_picture_12 : decode cX9_picture 12 = .ok (.aload_n 0, 1) := by decide +kernel
theorem dX9_picture_13 : decode cX9_picture 13 = .ok (.iload_n 1, 1) := by decide +kernel
theorem dX9_picture_14 : decode cX9_picture 14 = .ok (.iconst 3, 1) := by decide +kernel
theorem dX9_picture_15 : decode cX9_picture 15 = .ok (.invokevirtual 203, 3) := by decide +kernel
theorem dX9_picture_18 : decode cX9_picture 18 = .ok (.ireturn, 1) := by decide +kernel
theorem dX9_notice_0 : decode cX9_notice 0 = .ok (.aload_n 0, 1) := by decide +kernel
theorem dX9_notice_1 : decode cX9_notice 1 = .ok (.iload_n 1, 1) := by decide +kernel
theorem dX9_notice_2 : decode cX9_notice 2 = .ok (.invokevirtual 291, 3) := by decide +kernel
theorem dX9_notice_5 : decode cX9_notice 5 = .ok (.ifCond .eq 5, 3) := by decide +kernel
theorem dX9_notice_8 : decode cX9_notice 8 = .ok (.iconst 0, 1) := by decide +kernel
theorem dX9_notice_9 : decode cX9_notice 9 = .ok (.ireturn, 1) := by decide +kernel
theorem dX9_notice_10 : decode cX9_notice 10 = .ok (.iload_n 2, 1) := by decide +kernel
theorem dX9_notice_11 : decode cX9_notice 11 = .ok (.iconst 0, 1) := by decide +kernel
theorem dX9_notice_12 : decode cX9_notice 12 = .ok (.aload_n 0, 1) := by decide +kernel
theorem dX9_notice_13 : decode cX9_notice 13 = .ok (.iload_n 1, 1) := by decide +kernel
theorem dX9_notice_14 : decode cX9_notice 14 = .ok (.bipush 15, 2) := by decide +kernel
theorem dX9_notice_16 : decode cX9_notice 16 = .ok (.invokevirtual 203, 3) := by decide +kernel
theorem dX9_notice_19 : decode cX9_notice 19 = .ok (.iconst 1, 1) := by decide +kernel
theorem dX9_notice_20 : decode cX9_notice 20 = .ok (.isub, 1) := by decide +kernel
theorem dX9_notice_21 : decode cX9_notice 21 = .ok (.invokestatic 89, 3) := by decide +kernel
theorem dX9_notice_24 : decode cX9_notice 24 = .ok (.ifCond .eq 20, 3) := by decide +kernel
theorem dX9_notice_27 : decode cX9_notice 27 = .ok (.aload_n 0, 1) := by decide +kernel
theorem dX9_notice_28 : decode cX9_notice 28 = .ok (.getfield 20, 3) := by decide +kernel
theorem dX9_notice_31 : decode cX9_notice 31 = .ok (.sipush 388, 3) := by decide +kernel
theorem dX9_notice_34 : decode cX9_notice 34 = .ok (.iconst 5, 1) := by decide +kernel
theorem dX9_notice_35 : decode cX9_notice 35 = .ok (.iload_n 1, 1) := by decide +kernel
theorem dX9_notice_36 : decode cX9_notice 36 = .ok (.imul, 1) := by decide +kernel
theorem dX9_notice_37 : decode cX9_notice 37 = .ok (.iadd, 1) := by decide +kernel
theorem dX9_notice_38 : decode cX9_notice 38 = .ok (.iload_n 2, 1) := by decide +kernel
theorem dX9_notice_39 : decode cX9_notice 39 = .ok (.iadd, 1) := by decide +kernel
theorem dX9_notice_40 : decode cX9_notice 40 = .ok (.iaload, 1) := by decide +kernel
theorem dX9_notice_41 : decode cX9_notice 41 = .ok (.goto 4, 3) := by decide +kernel
theorem dX9_notice_44 : decode cX9_notice 44 = .ok (.iconst (-1), 1) := by decide +kernel
theorem dX9_notice_45 : decode cX9_notice 45 = .ok (.ireturn, 1) := by decide +kernel
theorem dX9_habit_0 : decode cX9_habit 0 = .ok (.aload_n 0, 1) := by decide +kernel
theorem dX9_habit_1 : decode cX9_habit 1 = .ok (.iload_n 1, 1) := by decide +kernel
theorem dX9_habit_2 : decode cX9_habit 2 = .ok (.invokevirtual 291, 3) := by decide +kernel
theorem dX9_habit_5 : decode cX9_habit 5 = .ok (.ifCond .eq 7, 3) := by decide +kernel
theorem dX9_habit_8 : decode cX9_habit 8 = .ok (.iconst 0, 1) := by decide +kernel
theorem dX9_habit_9 : decode cX9_habit 9 = .ok (.goto 8, 3) := by decide +kernel
theorem dX9_habit_12 : decode cX9_habit 12 = .ok (.aload_n 0, 1) := by decide +kernel
theorem dX9_habit_13 : decode cX9_habit 13 = .ok (.iload_n 1, 1) := by decide +kernel
theorem dX9_habit_14 : decode cX9_habit 14 = .ok (.invokevirtual 219, 3) := by decide +kernel
theorem dX9_habit_17 : decode cX9_habit 17 = .ok (.ireturn, 1) := by decide +kernel
theorem dX9_promise_0 : decode cX9_promise 0 = .ok (.aload_n 0, 1) := by decide +kernel
theorem dX9_promise_1 : decode cX9_promise 1 = .ok (.iload_n 1, 1) := by decide +kernel
theorem dX9_promise_2 : decode cX9_promise 2 = .ok (.invokevirtual 291, 3) := by decide +kernel
theorem dX9_promise_5 : decode cX9_promise 5 = .ok (.ifCond .eq 7, 3) := by decide +kernel
theorem dX9_promise_8 : decode cX9_promise 8 = .ok (.iconst 0, 1) := by decide +kernel
theorem dX9_promise_9 : decode cX9_promise 9 = .ok (.goto 8, 3) := by decide +kernel
theorem dX9_promise_12 : decode cX9_promise 12 = .ok (.aload_n 0, 1) := by decide +kernel
theorem dX9_promise_13 : decode cX9_promise 13 = .ok (.iload_n 1, 1) := by decide +kernel
theorem dX9_promise_14 : decode cX9_promise 14 = .ok (.invokevirtual 225, 3) := by decide +kernel
theorem dX9_promise_17 : decode cX9_promise 17 = .ok (.ireturn, 1) := by decide +kernel
theorem dX9_followed_0 : decode cX9_followed 0 = .ok (.aload_n 0, 1) := by decide +kernel
theorem dX9_followed_1 : decode cX9_followed 1 = .ok (.iload_n 1, 1) := by decide +kernel
theorem dX9_followed_2 : decode cX9_followed 2 = .ok (.invokevirtual 291, 3) := by decide +kernel
theorem dX9_followed_5 : decode cX9_followed 5 = .ok (.ifCond .ne 15, 3) := by decide +kernel
theorem dX9_followed_8 : decode cX9_followed 8 = .ok (.aload_n 0, 1) := by decide +kernel
theorem dX9_followed_9 : decode cX9_followed 9 = .ok (.iload_n 2, 1) := by decide +kernel
theorem dX9_followed_10 : decode cX9_followed 10 = .ok (.aload_n 0, 1) := by decide +kernel
theorem dX9_followed_11 : decode cX9_followed 11 = .ok (.getfield 197, 3) := by decide +kernel
theorem dX9_followed_14 : decode cX9_followed 14 = .ok (.invokevirtual 288, 3) := by decide +kernel
theorem dX9_followed_17 : decode cX9_followed 17 = .ok (.ifCond .eq 7, 3) := by decide +kernel
theorem dX9_followed_20 : decode cX9_followed 20 = .ok (.iconst 0, 1) := by decide +kernel
theorem dX9_followed_21 : decode cX9_followed 21 = .ok (.goto 9, 3) := by decide +kernel
theorem dX9_followed_24 : decode cX9_followed 24 = .ok (.aload_n 0, 1) := by decide +kernel
theorem dX9_followed_25 : decode cX9_followed 25 = .ok (.iload_n 1, 1) := by decide +kernel
theorem dX9_followed_26 : decode cX9_followed 26 = .ok (.iload_n 2, 1) := by decide +kernel
theorem dX9_followed_27 : decode cX9_followed 27 = .ok (.invokevirtual 213, 3) := by decide +kernel
theorem dX9_followed_30 : decode cX9_followed 30 = .ok (.ireturn, 1) := by decide +kernel
theorem dX9_likeliest_0 : decode cX9_likeliest 0 = .ok (.aload_n 0, 1) := by decide +kernel
theorem dX9_likeliest_1 : decode cX9_likeliest 1 = .ok (.iload_n 1, 1) := by decide +kernel
theorem dX9_likeliest_2 : decode cX9_likeliest 2 = .ok (.invokevirtual 291, 3) := by decide +kernel
theorem dX9_likeliest_5 : decode cX9_likeliest 5 = .ok (.ifCond .eq 5, 3) := by decide +kernel
theorem dX9_likeliest_8 : decode cX9_likeliest 8 = .ok (.iconst 0, 1) := by decide +kernel
theorem dX9_likeliest_9 : decode cX9_likeliest 9 = .ok (.ireturn, 1) := by decide +kernel
theorem dX9_likeliest_10 : decode cX9_likeliest 10 = .ok (.iconst (-1), 1) := by decide +kernel
theorem dX9_likeliest_11 : decode cX9_likeliest 11 = .ok (.istore_n 2, 1) := by decide +kernel
theorem dX9_likeliest_12 : decode cX9_likeliest 12 = .ok (.iconst 0, 1) := by decide +kernel
theorem dX9_likeliest_13 : decode cX9_likeliest 13 = .ok (.istore_n 3, 1) := by decide +kernel
theorem dX9_likeliest_14 : decode cX9_likeliest 14 = .ok (.iload_n 3, 1) := by decide +kernel
theorem dX9_likeliest_15 : decode cX9_likeliest 15 = .ok (.aload_n 0, 1) := by decide +kernel
theorem dX9_likeliest_16 : decode cX9_likeliest 16 = .ok (.getfield 197, 3) := by decide +kernel
theorem dX9_likeliest_19 : decode cX9_likeliest 19 = .ok (.if_icmp .ge 43, 3) := by decide +kernel
theorem dX9_likeliest_22 : decode cX9_likeliest 22 = .ok (.iload_n 2, 1) := by decide +kernel
theorem dX9_likeliest_23 : decode cX9_likeliest 23 = .ok (.iconst (-1), 1) := by decide +kernel
theorem dX9_likeliest_24 : decode cX9_likeliest 24 = .ok (.if_icmp .ne 7, 3) := by decide +kernel
theorem dX9_likeliest_27 : decode cX9_likeliest 27 = .ok (.iconst 0, 1) := by decide +kernel
theorem dX9_likeliest_28 : decode cX9_likeliest 28 = .ok (.goto 9, 3) := by decide +kernel
theorem dX9_likeliest_31 : decode cX9_likeliest 31 = .ok (.aload_n 0, 1) := by decide +kernel
theorem dX9_likeliest_32 : decode cX9_likeliest 32 = .ok (.iload_n 1, 1) := by decide +kernel
theorem dX9_likeliest_33 : decode cX9_likeliest 33 = .ok (.iload_n 2, 1) := by decide +kernel
theorem dX9_likeliest_34 : decode cX9_likeliest 34 = .ok (.invokevirtual 213, 3) := by decide +kernel
theorem dX9_likeliest_37 : decode cX9_likeliest 37 = .ok (.istore 4, 2) := by decide +kernel
theorem dX9_likeliest_39 : decode cX9_likeliest 39 = .ok (.aload_n 0, 1) := by decide +kernel
theorem dX9_likeliest_40 : decode cX9_likeliest 40 = .ok (.iload_n 1, 1) := by decide +kernel
theorem dX9_likeliest_41 : decode cX9_likeliest 41 = .ok (.iload_n 3, 1) := by decide +kernel
theorem dX9_likeliest_42 : decode cX9_likeliest 42 = .ok (.invokevirtual 213, 3) := by decide +kernel
theorem dX9_likeliest_45 : decode cX9_likeliest 45 = .ok (.iload 4, 2) := by decide +kernel
theorem dX9_likeliest_47 : decode cX9_likeliest 47 = .ok (.if_icmp .le 7, 3) := by decide +kernel
theorem dX9_likeliest_50 : decode cX9_likeliest 50 = .ok (.iload_n 3, 1) := by decide +kernel
theorem dX9_likeliest_51 : decode cX9_likeliest 51 = .ok (.goto 4, 3) := by decide +kernel
theorem dX9_likeliest_54 : decode cX9_likeliest 54 = .ok (.iload_n 2, 1) := by decide +kernel
theorem dX9_likeliest_55 : decode cX9_likeliest 55 = .ok (.istore_n 2, 1) := by decide +kernel
theorem dX9_likeliest_56 : decode cX9_likeliest 56 = .ok (.iinc 3 1, 3) := by decide +kernel
theorem dX9_likeliest_59 : decode cX9_likeliest 59 = .ok (.goto (-45), 3) := by decide +kernel
theorem dX9_likeliest_62 : decode cX9_likeliest 62 = .ok (.iload_n 2, 1) := by decide +kernel
theorem dX9_likeliest_63 : decode cX9_likeliest 63 = .ok (.ireturn, 1) := by decide +kernel
theorem dX9_noKind_0 : decode cX9_noKind 0 = .ok (.aload_n 0, 1) := by decide +kernel
theorem dX9_noKind_1 : decode cX9_noKind 1 = .ok (.iconst 0, 1) := by decide +kernel
theorem dX9_noKind_2 : decode cX9_noKind 2 = .ok (.putfield 65, 3) := by decide +kernel
theorem dX9_noKind_5 : decode cX9_noKind 5 = .ok (.aload_n 0, 1) := by decide +kernel
theorem dX9_noKind_6 : decode cX9_noKind 6 = .ok (.iload_n 1, 1) := by decide +kernel
theorem dX9_noKind_7 : decode cX9_noKind 7 = .ok (.iconst 1, 1) := by decide +kernel
theorem dX9_noKind_8 : decode cX9_noKind 8 = .ok (.iload_n 2, 1) := by decide +kernel
theorem dX9_noKind_9 : decode cX9_noKind 9 = .ok (.invokestatic 89, 3) := by decide +kernel
theorem dX9_noKind_12 : decode cX9_noKind 12 = .ok (.ifCond .ne 7, 3) := by decide +kernel
theorem dX9_noKind_15 : decode cX9_noKind 15 = .ok (.iconst 1, 1) := by decide +kernel
theorem dX9_noKind_16 : decode cX9_noKind 16 = .ok (.goto 4, 3) := by decide +kernel
theorem dX9_noKind_19 : decode cX9_noKind 19 = .ok (.iconst 0, 1) := by decide +kernel
theorem dX9_noKind_20 : decode cX9_noKind 20 = .ok (.iconst 1, 1) := by decide +kernel
theorem dX9_noKind_21 : decode cX9_noKind 21 = .ok (.invokevirtual 185, 3) := by decide +kernel
theorem dX9_noKind_24 : decode cX9_noKind 24 = .ok (.ireturn, 1) := by decide +kernel
theorem dX9_victim_0 : decode cX9_victim 0 = .ok (.aload_n 0, 1) := by decide +kernel
theorem dX9_victim_1 : decode cX9_victim 1 = .ok (.iload_n 1, 1) := by decide +kernel
theorem dX9_victim_2 : decode cX9_victim 2 = .ok (.bipush 6, 2) := by decide +kernel
theorem dX9_victim_4 : decode cX9_victim 4 = .ok (.invokevirtual 294, 3) := by decide +kernel
theorem dX9_victim_7 : decode cX9_victim 7 = .ok (.ifCond .eq 7, 3) := by decide +kernel
theorem dX9_victim_10 : decode cX9_victim 10 = .ok (.iconst 0, 1) := by decide +kernel
theorem dX9_victim_11 : decode cX9_victim 11 = .ok (.goto 8, 3) := by decide +kernel
theorem dX9_victim_14 : decode cX9_victim 14 = .ok (.aload_n 0, 1) := by decide +kernel
theorem dX9_victim_15 : decode cX9_victim 15 = .ok (.iload_n 1, 1) := by decide +kernel
theorem dX9_victim_16 : decode cX9_victim 16 = .ok (.invokevirtual 254, 3) := by decide +kernel
theorem dX9_victim_19 : decode cX9_victim 19 = .ok (.ireturn, 1) := by decide +kernel
theorem dX9_freed_0 : decode cX9_freed 0 = .ok (.aload_n 0, 1) := by decide +kernel
theorem dX9_freed_1 : decode cX9_freed 1 = .ok (.iload_n 1, 1) := by decide +kernel
theorem dX9_freed_2 : decode cX9_freed 2 = .ok (.bipush 6, 2) := by decide +kernel
theorem dX9_freed_4 : decode cX9_freed 4 = .ok (.invokevirtual 294, 3) := by decide +kernel
theorem dX9_freed_7 : decode cX9_freed 7 = .ok (.ifCond .ne 12, 3) := by decide +kernel
theorem dX9_freed_10 : decode cX9_freed 10 = .ok (.aload_n 0, 1) := by decide +kernel
theorem dX9_freed_11 : decode cX9_freed 11 = .ok (.iload_n 1, 1) := by decide +kernel
theorem dX9_freed_12 : decode cX9_freed 12 = .ok (.invokevirtual 254, 3) := by decide +kernel
theorem dX9_freed_15 : decode cX9_freed 15 = .ok (.iconst (-1), 1) := by decide +kernel
theorem dX9_freed_16 : decode cX9_freed 16 = .ok (.if_icmp .ne 5, 3) := by decide +kernel
theorem dX9_freed_19 : decode cX9_freed 19 = .ok (.iconst 0, 1) := by decide +kernel
theorem dX9_freed_20 : decode cX9_freed 20 = .ok (.ireturn, 1) := by decide +kernel
theorem dX9_freed_21 : decode cX9_freed 21 = .ok (.aload_n 0, 1) := by decide +kernel
theorem dX9_freed_22 : decode cX9_freed 22 = .ok (.invokevirtual 251, 3) := by decide +kernel
theorem dX9_freed_25 : decode cX9_freed 25 = .ok (.istore_n 2, 1) := by decide +kernel
theorem dX9_freed_26 : decode cX9_freed 26 = .ok (.aload_n 0, 1) := by decide +kernel
theorem dX9_freed_27 : decode cX9_freed 27 = .ok (.getfield 20, 3) := by decide +kernel
theorem dX9_freed_30 : decode cX9_freed 30 = .ok (.aload_n 0, 1) := by decide +kernel
theorem dX9_freed_31 : decode cX9_freed 31 = .ok (.getfield 43, 3) := by decide +kernel
theorem dX9_freed_34 : decode cX9_freed 34 = .ok (.invokestatic 269, 3) := by decide +kernel
theorem dX9_freed_37 : decode cX9_freed 37 = .ok (.aload_n 0, 1) := by decide +kernel
theorem dX9_freed_38 : decode cX9_freed 38 = .ok (.aload_n 0, 1) := by decide +kernel
theorem dX9_freed_39 : decode cX9_freed 39 = .ok (.iload_n 1, 1) := by decide +kernel
theorem dX9_freed_40 : decode cX9_freed 40 = .ok (.invokevirtual 254, 3) := by decide +kernel
theorem dX9_freed_43 : decode cX9_freed 43 = .ok (.iload_n 1, 1) := by decide +kernel
theorem dX9_freed_44 : decode cX9_freed 44 = .ok (.invokevirtual 257, 3) := by decide +kernel
theorem dX9_freed_47 : decode cX9_freed 47 = .ok (.iload_n 2, 1) := by decide +kernel
theorem dX9_freed_48 : decode cX9_freed 48 = .ok (.aload_n 0, 1) := by decide +kernel
theorem dX9_freed_49 : decode cX9_freed 49 = .ok (.invokevirtual 251, 3) := by decide +kernel
theorem dX9_freed_52 : decode cX9_freed 52 = .ok (.isub, 1) := by decide +kernel
theorem dX9_freed_53 : decode cX9_freed 53 = .ok (.istore_n 3, 1) := by decide +kernel
theorem dX9_freed_54 : decode cX9_freed 54 = .ok (.aload_n 0, 1) := by decide +kernel
theorem dX9_freed_55 : decode cX9_freed 55 = .ok (.getfield 43, 3) := by decide +kernel
theorem dX9_freed_58 : decode cX9_freed 58 = .ok (.aload_n 0, 1) := by decide +kernel
theorem dX9_freed_59 : decode cX9_freed 59 = .ok (.getfield 20, 3) := by decide +kernel
theorem dX9_freed_62 : decode cX9_freed 62 = .ok (.invokestatic 269, 3) := by decide +kernel
theorem dX9_freed_65 : decode cX9_freed 65 = .ok (.iload_n 3, 1) := by decide +kernel
theorem dX9_freed_66 : decode cX9_freed 66 = .ok (.ireturn, 1) := by decide +kernel
theorem dX9_waitOf_0 : decode cX9_waitOf 0 = .ok (.aload_n 0, 1) := by decide +kernel
theorem dX9_waitOf_1 : decode cX9_waitOf 1 = .ok (.iload_n 1, 1) := by decide +kernel
theorem dX9_waitOf_2 : decode cX9_waitOf 2 = .ok (.invokevirtual 291, 3) := by decide +kernel
theorem dX9_waitOf_5 : decode cX9_waitOf 5 = .ok (.ifCond .eq 7, 3) := by decide +kernel
theorem dX9_waitOf_8 : decode cX9_waitOf 8 = .ok (.iconst 0, 1) := by decide +kernel
theorem dX9_waitOf_9 : decode cX9_waitOf 9 = .ok (.goto 8, 3) := by decide +kernel
theorem dX9_waitOf_12 : decode cX9_waitOf 12 = .ok (.aload_n 0, 1) := by decide +kernel
theorem dX9_waitOf_13 : decode cX9_waitOf 13 = .ok (.iload_n 1, 1) := by decide +kernel
theorem dX9_waitOf_14 : decode cX9_waitOf 14 = .ok (.invokevirtual 266, 3) := by decide +kernel
theorem dX9_waitOf_17 : decode cX9_waitOf 17 = .ok (.ireturn, 1) := by decide +kernel
theorem dX9_pagesShown_0 : decode cX9_pagesShown 0 = .ok (.aload_n 0, 1) := by decide +kernel
theorem dX9_pagesShown_1 : decode cX9_pagesShown 1 = .ok (.iload_n 1, 1) := by decide +kernel
theorem dX9_pagesShown_2 : decode cX9_pagesShown 2 = .ok (.iconst 0, 1) := by decide +kernel
theorem dX9_pagesShown_3 : decode cX9_pagesShown 3 = .ok (.invokevirtual 203, 3) := by decide +kernel
theorem dX9_pagesShown_6 : decode cX9_pagesShown 6 = .ok (.istore_n 2, 1) := by decide +kernel
theorem dX9_pagesShown_7 : decode cX9_pagesShown 7 = .ok (.iload_n 2, 1) := by decide +kernel
theorem dX9_pagesShown_8 : decode cX9_pagesShown 8 = .ok (.ifCond .eq 8, 3) := by decide +kernel
theorem dX9_pagesShown_11 : decode cX9_pagesShown 11 = .ok (.iload_n 2, 1) := by decide +kernel
theorem dX9_pagesShown_12 : decode cX9_pagesShown 12 = .ok (.iconst 5, 1) := by decide +kernel
theorem dX9_pagesShown_13 : decode cX9_pagesShown 13 = .ok (.if_icmp .ne 12, 3) := by decide +kernel
theorem dX9_pagesShown_16 : decode cX9_pagesShown 16 = .ok (.aload_n 0, 1) := by decide +kernel
theorem dX9_pagesShown_17 : decode cX9_pagesShown 17 = .ok (.iload_n 1, 1) := by decide +kernel
theorem dX9_pagesShown_18 : decode cX9_pagesShown 18 = .ok (.iconst 0, 1) := by decide +kernel
theorem dX9_pagesShown_19 : decode cX9_pagesShown 19 = .ok (.invokevirtual 207, 3) := by decide +kernel
theorem dX9_pagesShown_22 : decode cX9_pagesShown 22 = .ok (.goto 9, 3) := by decide +kernel
theorem dX9_pagesShown_25 : decode cX9_pagesShown 25 = .ok (.aload_n 0, 1) := by decide +kernel
theorem dX9_pagesShown_26 : decode cX9_pagesShown 26 = .ok (.iload_n 1, 1) := by decide +kernel
theorem dX9_pagesShown_27 : decode cX9_pagesShown 27 = .ok (.iconst 1, 1) := by decide +kernel
theorem dX9_pagesShown_28 : decode cX9_pagesShown 28 = .ok (.invokevirtual 203, 3) := by decide +kernel
theorem dX9_pagesShown_31 : decode cX9_pagesShown 31 = .ok (.ireturn, 1) := by decide +kernel
theorem dX9_whyNotShow_0 : decode cX9_whyNotShow 0 = .ok (.aload_n 0, 1) := by decide +kernel
theorem dX9_whyNotShow_1 : decode cX9_whyNotShow 1 = .ok (.iload_n 1, 1) := by decide +kernel
theorem dX9_whyNotShow_2 : decode cX9_whyNotShow 2 = .ok (.invokevirtual 291, 3) := by decide +kernel
theorem dX9_whyNotShow_5 : decode cX9_whyNotShow 5 = .ok (.ifCond .ne 13, 3) := by decide +kernel
theorem dX9_whyNotShow_8 : decode cX9_whyNotShow 8 = .ok (.aload_n 0, 1) := by decide +kernel
theorem dX9_whyNotShow_9 : decode cX9_whyNotShow 9 = .ok (.iload_n 1, 1) := by decide +kernel
theorem dX9_whyNotShow_10 : decode cX9_whyNotShow 10 = .ok (.iconst 0, 1) := by decide +kernel
theorem dX9_whyNotShow_11 : decode cX9_whyNotShow 11 = .ok (.invokevirtual 203, 3) := by decide +kernel
theorem dX9_whyNotShow_14 : decode cX9_whyNotShow 14 = .ok (.iconst 1, 1) := by decide +kernel
theorem dX9_whyNotShow_15 : decode cX9_whyNotShow 15 = .ok (.if_icmp .ne 5, 3) := by decide +kernel
theorem dX9_whyNotShow_18 : decode cX9_whyNotShow 18 = .ok (.iconst 0, 1) := by decide +kernel
theorem dX9_whyNotShow_19 : decode cX9_whyNotShow 19 = .ok (.ireturn, 1) := by decide +kernel
theorem dX9_whyNotShow_20 : decode cX9_whyNotShow 20 = .ok (.aload_n 0, 1) := by decide +kernel
theorem dX9_whyNotShow_21 : decode cX9_whyNotShow 21 = .ok (.iload_n 1, 1) := by decide +kernel
theorem dX9_whyNotShow_22 : decode cX9_whyNotShow 22 = .ok (.invokevirtual 297, 3) := by decide +kernel
theorem dX9_whyNotShow_25 : decode cX9_whyNotShow 25 = .ok (.aload_n 0, 1) := by decide +kernel
theorem dX9_whyNotShow_26 : decode cX9_whyNotShow 26 = .ok (.getfield 20, 3) := by decide +kernel
theorem dX9_whyNotShow_29 : decode cX9_whyNotShow 29 = .ok (.iconst 0, 1) := by decide +kernel
theorem dX9_whyNotShow_30 : decode cX9_whyNotShow 30 = .ok (.iaload, 1) := by decide +kernel
theorem dX9_whyNotShow_31 : decode cX9_whyNotShow 31 = .ok (.if_icmp .le 5, 3) := by decide +kernel
theorem dX9_whyNotShow_34 : decode cX9_whyNotShow 34 = .ok (.iconst 1, 1) := by decide +kernel
theorem dX9_whyNotShow_35 : decode cX9_whyNotShow 35 = .ok (.ireturn, 1) := by decide +kernel
theorem dX9_whyNotShow_36 : decode cX9_whyNotShow 36 = .ok (.aload_n 0, 1) := by decide +kernel
theorem dX9_whyNotShow_37 : decode cX9_whyNotShow 37 = .ok (.getfield 20, 3) := by decide +kernel
theorem dX9_whyNotShow_40 : decode cX9_whyNotShow 40 = .ok (.aload_n 0, 1) := by decide +kernel
theorem dX9_whyNotShow_41 : decode cX9_whyNotShow 41 = .ok (.getfield 43, 3) := by decide +kernel
theorem dX9_whyNotShow_44 : decode cX9_whyNotShow 44 = .ok (.invokestatic 269, 3) := by decide +kernel
theorem dX9_whyNotShow_47 : decode cX9_whyNotShow 47 = .ok (.aload_n 0, 1) := by decide +kernel
theorem dX9_whyNotShow_48 : decode cX9_whyNotShow 48 = .ok (.iload_n 1, 1) := by decide +kernel
theorem dX9_whyNotShow_49 : decode cX9_whyNotShow 49 = .ok (.invokevirtual 300, 3) := by decide +kernel
theorem dX9_whyNotShow_52 : decode cX9_whyNotShow 52 = .ok (.istore_n 2, 1) := by decide +kernel
theorem dX9_whyNotShow_53 : decode cX9_whyNotShow 53 = .ok (.aload_n 0, 1) := by decide +kernel
theorem dX9_whyNotShow_54 : decode cX9_whyNotShow 54 = .ok (.getfield 43, 3) := by decide +kernel
theorem dX9_whyNotShow_57 : decode cX9_whyNotShow 57 = .ok (.aload_n 0, 1) := by decide +kernel
theorem dX9_whyNotShow_58 : decode cX9_whyNotShow 58 = .ok (.getfield 20, 3) := by decide +kernel
theorem dX9_whyNotShow_61 : decode cX9_whyNotShow 61 = .ok (.invokestatic 269, 3) := by decide +kernel
theorem dX9_whyNotShow_64 : decode cX9_whyNotShow 64 = .ok (.iload_n 2, 1) := by decide +kernel
theorem dX9_whyNotShow_65 : decode cX9_whyNotShow 65 = .ok (.iconst (-1), 1) := by decide +kernel
theorem dX9_whyNotShow_66 : decode cX9_whyNotShow 66 = .ok (.if_icmp .ne 7, 3) := by decide +kernel
theorem dX9_whyNotShow_69 : decode cX9_whyNotShow 69 = .ok (.iconst 2, 1) := by decide +kernel
theorem dX9_whyNotShow_70 : decode cX9_whyNotShow 70 = .ok (.goto 4, 3) := by decide +kernel
theorem dX9_whyNotShow_73 : decode cX9_whyNotShow 73 = .ok (.iconst 0, 1) := by decide +kernel
theorem dX9_whyNotShow_74 : decode cX9_whyNotShow 74 = .ok (.ireturn, 1) := by decide +kernel
theorem dX9_trimsFor_0 : decode cX9_trimsFor 0 = .ok (.aload_n 0, 1) := by decide +kernel
theorem dX9_trimsFor_1 : decode cX9_trimsFor 1 = .ok (.iload_n 1, 1) := by decide +kernel
theorem dX9_trimsFor_2 : decode cX9_trimsFor 2 = .ok (.invokevirtual 291, 3) := by decide +kernel
theorem dX9_trimsFor_5 : decode cX9_trimsFor 5 = .ok (.ifCond .eq 5, 3) := by decide +kernel
theorem dX9_trimsFor_8 : decode cX9_trimsFor 8 = .ok (.iconst 0, 1) := by decide +kernel
theorem dX9_trimsFor_9 : decode cX9_trimsFor 9 = .ok (.ireturn, 1) := by decide +kernel
theorem dX9_trimsFor_10 : decode cX9_trimsFor 10 = .ok (.aload_n 0, 1) := by decide +kernel
theorem dX9_trimsFor_11 : decode cX9_trimsFor 11 = .ok (.getfield 20, 3) := by decide +kernel
theorem dX9_trimsFor_14 : decode cX9_trimsFor 14 = .ok (.aload_n 0, 1) := by decide +kernel
theorem dX9_trimsFor_15 : decode cX9_trimsFor 15 = .ok (.getfield 43, 3) := by decide +kernel
theorem dX9_trimsFor_18 : decode cX9_trimsFor 18 = .ok (.invokestatic 269, 3) := by decide +kernel
theorem dX9_trimsFor_21 : decode cX9_trimsFor 21 = .ok (.aload_n 0, 1) := by decide +kernel
theorem dX9_trimsFor_22 : decode cX9_trimsFor 22 = .ok (.iload_n 1, 1) := by decide +kernel
theorem dX9_trimsFor_23 : decode cX9_trimsFor 23 = .ok (.invokevirtual 300, 3) := by decide +kernel
theorem dX9_trimsFor_26 : decode cX9_trimsFor 26 = .ok (.istore_n 2, 1) := by decide +kernel
theorem dX9_trimsFor_27 : decode cX9_trimsFor 27 = .ok (.aload_n 0, 1) := by decide +kernel
theorem dX9_trimsFor_28 : decode cX9_trimsFor 28 = .ok (.getfield 43, 3) := by decide +kernel
theorem dX9_trimsFor_31 : decode cX9_trimsFor 31 = .ok (.aload_n 0, 1) := by decide +kernel
theorem dX9_trimsFor_32 : decode cX9_trimsFor 32 = .ok (.getfield 20, 3) := by decide +kernel
theorem dX9_trimsFor_35 : decode cX9_trimsFor 35 = .ok (.invokestatic 269, 3) := by decide +kernel
theorem dX9_trimsFor_38 : decode cX9_trimsFor 38 = .ok (.iload_n 2, 1) := by decide +kernel
theorem dX9_trimsFor_39 : decode cX9_trimsFor 39 = .ok (.iconst (-1), 1) := by decide +kernel
theorem dX9_trimsFor_40 : decode cX9_trimsFor 40 = .ok (.if_icmp .ne 7, 3) := by decide +kernel
theorem dX9_trimsFor_43 : decode cX9_trimsFor 43 = .ok (.iconst (-1), 1) := by decide +kernel
theorem dX9_trimsFor_44 : decode cX9_trimsFor 44 = .ok (.goto 7, 3) := by decide +kernel
theorem dX9_trimsFor_47 : decode cX9_trimsFor 47 = .ok (.aload_n 0, 1) := by decide +kernel
theorem dX9_trimsFor_48 : decode cX9_trimsFor 48 = .ok (.getfield 263, 3) := by decide +kernel
theorem dX9_trimsFor_51 : decode cX9_trimsFor 51 = .ok (.ireturn, 1) := by decide +kernel
theorem dX9_stateAfter_0 : decode cX9_stateAfter 0 = .ok (.aload_n 0, 1) := by decide +kernel
theorem dX9_stateAfter_1 : decode cX9_stateAfter 1 = .ok (.iload_n 1, 1) := by decide +kernel
theorem dX9_stateAfter_2 : decode cX9_stateAfter 2 = .ok (.invokevirtual 291, 3) := by decide +kernel
theorem dX9_stateAfter_5 : decode cX9_stateAfter 5 = .ok (.ifCond .ne 15, 3) := by decide +kernel
theorem dX9_stateAfter_8 : decode cX9_stateAfter 8 = .ok (.aload_n 0, 1) := by decide +kernel
theorem dX9_stateAfter_9 : decode cX9_stateAfter 9 = .ok (.iload_n 2, 1) := by decide +kernel
theorem dX9_stateAfter_10 : decode cX9_stateAfter 10 = .ok (.aload_n 0, 1) := by decide +kernel
theorem dX9_stateAfter_11 : decode cX9_stateAfter 11 = .ok (.getfield 197, 3) := by decide +kernel
theorem dX9_stateAfter_14 : decode cX9_stateAfter 14 = .ok (.invokevirtual 288, 3) := by decide +kernel
theorem dX9_stateAfter_17 : decode cX9_stateAfter 17 = .ok (.ifCond .eq 5, 3) := by decide +kernel
theorem dX9_stateAfter_20 : decode cX9_stateAfter 20 = .ok (.iconst 0, 1) := by decide +kernel
theorem dX9_stateAfter_21 : decode cX9_stateAfter 21 = .ok (.ireturn, 1) := by decide +kernel
theorem dX9_stateAfter_22 : decode cX9_stateAfter 22 = .ok (.aload_n 0, 1) := by decide +kernel
theorem dX9_stateAfter_23 : decode cX9_stateAfter 23 = .ok (.getfield 20, 3) := by decide +kernel
theorem dX9_stateAfter_26 : decode cX9_stateAfter 26 = .ok (.aload_n 0, 1) := by decide +kernel
theorem dX9_stateAfter_27 : decode cX9_stateAfter 27 = .ok (.getfield 43, 3) := by decide +kernel
theorem dX9_stateAfter_30 : decode cX9_stateAfter 30 = .ok (.invokestatic 269, 3) := by decide +kernel
theorem dX9_stateAfter_33 : decode cX9_stateAfter 33 = .ok (.aload_n 0, 1) := by decide +kernel
theorem dX9_stateAfter_34 : decode cX9_stateAfter 34 = .ok (.iload_n 1, 1) := by decide +kernel
theorem dX9_stateAfter_35 : decode cX9_stateAfter 35 = .ok (.invokevirtual 300, 3) := by decide +kernel
theorem dX9_stateAfter_38 : decode cX9_stateAfter 38 = .ok (.istore_n 3, 1) := by decide +kernel
theorem dX9_stateAfter_39 : decode cX9_stateAfter 39 = .ok (.aload_n 0, 1) := by decide +kernel
theorem dX9_stateAfter_40 : decode cX9_stateAfter 40 = .ok (.iload_n 2, 1) := by decide +kernel
theorem dX9_stateAfter_41 : decode cX9_stateAfter 41 = .ok (.iconst 0, 1) := by decide +kernel
theorem dX9_stateAfter_42 : decode cX9_stateAfter 42 = .ok (.invokevirtual 203, 3) := by decide +kernel
theorem dX9_stateAfter_45 : decode cX9_stateAfter 45 = .ok (.istore 4, 2) := by decide +kernel
theorem dX9_stateAfter_47 : decode cX9_stateAfter 47 = .ok (.aload_n 0, 1) := by decide +kernel
theorem dX9_stateAfter_48 : decode cX9_stateAfter 48 = .ok (.getfield 43, 3) := by decide +kernel
theorem dX9_stateAfter_51 : decode cX9_stateAfter 51 = .ok (.aload_n 0, 1) := by decide +kernel
theorem dX9_stateAfter_52 : decode cX9_stateAfter 52 = .ok (.getfield 20, 3) := by decide +kernel
theorem dX9_stateAfter_55 : decode cX9_stateAfter 55 = .ok (.invokestatic 269, 3) := by decide +kernel
theorem dX9_stateAfter_58 : decode cX9_stateAfter 58 = .ok (.iload_n 3, 1) := by decide +kernel
theorem dX9_stateAfter_59 : decode cX9_stateAfter 59 = .ok (.iconst (-1), 1) := by decide +kernel
theorem dX9_stateAfter_60 : decode cX9_stateAfter 60 = .ok (.if_icmp .ne 7, 3) := by decide +kernel
theorem dX9_stateAfter_63 : decode cX9_stateAfter 63 = .ok (.iconst (-1), 1) := by decide +kernel
theorem dX9_stateAfter_64 : decode cX9_stateAfter 64 = .ok (.goto 5, 3) := by decide +kernel
theorem dX9_stateAfter_67 : decode cX9_stateAfter 67 = .ok (.iload 4, 2) := by decide +kernel
theorem dX9_stateAfter_69 : decode cX9_stateAfter 69 = .ok (.ireturn, 1) := by decide +kernel
theorem dX9_waitedFor_0 : decode cX9_waitedFor 0 = .ok (.aload_n 0, 1) := by decide +kernel
theorem dX9_waitedFor_1 : decode cX9_waitedFor 1 = .ok (.iload_n 1, 1) := by decide +kernel
theorem dX9_waitedFor_2 : decode cX9_waitedFor 2 = .ok (.invokevirtual 300, 3) := by decide +kernel
theorem dX9_waitedFor_5 : decode cX9_waitedFor 5 = .ok (.istore_n 2, 1) := by decide +kernel
theorem dX9_waitedFor_6 : decode cX9_waitedFor 6 = .ok (.iload_n 2, 1) := by decide +kernel
theorem dX9_waitedFor_7 : decode cX9_waitedFor 7 = .ok (.iconst (-1), 1) := by decide +kernel
theorem dX9_waitedFor_8 : decode cX9_waitedFor 8 = .ok (.if_icmp .ne 7, 3) := by decide +kernel
theorem dX9_waitedFor_11 : decode cX9_waitedFor 11 = .ok (.iconst 0, 1) := by decide +kernel
theorem dX9_waitedFor_12 : decode cX9_waitedFor 12 = .ok (.goto 4, 3) := by decide +kernel
theorem dX9_waitedFor_15 : decode cX9_waitedFor 15 = .ok (.iload_n 2, 1) := by decide +kernel
theorem dX9_waitedFor_16 : decode cX9_waitedFor 16 = .ok (.ireturn, 1) := by decide +kernel
theorem dX9_waitsFor_0 : decode cX9_waitsFor 0 = .ok (.aload_n 0, 1) := by decide +kernel
theorem dX9_waitsFor_1 : decode cX9_waitsFor 1 = .ok (.iload_n 2, 1) := by decide +kernel
theorem dX9_waitsFor_2 : decode cX9_waitsFor 2 = .ok (.invokevirtual 291, 3) := by decide +kernel
theorem dX9_waitsFor_5 : decode cX9_waitsFor 5 = .ok (.ifCond .ne 50, 3) := by decide +kernel
theorem dX9_waitsFor_8 : decode cX9_waitsFor 8 = .ok (.aload_n 0, 1) := by decide +kernel
theorem dX9_waitsFor_9 : decode cX9_waitsFor 9 = .ok (.iload_n 3, 1) := by decide +kernel
theorem dX9_waitsFor_10 : decode cX9_waitsFor 10 = .ok (.aload_n 0, 1) := by decide +kernel
theorem dX9_waitsFor_11 : decode cX9_waitsFor 11 = .ok (.getfield 197, 3) := by decide +kernel
theorem dX9_waitsFor_14 : decode cX9_waitsFor 14 = .ok (.invokevirtual 288, 3) := by decide +kernel
theorem dX9_waitsFor_17 : decode cX9_waitsFor 17 = .ok (.ifCond .ne 38, 3) := by decide +kernel
theorem dX9_waitsFor_20 : decode cX9_waitsFor 20 = .ok (.aload_n 0, 1) := by decide +kernel
theorem dX9_waitsFor_21 : decode cX9_waitsFor 21 = .ok (.iload 4, 2) := by decide +kernel
theorem dX9_waitsFor_23 : decode cX9_waitsFor 23 = .ok (.aload_n 0, 1) := by decide +kernel
theorem dX9_waitsFor_24 : decode cX9_waitsFor 24 = .ok (.getfield 197, 3) := by decide +kernel
theorem dX9_waitsFor_27 : decode cX9_waitsFor 27 = .ok (.invokevirtual 288, 3) := by decide +kernel
theorem dX9_waitsFor_30 : decode cX9_waitsFor 30 = .ok (.ifCond .ne 25, 3) := by decide +kernel
theorem dX9_waitsFor_33 : decode cX9_waitsFor 33 = .ok (.aload_n 0, 1) := by decide +kernel
theorem dX9_waitsFor_34 : decode cX9_waitsFor 34 = .ok (.iload_n 1, 1) := by decide +kernel
theorem dX9_waitsFor_35 : decode cX9_waitsFor 35 = .ok (.iconst 0, 1) := by decide +kernel
theorem dX9_waitsFor_36 : decode cX9_waitsFor 36 = .ok (.iconst 2, 1) := by decide +kernel
theorem dX9_waitsFor_37 : decode cX9_waitsFor 37 = .ok (.invokestatic 89, 3) := by decide +kernel
theorem dX9_waitsFor_40 : decode cX9_waitsFor 40 = .ok (.ifCond .ne 7, 3) := by decide +kernel
theorem dX9_waitsFor_43 : decode cX9_waitsFor 43 = .ok (.iconst 1, 1) := by decide +kernel
theorem dX9_waitsFor_44 : decode cX9_waitsFor 44 = .ok (.goto 4, 3) := by decide +kernel
theorem dX9_waitsFor_47 : decode cX9_waitsFor 47 = .ok (.iconst 0, 1) := by decide +kernel
theorem dX9_waitsFor_48 : decode cX9_waitsFor 48 = .ok (.iconst 2, 1) := by decide +kernel
theorem dX9_waitsFor_49 : decode cX9_waitsFor 49 = .ok (.invokevirtual 185, 3) := by decide +kernel
theorem dX9_waitsFor_52 : decode cX9_waitsFor 52 = .ok (.ifCond .eq 5, 3) := by decide +kernel
theorem dX9_waitsFor_55 : decode cX9_waitsFor 55 = .ok (.iconst 0, 1) := by decide +kernel
theorem dX9_waitsFor_56 : decode cX9_waitsFor 56 = .ok (.ireturn, 1) := by decide +kernel
theorem dX9_waitsFor_57 : decode cX9_waitsFor 57 = .ok (.aload_n 0, 1) := by decide +kernel
theorem dX9_waitsFor_58 : decode cX9_waitsFor 58 = .ok (.getfield 20, 3) := by decide +kernel
theorem dX9_waitsFor_61 : decode cX9_waitsFor 61 = .ok (.aload_n 0, 1) := by decide +kernel
theorem dX9_waitsFor_62 : decode cX9_waitsFor 62 = .ok (.getfield 43, 3) := by decide +kernel
theorem dX9_waitsFor_65 : decode cX9_waitsFor 65 = .ok (.invokestatic 269, 3) := by decide +kernel
theorem dX9_waitsFor_68 : decode cX9_waitsFor 68 = .ok (.aload_n 0, 1) := by decide +kernel
theorem dX9_waitsFor_69 : decode cX9_waitsFor 69 = .ok (.getfield 20, 3) := by decide +kernel
theorem dX9_waitsFor_72 : decode cX9_waitsFor 72 = .ok (.iconst 4, 1) := by decide +kernel
theorem dX9_waitsFor_73 : decode cX9_waitsFor 73 = .ok (.iload_n 1, 1) := by decide +kernel
theorem dX9_waitsFor_74 : decode cX9_waitsFor 74 = .ok (.iastore, 1) := by decide +kernel
theorem dX9_waitsFor_75 : decode cX9_waitsFor 75 = .ok (.aload_n 0, 1) := by decide +kernel
theorem dX9_waitsFor_76 : decode cX9_waitsFor 76 = .ok (.iload_n 2, 1) := by decide +kernel
theorem dX9_waitsFor_77 : decode cX9_waitsFor 77 = .ok (.invokevirtual 303, 3) := by decide +kernel
theorem dX9_waitsFor_80 : decode cX9_waitsFor 80 = .ok (.istore 5, 2) := by decide +kernel
theorem dX9_waitsFor_82 : decode cX9_waitsFor 82 = .ok (.iload 5, 2) := by decide +kernel
theorem dX9_waitsFor_84 : decode cX9_waitsFor 84 = .ok (.aload_n 0, 1) := by decide +kernel
theorem dX9_waitsFor_85 : decode cX9_waitsFor 85 = .ok (.iload_n 3, 1) := by decide +kernel
theorem dX9_waitsFor_86 : decode cX9_waitsFor 86 = .ok (.invokevirtual 303, 3) := by decide +kernel
theorem dX9_waitsFor_89 : decode cX9_waitsFor 89 = .ok (.iadd, 1) := by decide +kernel
theorem dX9_waitsFor_90 : decode cX9_waitsFor 90 = .ok (.istore 5, 2) := by decide +kernel
theorem dX9_waitsFor_92 : decode cX9_waitsFor 92 = .ok (.iload 5, 2) := by decide +kernel
theorem dX9_waitsFor_94 : decode cX9_waitsFor 94 = .ok (.aload_n 0, 1) := by decide +kernel
theorem dX9_waitsFor_95 : decode cX9_waitsFor 95 = .ok (.iload 4, 2) := by decide +kernel
theorem dX9_waitsFor_97 : decode cX9_waitsFor 97 = .ok (.invokevirtual 303, 3) := by decide +kernel
theorem dX9_waitsFor_100 : decode cX9_waitsFor 100 = .ok (.iadd, 1) := by decide +kernel
theorem dX9_waitsFor_101 : decode cX9_waitsFor 101 = .ok (.istore 5, 2) := by decide +kernel
theorem dX9_waitsFor_103 : decode cX9_waitsFor 103 = .ok (.aload_n 0, 1) := by decide +kernel
theorem dX9_waitsFor_104 : decode cX9_waitsFor 104 = .ok (.getfield 43, 3) := by decide +kernel
theorem dX9_waitsFor_107 : decode cX9_waitsFor 107 = .ok (.aload_n 0, 1) := by decide +kernel
theorem dX9_waitsFor_108 : decode cX9_waitsFor 108 = .ok (.getfield 20, 3) := by decide +kernel
theorem dX9_waitsFor_111 : decode cX9_waitsFor 111 = .ok (.invokestatic 269, 3) := by decide +kernel
theorem dX9_waitsFor_114 : decode cX9_waitsFor 114 = .ok (.iload 5, 2) := by decide +kernel
theorem dX9_waitsFor_116 : decode cX9_waitsFor 116 = .ok (.ireturn, 1) := by decide +kernel
theorem dX9_log_0 : decode cX9_log 0 = .ok (.aload_n 0, 1) := by decide +kernel
theorem dX9_log_1 : decode cX9_log 1 = .ok (.iconst 0, 1) := by decide +kernel
theorem dX9_log_2 : decode cX9_log 2 = .ok (.putfield 65, 3) := by decide +kernel
theorem dX9_log_5 : decode cX9_log 5 = .ok (.aload_n 0, 1) := by decide +kernel
theorem dX9_log_6 : decode cX9_log 6 = .ok (.iload_n 2, 1) := by decide +kernel
theorem dX9_log_7 : decode cX9_log 7 = .ok (.iconst 0, 1) := by decide +kernel
theorem dX9_log_8 : decode cX9_log 8 = .ok (.iconst 2, 1) := by decide +kernel
theorem dX9_log_9 : decode cX9_log 9 = .ok (.invokestatic 89, 3) := by decide +kernel
theorem dX9_log_12 : decode cX9_log 12 = .ok (.ifCond .ne 7, 3) := by decide +kernel
theorem dX9_log_15 : decode cX9_log 15 = .ok (.iconst 1, 1) := by decide +kernel
theorem dX9_log_16 : decode cX9_log 16 = .ok (.goto 4, 3) := by decide +kernel
theorem dX9_log_19 : decode cX9_log 19 = .ok (.iconst 0, 1) := by decide +kernel
theorem dX9_log_20 : decode cX9_log 20 = .ok (.iconst 1, 1) := by decide +kernel
theorem dX9_log_21 : decode cX9_log 21 = .ok (.invokevirtual 185, 3) := by decide +kernel
theorem dX9_log_24 : decode cX9_log 24 = .ok (.ifCond .eq 5, 3) := by decide +kernel
theorem dX9_log_27 : decode cX9_log 27 = .ok (.iconst 0, 1) := by decide +kernel
theorem dX9_log_28 : decode cX9_log 28 = .ok (.ireturn, 1) := by decide +kernel
theorem dX9_log_29 : decode cX9_log 29 = .ok (.iload_n 1, 1) := by decide +kernel
theorem dX9_log_30 : decode cX9_log 30 = .ok (.iconst 0, 1) := by decide +kernel
theorem dX9_log_31 : decode cX9_log 31 = .ok (.aload_n 0, 1) := by decide +kernel
theorem dX9_log_32 : decode cX9_log 32 = .ok (.getfield 20, 3) := by decide +kernel
theorem dX9_log_35 : decode cX9_log 35 = .ok (.iconst 5, 1) := by decide +kernel
theorem dX9_log_36 : decode cX9_log 36 = .ok (.iaload, 1) := by decide +kernel
theorem dX9_log_37 : decode cX9_log 37 = .ok (.iconst 1, 1) := by decide +kernel
theorem dX9_log_38 : decode cX9_log 38 = .ok (.isub, 1) := by decide +kernel
theorem dX9_log_39 : decode cX9_log 39 = .ok (.invokestatic 89, 3) := by decide +kernel
theorem dX9_log_42 : decode cX9_log 42 = .ok (.ifCond .eq 20, 3) := by decide +kernel
theorem dX9_log_45 : decode cX9_log 45 = .ok (.aload_n 0, 1) := by decide +kernel
theorem dX9_log_46 : decode cX9_log 46 = .ok (.getfield 20, 3) := by decide +kernel
theorem dX9_log_49 : decode cX9_log 49 = .ok (.sipush 306, 3) := by decide +kernel
theorem dX9_log_52 : decode cX9_log 52 = .ok (.iconst 3, 1) := by decide +kernel
theorem dX9_log_53 : decode cX9_log 53 = .ok (.iload_n 1, 1) := by decide +kernel
theorem dX9_log_54 : decode cX9_log 54 = .ok (.imul, 1) := by decide +kernel
theorem dX9_log_55 : decode cX9_log 55 = .ok (.iadd, 1) := by decide +kernel
theorem dX9_log_56 : decode cX9_log 56 = .ok (.iload_n 2, 1) := by decide +kernel
theorem dX9_log_57 : decode cX9_log 57 = .ok (.iadd, 1) := by decide +kernel
theorem dX9_log_58 : decode cX9_log 58 = .ok (.iaload, 1) := by decide +kernel
theorem dX9_log_59 : decode cX9_log 59 = .ok (.goto 4, 3) := by decide +kernel
theorem dX9_log_62 : decode cX9_log 62 = .ok (.iconst (-1), 1) := by decide +kernel
theorem dX9_log_63 : decode cX9_log 63 = .ok (.ireturn, 1) := by decide +kernel
theorem dX9_account_0 : decode cX9_account 0 = .ok (.aload_n 0, 1) := by decide +kernel
theorem dX9_account_1 : decode cX9_account 1 = .ok (.iload_n 1, 1) := by decide +kernel
theorem dX9_account_2 : decode cX9_account 2 = .ok (.bipush 9, 2) := by decide +kernel
theorem dX9_account_4 : decode cX9_account 4 = .ok (.invokevirtual 294, 3) := by decide +kernel
theorem dX9_account_7 : decode cX9_account 7 = .ok (.ifCond .eq 7, 3) := by decide +kernel
theorem dX9_account_10 : decode cX9_account 10 = .ok (.iconst 0, 1) := by decide +kernel
theorem dX9_account_11 : decode cX9_account 11 = .ok (.goto 13, 3) := by decide +kernel
theorem dX9_account_14 : decode cX9_account 14 = .ok (.aload_n 0, 1) := by decide +kernel
theorem dX9_account_15 : decode cX9_account 15 = .ok (.getfield 20, 3) := by decide +kernel
theorem dX9_account_18 : decode cX9_account 18 = .ok (.sipush 378, 3) := by decide +kernel
theorem dX9_account_21 : decode cX9_account 21 = .ok (.iload_n 1, 1) := by decide +kernel
theorem dX9_account_22 : decode cX9_account 22 = .ok (.iadd, 1) := by decide +kernel
theorem dX9_account_23 : decode cX9_account 23 = .ok (.iaload, 1) := by decide +kernel
theorem dX9_account_24 : decode cX9_account 24 = .ok (.ireturn, 1) := by decide +kernel
theorem dX9_show_0 : decode cX9_show 0 = .ok (.aload_n 0, 1) := by decide +kernel
theorem dX9_show_1 : decode cX9_show 1 = .ok (.iload_n 1, 1) := by decide +kernel
theorem dX9_show_2 : decode cX9_show 2 = .ok (.invokevirtual 291, 3) := by decide +kernel
theorem dX9_show_5 : decode cX9_show 5 = .ok (.ifCond .eq 5, 3) := by decide +kernel
theorem dX9_show_8 : decode cX9_show 8 = .ok (.iconst 0, 1) := by decide +kernel
theorem dX9_show_9 : decode cX9_show 9 = .ok (.ireturn, 1) := by decide +kernel
theorem dX9_show_10 : decode cX9_show 10 = .ok (.aload_n 0, 1) := by decide +kernel
theorem dX9_show_11 : decode cX9_show 11 = .ok (.getfield 20, 3) := by decide +kernel
theorem dX9_show_14 : decode cX9_show 14 = .ok (.aload_n 0, 1) := by decide +kernel
theorem dX9_show_15 : decode cX9_show 15 = .ok (.getfield 43, 3) := by decide +kernel
theorem dX9_show_18 : decode cX9_show 18 = .ok (.invokestatic 269, 3) := by decide +kernel
theorem dX9_show_21 : decode cX9_show 21 = .ok (.aload_n 0, 1) := by decide +kernel
theorem dX9_show_22 : decode cX9_show 22 = .ok (.iload_n 1, 1) := by decide +kernel
theorem dX9_show_23 : decode cX9_show 23 = .ok (.invokevirtual 300, 3) := by decide +kernel
theorem dX9_show_26 : decode cX9_show 26 = .ok (.istore_n 2, 1) := by decide +kernel
theorem dX9_show_27 : decode cX9_show 27 = .ok (.aload_n 0, 1) := by decide +kernel
theorem dX9_show_28 : decode cX9_show 28 = .ok (.iload_n 2, 1) := by decide +kernel
theorem dX9_show_29 : decode cX9_show 29 = .ok (.iconst (-1), 1) := by decide +kernel
theorem dX9_show_30 : decode cX9_show 30 = .ok (.if_icmp .ne 7, 3) := by decide +kernel
theorem dX9_show_33 : decode cX9_show 33 = .ok (.iconst 1, 1) := by decide +kernel
theorem dX9_show_34 : decode cX9_show 34 = .ok (.goto 4, 3) := by decide +kernel
theorem dX9_show_37 : decode cX9_show 37 = .ok (.iconst 0, 1) := by decide +kernel
theorem dX9_show_38 : decode cX9_show 38 = .ok (.iconst 2, 1) := by decide +kernel
theorem dX9_show_39 : decode cX9_show 39 = .ok (.invokevirtual 185, 3) := by decide +kernel
theorem dX9_show_42 : decode cX9_show 42 = .ok (.ifCond .eq 5, 3) := by decide +kernel
theorem dX9_show_45 : decode cX9_show 45 = .ok (.iconst 0, 1) := by decide +kernel
theorem dX9_show_46 : decode cX9_show 46 = .ok (.ireturn, 1) := by decide +kernel
theorem dX9_show_47 : decode cX9_show 47 = .ok (.aload_n 0, 1) := by decide +kernel
theorem dX9_show_48 : decode cX9_show 48 = .ok (.invokevirtual 306, 3) := by decide +kernel
theorem dX9_show_51 : decode cX9_show 51 = .ok (.iload_n 2, 1) := by decide +kernel
theorem dX9_show_52 : decode cX9_show 52 = .ok (.ireturn, 1) := by decide +kernel
theorem dX9_home_0 : decode cX9_home 0 = .ok (.aload_n 0, 1) := by decide +kernel
theorem dX9_home_1 : decode cX9_home 1 = .ok (.iconst 0, 1) := by decide +kernel
theorem dX9_home_2 : decode cX9_home 2 = .ok (.putfield 65, 3) := by decide +kernel
theorem dX9_home_5 : decode cX9_home 5 = .ok (.aload_n 0, 1) := by decide +kernel
theorem dX9_home_6 : decode cX9_home 6 = .ok (.getfield 20, 3) := by decide +kernel
theorem dX9_home_9 : decode cX9_home 9 = .ok (.aload_n 0, 1) := by decide +kernel
theorem dX9_home_10 : decode cX9_home 10 = .ok (.getfield 43, 3) := by decide +kernel
theorem dX9_home_13 : decode cX9_home 13 = .ok (.invokestatic 269, 3) := by decide +kernel
theorem dX9_home_16 : decode cX9_home 16 = .ok (.aload_n 0, 1) := by decide +kernel
theorem dX9_home_17 : decode cX9_home 17 = .ok (.invokevirtual 306, 3) := by decide +kernel
theorem dX9_home_20 : decode cX9_home 20 = .ok (.aload_n 0, 1) := by decide +kernel
theorem dX9_home_21 : decode cX9_home 21 = .ok (.getfield 20, 3) := by decide +kernel
theorem dX9_home_24 : decode cX9_home 24 = .ok (.iconst 2, 1) := by decide +kernel
theorem dX9_home_25 : decode cX9_home 25 = .ok (.iaload, 1) := by decide +kernel
theorem dX9_home_26 : decode cX9_home 26 = .ok (.istore_n 1, 1) := by decide +kernel
theorem dX9_home_27 : decode cX9_home 27 = .ok (.iload_n 1, 1) := by decide +kernel
theorem dX9_home_28 : decode cX9_home 28 = .ok (.iconst (-1), 1) := by decide +kernel
theorem dX9_home_29 : decode cX9_home 29 = .ok (.if_icmp .eq 15, 3) := by decide +kernel
theorem dX9_home_32 : decode cX9_home 32 = .ok (.aload_n 0, 1) := by decide +kernel
theorem dX9_home_33 : decode cX9_home 33 = .ok (.iload_n 1, 1) := by decide +kernel
theorem dX9_home_34 : decode cX9_home 34 = .ok (.invokevirtual 260, 3) := by decide +kernel
theorem dX9_home_37 : decode cX9_home 37 = .ok (.aload_n 0, 1) := by decide +kernel
theorem dX9_home_38 : decode cX9_home 38 = .ok (.getfield 20, 3) := by decide +kernel
theorem dX9_home_41 : decode cX9_home 41 = .ok (.iconst 2, 1) := by decide +kernel
theorem dX9_home_42 : decode cX9_home 42 = .ok (.iconst (-1), 1) := by decide +kernel
theorem dX9_home_43 : decode cX9_home 43 = .ok (.iastore, 1) := by decide +kernel
theorem dX9_home_44 : decode cX9_home 44 = .ok (.iload_n 1, 1) := by decide +kernel
theorem dX9_home_45 : decode cX9_home 45 = .ok (.ireturn, 1) := by decide +kernel
theorem dX9_pass_0 : decode cX9_pass 0 = .ok (.aload_n 0, 1) := by decide +kernel
theorem dX9_pass_1 : decode cX9_pass 1 = .ok (.iconst 0, 1) := by decide +kernel
theorem dX9_pass_2 : decode cX9_pass 2 = .ok (.putfield 65, 3) := by decide +kernel
theorem dX9_pass_5 : decode cX9_pass 5 = .ok (.aload_n 0, 1) := by decide +kernel
theorem dX9_pass_6 : decode cX9_pass 6 = .ok (.iload_n 1, 1) := by decide +kernel
theorem dX9_pass_7 : decode cX9_pass 7 = .ok (.iconst 1, 1) := by decide +kernel
theorem dX9_pass_8 : decode cX9_pass 8 = .ok (.sipush 240, 3) := by decide +kernel
theorem dX9_pass_11 : decode cX9_pass 11 = .ok (.invokestatic 89, 3) := by decide +kernel
theorem dX9_pass_14 : decode cX9_pass 14 = .ok (.ifCond .ne 7, 3) := by decide +kernel
theorem dX9_pass_17 : decode cX9_pass 17 = .ok (.iconst 1, 1) := by decide +kernel
theorem dX9_pass_18 : decode cX9_pass 18 = .ok (.goto 4, 3) := by decide +kernel
theorem dX9_pass_21 : decode cX9_pass 21 = .ok (.iconst 0, 1) := by decide +kernel
theorem dX9_pass_22 : decode cX9_pass 22 = .ok (.iconst 1, 1) := by decide +kernel
theorem dX9_pass_23 : decode cX9_pass 23 = .ok (.invokevirtual 185, 3) := by decide +kernel
theorem dX9_pass_26 : decode cX9_pass 26 = .ok (.ifCond .eq 5, 3) := by decide +kernel
theorem dX9_pass_29 : decode cX9_pass 29 = .ok (.iconst 0, 1) := by decide +kernel
theorem dX9_pass_30 : decode cX9_pass 30 = .ok (.ireturn, 1) := by decide +kernel
theorem dX9_pass_31 : decode cX9_pass 31 = .ok (.aload_n 0, 1) := by decide +kernel
theorem dX9_pass_32 : decode cX9_pass 32 = .ok (.getfield 20, 3) := by decide +kernel
theorem dX9_pass_35 : decode cX9_pass 35 = .ok (.aload_n 0, 1) := by decide +kernel
theorem dX9_pass_36 : decode cX9_pass 36 = .ok (.getfield 43, 3) := by decide +kernel
theorem dX9_pass_39 : decode cX9_pass 39 = .ok (.invokestatic 269, 3) := by decide +kernel
theorem dX9_pass_42 : decode cX9_pass 42 = .ok (.aload_n 0, 1) := by decide +kernel
theorem dX9_pass_43 : decode cX9_pass 43 = .ok (.invokevirtual 306, 3) := by decide +kernel
theorem dX9_pass_46 : decode cX9_pass 46 = .ok (.iconst 0, 1) := by decide +kernel
theorem dX9_pass_47 : decode cX9_pass 47 = .ok (.istore_n 2, 1) := by decide +kernel
theorem dX9_pass_48 : decode cX9_pass 48 = .ok (.iconst 0, 1) := by decide +kernel
theorem dX9_pass_49 : decode cX9_pass 49 = .ok (.istore_n 3, 1) := by decide +kernel
theorem dX9_pass_50 : decode cX9_pass 50 = .ok (.iload_n 3, 1) := by decide +kernel
theorem dX9_pass_51 : decode cX9_pass 51 = .ok (.iload_n 1, 1) := by decide +kernel
theorem dX9_pass_52 : decode cX9_pass 52 = .ok (.if_icmp .ge 16, 3) := by decide +kernel
theorem dX9_pass_55 : decode cX9_pass 55 = .ok (.iload_n 2, 1) := by decide +kernel
theorem dX9_pass_56 : decode cX9_pass 56 = .ok (.aload_n 0, 1) := by decide +kernel
theorem dX9_pass_57 : decode cX9_pass 57 = .ok (.invokevirtual 309, 3) := by decide +kernel
theorem dX9_pass_60 : decode cX9_pass 60 = .ok (.iadd, 1) := by decide +kernel
theorem dX9_pass_61 : decode cX9_pass 61 = .ok (.istore_n 2, 1) := by decide +kernel
theorem dX9_pass_62 : decode cX9_pass 62 = .ok (.iinc 3 1, 3) := by decide +kernel
theorem dX9_pass_65 : decode cX9_pass 65 = .ok (.goto (-15), 3) := by decide +kernel
theorem dX9_pass_68 : decode cX9_pass 68 = .ok (.iload_n 2, 1) := by decide +kernel
theorem dX9_pass_69 : decode cX9_pass 69 = .ok (.ireturn, 1) := by decide +kernel
theorem dX9_takesIn_0 : decode cX9_takesIn 0 = .ok (.aload_n 0, 1) := by decide +kernel
theorem dX9_takesIn_1 : decode cX9_takesIn 1 = .ok (.iload_n 1, 1) := by decide +kernel
theorem dX9_takesIn_2 : decode cX9_takesIn 2 = .ok (.iconst 3, 1) := by decide +kernel
theorem dX9_takesIn_3 : decode cX9_takesIn 3 = .ok (.bipush 31, 2) := by decide +kernel
theorem dX9_takesIn_5 : decode cX9_takesIn 5 = .ok (.aload_n 0, 1) := by decide +kernel
theorem dX9_takesIn_6 : decode cX9_takesIn 6 = .ok (.iload_n 1, 1) := by decide +kernel
theorem dX9_takesIn_7 : decode cX9_takesIn 7 = .ok (.iconst 3, 1) := by decide +kernel
theorem dX9_takesIn_8 : decode cX9_takesIn 8 = .ok (.invokevirtual 203, 3) := by decide +kernel
theorem dX9_takesIn_11 : decode cX9_takesIn 11 = .ok (.imul, 1) := by decide +kernel
theorem dX9_takesIn_12 : decode cX9_takesIn 12 = .ok (.iload_n 2, 1) := by decide +kernel
theorem dX9_takesIn_13 : decode cX9_takesIn 13 = .ok (.iadd, 1) := by decide +kernel
theorem dX9_takesIn_14 : decode cX9_takesIn 14 = .ok (.invokevirtual 240, 3) := by decide +kernel
theorem dX9_takesIn_17 : decode cX9_takesIn 17 = .ok (.aload_n 0, 1) := by decide +kernel
theorem dX9_takesIn_18 : decode cX9_takesIn 18 = .ok (.iload_n 1, 1) := by decide +kernel
theorem dX9_takesIn_19 : decode cX9_takesIn 19 = .ok (.iconst 3, 1) := by decide +kernel
theorem dX9_takesIn_20 : decode cX9_takesIn 20 = .ok (.invokevirtual 203, 3) := by decide +kernel
theorem dX9_takesIn_23 : decode cX9_takesIn 23 = .ok (.ireturn, 1) := by decide +kernel
theorem dX9_touch_0 : decode cX9_touch 0 = .ok (.aload_n 0, 1) := by decide +kernel
theorem dX9_touch_1 : decode cX9_touch 1 = .ok (.iconst 0, 1) := by decide +kernel
theorem dX9_touch_2 : decode cX9_touch 2 = .ok (.putfield 65, 3) := by decide +kernel
theorem dX9_touch_5 : decode cX9_touch 5 = .ok (.aload_n 0, 1) := by decide +kernel
theorem dX9_touch_6 : decode cX9_touch 6 = .ok (.iload_n 1, 1) := by decide +kernel
theorem dX9_touch_7 : decode cX9_touch 7 = .ok (.iconst 0, 1) := by decide +kernel
theorem dX9_touch_8 : decode cX9_touch 8 = .ok (.sipush 999, 3) := by decide +kernel
theorem dX9_touch_11 : decode cX9_touch 11 = .ok (.invokestatic 89, 3) := by decide +kernel
theorem dX9_touch_14 : decode cX9_touch 14 = .ok (.ifCond .ne 7, 3) := by decide +kernel
theorem dX9_touch_17 : decode cX9_touch 17 = .ok (.iconst 1, 1) := by decide +kernel
theorem dX9_touch_18 : decode cX9_touch 18 = .ok (.goto 4, 3) := by decide +kernel
theorem dX9_touch_21 : decode cX9_touch 21 = .ok (.iconst 0, 1) := by decide +kernel
theorem dX9_touch_22 : decode cX9_touch 22 = .ok (.iconst 1, 1) := by decide +kernel
theorem dX9_touch_23 : decode cX9_touch 23 = .ok (.invokevirtual 185, 3) := by decide +kernel
theorem dX9_touch_26 : decode cX9_touch 26 = .ok (.ifCond .ne 26, 3) := by decide +kernel
theorem dX9_touch_29 : decode cX9_touch 29 = .ok (.aload_n 0, 1) := by decide +kernel
theorem dX9_touch_30 : decode cX9_touch 30 = .ok (.aload_n 0, 1) := by decide +kernel
theorem dX9_touch_31 : decode cX9_touch 31 = .ok (.getfield 20, 3) := by decide +kernel
theorem dX9_touch_34 : decode cX9_touch 34 = .ok (.iconst 2, 1) := by decide +kernel
theorem dX9_touch_35 : decode cX9_touch 35 = .ok (.iaload, 1) := by decide +kernel
theorem dX9_touch_36 : decode cX9_touch 36 = .ok (.iconst (-1), 1) := by decide +kernel
theorem dX9_touch_37 : decode cX9_touch 37 = .ok (.if_icmp .ne 7, 3) := by decide +kernel
theorem dX9_touch_40 : decode cX9_touch 40 = .ok (.iconst 1, 1) := by decide +kernel
theorem dX9_touch_41 : decode cX9_touch 41 = .ok (.goto 4, 3) := by decide +kernel
theorem dX9_touch_44 : decode cX9_touch 44 = .ok (.iconst 0, 1) := by decide +kernel
theorem dX9_touch_45 : decode cX9_touch 45 = .ok (.iconst 2, 1) := by decide +kernel
theorem dX9_touch_46 : decode cX9_touch 46 = .ok (.invokevirtual 185, 3) := by decide +kernel
theorem dX9_touch_49 : decode cX9_touch 49 = .ok (.ifCond .eq 5, 3) := by decide +kernel
theorem dX9_touch_52 : decode cX9_touch 52 = .ok (.iconst 0, 1) := by decide +kernel
theorem dX9_touch_53 : decode cX9_touch 53 = .ok (.ireturn, 1) := by decide +kernel
theorem dX9_touch_54 : decode cX9_touch 54 = .ok (.aload_n 0, 1) := by decide +kernel
theorem dX9_touch_55 : decode cX9_touch 55 = .ok (.getfield 20, 3) := by decide +kernel
theorem dX9_touch_58 : decode cX9_touch 58 = .ok (.aload_n 0, 1) := by decide +kernel
theorem dX9_touch_59 : decode cX9_touch 59 = .ok (.getfield 43, 3) := by decide +kernel
theorem dX9_touch_62 : decode cX9_touch 62 = .ok (.invokestatic 269, 3) := by decide +kernel
theorem dX9_touch_65 : decode cX9_touch 65 = .ok (.aload_n 0, 1) := by decide +kernel
theorem dX9_touch_66 : decode cX9_touch 66 = .ok (.invokevirtual 306, 3) := by decide +kernel
theorem dX9_touch_69 : decode cX9_touch 69 = .ok (.aload_n 0, 1) := by decide +kernel
theorem dX9_touch_70 : decode cX9_touch 70 = .ok (.aload_n 0, 1) := by decide +kernel
theorem dX9_touch_71 : decode cX9_touch 71 = .ok (.getfield 20, 3) := by decide +kernel
theorem dX9_touch_74 : decode cX9_touch 74 = .ok (.iconst 2, 1) := by decide +kernel
theorem dX9_touch_75 : decode cX9_touch 75 = .ok (.iaload, 1) := by decide +kernel
theorem dX9_touch_76 : decode cX9_touch 76 = .ok (.iload_n 1, 1) := by decide +kernel
theorem dX9_touch_77 : decode cX9_touch 77 = .ok (.invokevirtual 312, 3) := by decide +kernel
theorem dX9_touch_80 : decode cX9_touch 80 = .ok (.ireturn, 1) := by decide +kernel
theorem dX9_leavesFirst_0 : decode cX9_leavesFirst 0 = .ok (.aload_n 0, 1) := by decide +kernel
theorem dX9_leavesFirst_1 : decode cX9_leavesFirst 1 = .ok (.iload_n 1, 1) := by decide +kernel
theorem dX9_leavesFirst_2 : decode cX9_leavesFirst 2 = .ok (.bipush 15, 2) := by decide +kernel
theorem dX9_leavesFirst_4 : decode cX9_leavesFirst 4 = .ok (.aload_n 0, 1) := by decide +kernel
theorem dX9_leavesFirst_5 : decode cX9_leavesFirst 5 = .ok (.iload_n 1, 1) := by decide +kernel
theorem dX9_leavesFirst_6 : decode cX9_leavesFirst 6 = .ok (.bipush 15, 2) := by decide +kernel
theorem dX9_leavesFirst_8 : decode cX9_leavesFirst 8 = .ok (.invokevirtual 203, 3) := by decide +kernel
theorem dX9_leavesFirst_11 : decode cX9_leavesFirst 11 = .ok (.iconst 1, 1) := by decide +kernel
theorem dX9_leavesFirst_12 : decode cX9_leavesFirst 12 = .ok (.isub, 1) := by decide +kernel
theorem dX9_leavesFirst_13 : decode cX9_leavesFirst 13 = .ok (.invokevirtual 240, 3) := by decide +kernel
theorem dX9_leavesFirst_16 : decode cX9_leavesFirst 16 = .ok (.iconst 0, 1) := by decide +kernel
theorem dX9_leavesFirst_17 : decode cX9_leavesFirst 17 = .ok (.istore_n 2, 1) := by decide +kernel
theorem dX9_leavesFirst_18 : decode cX9_leavesFirst 18 = .ok (.iload_n 2, 1) := by decide +kernel
theorem dX9_leavesFirst_19 : decode cX9_leavesFirst 19 = .ok (.aload_n 0, 1) := by decide +kernel
theorem dX9_leavesFirst_20 : decode cX9_leavesFirst 20 = .ok (.iload_n 1, 1) := by decide +kernel
theorem dX9_leavesFirst_21 : decode cX9_leavesFirst 21 = .ok (.bipush 15, 2) := by decide +kernel
theorem dX9_leavesFirst_23 : decode cX9_leavesFirst 23 = .ok (.invokevirtual 203, 3) := by decide +kernel
theorem dX9_leavesFirst_26 : decode cX9_leavesFirst 26 = .ok (.if_icmp .ge 39, 3) := by decide +kernel
theorem dX9_leavesFirst_29 : decode cX9_leavesFirst 29 = .ok (.aload_n 0, 1) := by decide +kernel
theorem dX9_leavesFirst_30 : decode cX9_leavesFirst 30 = .ok (.getfield 20, 3) := by decide +kernel
theorem dX9_leavesFirst_33 : decode cX9_leavesFirst 33 = .ok (.sipush 388, 3) := by decide +kernel
theorem dX9_leavesFirst_36 : decode cX9_leavesFirst 36 = .ok (.iconst 5, 1) := by decide +kernel
theorem dX9_leavesFirst_37 : decode cX9_leavesFirst 37 = .ok (.iload_n 1, 1) := by decide +kernel
theorem dX9_leavesFirst_38 : decode cX9_leavesFirst 38 = .ok (.imul, 1) := by decide +kernel
theorem dX9_leavesFirst_39 : decode cX9_leavesFirst 39 = .ok (.iadd, 1) := by decide +kernel
theorem dX9_leavesFirst_40 : decode cX9_leavesFirst 40 = .ok (.iload_n 2, 1) := by decide +kernel
theorem dX9_leavesFirst_41 : decode cX9_leavesFirst 41 = .ok (.iadd, 1) := by decide +kernel
theorem dX9_leavesFirst_42 : decode cX9_leavesFirst 42 = .ok (.aload_n 0, 1) := by decide +kernel
theorem dX9_leavesFirst_43 : decode cX9_leavesFirst 43 = .ok (.getfield 20, 3) := by decide +kernel
theorem dX9_leavesFirst_46 : decode cX9_leavesFirst 46 = .ok (.sipush 388, 3) := by decide +kernel
theorem dX9_leavesFirst_49 : decode cX9_leavesFirst 49 = .ok (.iconst 5, 1) := by decide +kernel
theorem dX9_leavesFirst_50 : decode cX9_leavesFirst 50 = .ok (.iload_n 1, 1) := by decide +kernel
theorem dX9_leavesFirst_51 : decode cX9_leavesFirst 51 = .ok (.imul, 1) := by decide +kernel
theorem dX9_leavesFirst_52 : decode cX9_leavesFirst 52 = .ok (.iadd, 1) := by decide +kernel
theorem dX9_leavesFirst_53 : decode cX9_leavesFirst 53 = .ok (.iload_n 2, 1) := by decide +kernel
theorem dX9_leavesFirst_54 : decode cX9_leavesFirst 54 = .ok (.iadd, 1) := by decide +kernel
theorem dX9_leavesFirst_55 : decode cX9_leavesFirst 55 = .ok (.iconst 1, 1) := by decide +kernel
theorem dX9_leavesFirst_56 : decode cX9_leavesFirst 56 = .ok (.iadd, 1) := by decide +kernel
theorem dX9_leavesFirst_57 : decode cX9_leavesFirst 57 = .ok (.iaload, 1) := by decide +kernel
theorem dX9_leavesFirst_58 : decode cX9_leavesFirst 58 = .ok (.iastore, 1) := by decide +kernel
theorem dX9_leavesFirst_59 : decode cX9_leavesFirst 59 = .ok (.iinc 2 1, 3) := by decide +kernel
theorem dX9_leavesFirst_62 : decode cX9_leavesFirst 62 = .ok (.goto (-44), 3) := by decide +kernel
theorem dX9_leavesFirst_65 : decode cX9_leavesFirst 65 = .ok (.return_, 1) := by decide +kernel
theorem dX9_send_0 : decode cX9_send 0 = .ok (.aload_n 0, 1) := by decide +kernel
theorem dX9_send_1 : decode cX9_send 1 = .ok (.iload_n 1, 1) := by decide +kernel
theorem dX9_send_2 : decode cX9_send 2 = .ok (.invokevirtual 291, 3) := by decide +kernel
theorem dX9_send_5 : decode cX9_send 5 = .ok (.ifCond .ne 27, 3) := by decide +kernel
theorem dX9_send_8 : decode cX9_send 8 = .ok (.aload_n 0, 1) := by decide +kernel
theorem dX9_send_9 : decode cX9_send 9 = .ok (.iload_n 2, 1) := by decide +kernel
theorem dX9_send_10 : decode cX9_send 10 = .ok (.iconst 0, 1) := by decide +kernel
theorem dX9_send_11 : decode cX9_send 11 = .ok (.sipush 999, 3) := by decide +kernel
theorem dX9_send_14 : decode cX9_send 14 = .ok (.invokestatic 89, 3) := by decide +kernel
theorem dX9_send_17 : decode cX9_send 17 = .ok (.ifCond .ne 7, 3) := by decide +kernel
theorem dX9_send_20 : decode cX9_send 20 = .ok (.iconst 1, 1) := by decide +kernel
theorem dX9_send_21 : decode cX9_send 21 = .ok (.goto 4, 3) := by decide +kernel
theorem dX9_send_24 : decode cX9_send 24 = .ok (.iconst 0, 1) := by decide +kernel
theorem dX9_send_25 : decode cX9_send 25 = .ok (.iconst 2, 1) := by decide +kernel
theorem dX9_send_26 : decode cX9_send 26 = .ok (.invokevirtual 185, 3) := by decide +kernel
theorem dX9_send_29 : decode cX9_send 29 = .ok (.ifCond .eq 5, 3) := by decide +kernel
theorem dX9_send_32 : decode cX9_send 32 = .ok (.iconst 0, 1) := by decide +kernel
theorem dX9_send_33 : decode cX9_send 33 = .ok (.ireturn, 1) := by decide +kernel
theorem dX9_send_34 : decode cX9_send 34 = .ok (.aload_n 0, 1) := by decide +kernel
theorem dX9_send_35 : decode cX9_send 35 = .ok (.getfield 20, 3) := by decide +kernel
theorem dX9_send_38 : decode cX9_send 38 = .ok (.aload_n 0, 1) := by decide +kernel
theorem dX9_send_39 : decode cX9_send 39 = .ok (.getfield 43, 3) := by decide +kernel
theorem dX9_send_42 : decode cX9_send 42 = .ok (.invokestatic 269, 3) := by decide +kernel
theorem dX9_send_45 : decode cX9_send 45 = .ok (.aload_n 0, 1) := by decide +kernel
theorem dX9_send_46 : decode cX9_send 46 = .ok (.invokevirtual 306, 3) := by decide +kernel
theorem dX9_send_49 : decode cX9_send 49 = .ok (.aload_n 0, 1) := by decide +kernel
theorem dX9_send_50 : decode cX9_send 50 = .ok (.iload_n 1, 1) := by decide +kernel
theorem dX9_send_51 : decode cX9_send 51 = .ok (.iconst 0, 1) := by decide +kernel
theorem dX9_send_52 : decode cX9_send 52 = .ok (.invokevirtual 203, 3) := by decide +kernel
theorem dX9_send_55 : decode cX9_send 55 = .ok (.istore_n 3, 1) := by decide +kernel
theorem dX9_send_56 : decode cX9_send 56 = .ok (.iload_n 3, 1) := by decide +kernel
theorem dX9_send_57 : decode cX9_send 57 = .ok (.iconst 1, 1) := by decide +kernel
theorem dX9_send_58 : decode cX9_send 58 = .ok (.if_icmp .ne 14, 3) := by decide +kernel
theorem dX9_send_61 : decode cX9_send 61 = .ok (.aload_n 0, 1) := by decide +kernel
theorem dX9_send_62 : decode cX9_send 62 = .ok (.iload_n 1, 1) := by decide +kernel
theorem dX9_send_63 : decode cX9_send 63 = .ok (.iload_n 2, 1) := by decide +kernel
theorem dX9_send_64 : decode cX9_send 64 = .ok (.invokevirtual 312, 3) := by decide +kernel
theorem dX9_send_67 : decode cX9_send 67 = .ok (.istore 4, 2) := by decide +kernel
theorem dX9_send_69 : decode cX9_send 69 = .ok (.goto 60, 3) := by decide +kernel
theorem dX9_send_72 : decode cX9_send 72 = .ok (.iload_n 3, 1) := by decide +kernel
theorem dX9_send_73 : decode cX9_send 73 = .ok (.ifCond .eq 56, 3) := by decide +kernel
theorem dX9_send_76 : decode cX9_send 76 = .ok (.aload_n 0, 1) := by decide +kernel
theorem dX9_send_77 : decode cX9_send 77 = .ok (.iload_n 1, 1) := by decide +kernel
theorem dX9_send_78 : decode cX9_send 78 = .ok (.bipush 15, 2) := by decide +kernel
theorem dX9_send_80 : decode cX9_send 80 = .ok (.invokevirtual 203, 3) := by decide +kernel
theorem dX9_send_83 : decode cX9_send 83 = .ok (.iconst 5, 1) := by decide +kernel
theorem dX9_send_84 : decode cX9_send 84 = .ok (.if_icmp .ne 8, 3) := by decide +kernel
theorem dX9_send_87 : decode cX9_send 87 = .ok (.aload_n 0, 1) := by decide +kernel
theorem dX9_send_88 : decode cX9_send 88 = .ok (.iload_n 1, 1) := by decide +kernel
theorem dX9_send_89 : decode cX9_send 89 = .ok (.invokevirtual 315, 3) := by decide +kernel
theorem dX9_send_92 : decode cX9_send 92 = .ok (.aload_n 0, 1) := by decide +kernel
theorem dX9_send_93 : decode cX9_send 93 = .ok (.getfield 20, 3) := by decide +kernel
theorem dX9_send_96 : decode cX9_send 96 = .ok (.sipush 388, 3) := by decide +kernel
theorem dX9_send_99 : decode cX9_send 99 = .ok (.iconst 5, 1) := by decide +kernel
theorem dX9_send_100 : decode cX9_send 100 = .ok (.iload_n 1, 1) := by decide +kernel
theorem dX9_send_101 : decode cX9_send 101 = .ok (.imul, 1) := by decide +kernel
theorem dX9_send_102 : decode cX9_send 102 = .ok (.iadd, 1) := by decide +kernel
theorem dX9_send_103 : decode cX9_send 103 = .ok (.aload_n 0, 1) := by decide +kernel
theorem dX9_send_104 : decode cX9_send 104 = .ok (.iload_n 1, 1) := by decide +kernel
theorem dX9_send_105 : decode cX9_send 105 = .ok (.bipush 15, 2) := by decide +kernel
theorem dX9_send_107 : decode cX9_send 107 = .ok (.invokevirtual 203, 3) := by decide +kernel
theorem dX9_send_110 : decode cX9_send 110 = .ok (.iadd, 1) := by decide +kernel
theorem dX9_send_111 : decode cX9_send 111 = .ok (.iload_n 2, 1) := by decide +kernel
theorem dX9_send_112 : decode cX9_send 112 = .ok (.iastore, 1) := by decide +kernel
theorem dX9_send_113 : decode cX9_send 113 = .ok (.aload_n 0, 1) := by decide +kernel
theorem dX9_send_114 : decode cX9_send 114 = .ok (.iload_n 1, 1) := by decide +kernel
theorem dX9_send_115 : decode cX9_send 115 = .ok (.bipush 15, 2) := by decide +kernel
theorem dX9_send_117 : decode cX9_send 117 = .ok (.aload_n 0, 1) := by decide +kernel
theorem dX9_send_118 : decode cX9_send 118 = .ok (.iload_n 1, 1) := by decide +kernel
theorem dX9_send_119 : decode cX9_send 119 = .ok (.bipush 15, 2) := by decide +kernel
theorem dX9_send_121 : decode cX9_send 121 = .ok (.invokevirtual 203, 3) := by decide +kernel
theorem dX9_send_124 : decode cX9_send 124 = .ok (.iconst 1, 1) := by decide +kernel
theorem dX9_send_125 : decode cX9_send 125 = .ok (.iadd, 1) := by decide +kernel
theorem dX9_send_126 : decode cX9_send 126 = .ok (.invokevirtual 240, 3) := by decide +kernel
theorem dX9_send_129 : decode cX9_send 129 = .ok (.aload_n 0, 1) := by decide +kernel
theorem dX9_send_130 : decode cX9_send 130 = .ok (.iload_n 1, 1) := by decide +kernel
theorem dX9_send_131 : decode cX9_send 131 = .ok (.bipush 15, 2) := by decide +kernel
theorem dX9_send_133 : decode cX9_send 133 = .ok (.invokevirtual 203, 3) := by decide +kernel
theorem dX9_send_136 : decode cX9_send 136 = .ok (.ireturn, 1) := by decide +kernel
theorem dX9_read_0 : decode cX9_read 0 = .ok (.aload_n 0, 1) := by decide +kernel
theorem dX9_read_1 : decode cX9_read 1 = .ok (.iconst 0, 1) := by decide +kernel
theorem dX9_read_2 : decode cX9_read 2 = .ok (.putfield 65, 3) := by decide +kernel
theorem dX9_read_5 : decode cX9_read 5 = .ok (.aload_n 0, 1) := by decide +kernel
theorem dX9_read_6 : decode cX9_read 6 = .ok (.getfield 20, 3) := by decide +kernel
theorem dX9_read_9 : decode cX9_read 9 = .ok (.iconst 2, 1) := by decide +kernel
theorem dX9_read_10 : decode cX9_read 10 = .ok (.iaload, 1) := by decide +kernel
theorem dX9_read_11 : decode cX9_read 11 = .ok (.istore_n 1, 1) := by decide +kernel
theorem dX9_read_12 : decode cX9_read 12 = .ok (.aload_n 0, 1) := by decide +kernel
theorem dX9_read_13 : decode cX9_read 13 = .ok (.iload_n 1, 1) := by decide +kernel
theorem dX9_read_14 : decode cX9_read 14 = .ok (.iconst (-1), 1) := by decide +kernel
theorem dX9_read_15 : decode cX9_read 15 = .ok (.if_icmp .eq 13, 3) := by decide +kernel
theorem dX9_read_18 : decode cX9_read 18 = .ok (.aload_n 0, 1) := by decide +kernel
theorem dX9_read_19 : decode cX9_read 19 = .ok (.iload_n 1, 1) := by decide +kernel
theorem dX9_read_20 : decode cX9_read 20 = .ok (.bipush 15, 2) := by decide +kernel
theorem dX9_read_22 : decode cX9_read 22 = .ok (.invokevirtual 203, 3) := by decide +kernel
theorem dX9_read_25 : decode cX9_read 25 = .ok (.ifCond .ne 7, 3) := by decide +kernel
theorem dX9_read_28 : decode cX9_read 28 = .ok (.iconst 1, 1) := by decide +kernel
theorem dX9_read_29 : decode cX9_read 29 = .ok (.goto 4, 3) := by decide +kernel
theorem dX9_read_32 : decode cX9_read 32 = .ok (.iconst 0, 1) := by decide +kernel
theorem dX9_read_33 : decode cX9_read 33 = .ok (.iconst 1, 1) := by decide +kernel
theorem dX9_read_34 : decode cX9_read 34 = .ok (.invokevirtual 185, 3) := by decide +kernel
theorem dX9_read_37 : decode cX9_read 37 = .ok (.ifCond .eq 5, 3) := by decide +kernel
theorem dX9_read_40 : decode cX9_read 40 = .ok (.iconst 0, 1) := by decide +kernel
theorem dX9_read_41 : decode cX9_read 41 = .ok (.ireturn, 1) := by decide +kernel
theorem dX9_read_42 : decode cX9_read 42 = .ok (.aload_n 0, 1) := by decide +kernel
theorem dX9_read_43 : decode cX9_read 43 = .ok (.getfield 20, 3) := by decide +kernel
theorem dX9_read_46 : decode cX9_read 46 = .ok (.aload_n 0, 1) := by decide +kernel
theorem dX9_read_47 : decode cX9_read 47 = .ok (.getfield 43, 3) := by decide +kernel
theorem dX9_read_50 : decode cX9_read 50 = .ok (.invokestatic 269, 3) := by decide +kernel
theorem dX9_read_53 : decode cX9_read 53 = .ok (.aload_n 0, 1) := by decide +kernel
theorem dX9_read_54 : decode cX9_read 54 = .ok (.invokevirtual 306, 3) := by decide +kernel
theorem dX9_read_57 : decode cX9_read 57 = .ok (.aload_n 0, 1) := by decide +kernel
theorem dX9_read_58 : decode cX9_read 58 = .ok (.getfield 20, 3) := by decide +kernel
theorem dX9_read_61 : decode cX9_read 61 = .ok (.sipush 388, 3) := by decide +kernel
theorem dX9_read_64 : decode cX9_read 64 = .ok (.iconst 5, 1) := by decide +kernel
theorem dX9_read_65 : decode cX9_read 65 = .ok (.iload_n 1, 1) := by decide +kernel
theorem dX9_read_66 : decode cX9_read 66 = .ok (.imul, 1) := by decide +kernel
theorem dX9_read_67 : decode cX9_read 67 = .ok (.iadd, 1) := by decide +kernel
theorem dX9_read_68 : decode cX9_read 68 = .ok (.iaload, 1) := by decide +kernel
theorem dX9_read_69 : decode cX9_read 69 = .ok (.istore_n 2, 1) := by decide +kernel
theorem dX9_read_70 : decode cX9_read 70 = .ok (.aload_n 0, 1) := by decide +kernel
theorem dX9_read_71 : decode cX9_read 71 = .ok (.iload_n 1, 1) := by decide +kernel
theorem dX9_read_72 : decode cX9_read 72 = .ok (.invokevirtual 315, 3) := by decide +kernel
theorem dX9_read_75 : decode cX9_read 75 = .ok (.aload_n 0, 1) := by decide +kernel
theorem dX9_read_76 : decode cX9_read 76 = .ok (.iload_n 1, 1) := by decide +kernel
theorem dX9_read_77 : decode cX9_read 77 = .ok (.iload_n 2, 1) := by decide +kernel
theorem dX9_read_78 : decode cX9_read 78 = .ok (.invokevirtual 312, 3) := by decide +kernel
theorem dX9_read_81 : decode cX9_read 81 = .ok (.ireturn, 1) := by decide +kernel
theorem dX9_pin_0 : decode cX9_pin 0 = .ok (.aload_n 0, 1) := by decide +kernel
theorem dX9_pin_1 : decode cX9_pin 1 = .ok (.iload_n 1, 1) := by decide +kernel
theorem dX9_pin_2 : decode cX9_pin 2 = .ok (.invokevirtual 291, 3) := by decide +kernel
theorem dX9_pin_5 : decode cX9_pin 5 = .ok (.ifCond .eq 5, 3) := by decide +kernel
theorem dX9_pin_8 : decode cX9_pin 8 = .ok (.iconst 0, 1) := by decide +kernel
theorem dX9_pin_9 : decode cX9_pin 9 = .ok (.ireturn, 1) := by decide +kernel
theorem dX9_pin_10 : decode cX9_pin 10 = .ok (.aload_n 0, 1) := by decide +kernel
theorem dX9_pin_11 : decode cX9_pin 11 = .ok (.getfield 20, 3) := by decide +kernel
theorem dX9_pin_14 : decode cX9_pin 14 = .ok (.aload_n 0, 1) := by decide +kernel
theorem dX9_pin_15 : decode cX9_pin 15 = .ok (.getfield 43, 3) := by decide +kernel
theorem dX9_pin_18 : decode cX9_pin 18 = .ok (.invokestatic 269, 3) := by decide +kernel
theorem dX9_pin_21 : decode cX9_pin 21 = .ok (.aload_n 0, 1) := by decide +kernel
theorem dX9_pin_22 : decode cX9_pin 22 = .ok (.invokevirtual 306, 3) := by decide +kernel
theorem dX9_pin_25 : decode cX9_pin 25 = .ok (.aload_n 0, 1) := by decide +kernel
theorem dX9_pin_26 : decode cX9_pin 26 = .ok (.iload_n 1, 1) := by decide +kernel
theorem dX9_pin_27 : decode cX9_pin 27 = .ok (.bipush 6, 2) := by decide +kernel
theorem dX9_pin_29 : decode cX9_pin 29 = .ok (.invokevirtual 203, 3) := by decide +kernel
theorem dX9_pin_32 : decode cX9_pin 32 = .ok (.iconst 1, 1) := by decide +kernel
theorem dX9_pin_33 : decode cX9_pin 33 = .ok (.if_icmp .ne 7, 3) := by decide +kernel
theorem dX9_pin_36 : decode cX9_pin 36 = .ok (.iconst 1, 1) := by decide +kernel
theorem dX9_pin_37 : decode cX9_pin 37 = .ok (.goto 4, 3) := by decide +kernel
theorem dX9_pin_40 : decode cX9_pin 40 = .ok (.iconst 0, 1) := by decide +kernel
theorem dX9_pin_41 : decode cX9_pin 41 = .ok (.istore_n 3, 1) := by decide +kernel
theorem dX9_pin_42 : decode cX9_pin 42 = .ok (.aload_n 0, 1) := by decide +kernel
theorem dX9_pin_43 : decode cX9_pin 43 = .ok (.iload_n 1, 1) := by decide +kernel
theorem dX9_pin_44 : decode cX9_pin 44 = .ok (.bipush 6, 2) := by decide +kernel
theorem dX9_pin_46 : decode cX9_pin 46 = .ok (.iload_n 2, 1) := by decide +kernel
theorem dX9_pin_47 : decode cX9_pin 47 = .ok (.ifCond .eq 7, 3) := by decide +kernel
theorem dX9_pin_50 : decode cX9_pin 50 = .ok (.iconst 1, 1) := by decide +kernel
theorem dX9_pin_51 : decode cX9_pin 51 = .ok (.goto 4, 3) := by decide +kernel
theorem dX9_pin_54 : decode cX9_pin 54 = .ok (.iconst 0, 1) := by decide +kernel
theorem dX9_pin_55 : decode cX9_pin 55 = .ok (.invokevirtual 240, 3) := by decide +kernel
theorem dX9_pin_58 : decode cX9_pin 58 = .ok (.iload_n 3, 1) := by decide +kernel
theorem dX9_pin_59 : decode cX9_pin 59 = .ok (.ireturn, 1) := by decide +kernel
theorem dX9_trim_0 : decode cX9_trim 0 = .ok (.aload_n 0, 1) := by decide +kernel
theorem dX9_trim_1 : decode cX9_trim 1 = .ok (.iload_n 1, 1) := by decide +kernel
theorem dX9_trim_2 : decode cX9_trim 2 = .ok (.bipush 6, 2) := by decide +kernel
theorem dX9_trim_4 : decode cX9_trim 4 = .ok (.invokevirtual 294, 3) := by decide +kernel
theorem dX9_trim_7 : decode cX9_trim 7 = .ok (.ifCond .eq 5, 3) := by decide +kernel
theorem dX9_trim_10 : decode cX9_trim 10 = .ok (.iconst 0, 1) := by decide +kernel
theorem dX9_trim_11 : decode cX9_trim 11 = .ok (.ireturn, 1) := by decide +kernel
theorem dX9_trim_12 : decode cX9_trim 12 = .ok (.aload_n 0, 1) := by decide +kernel
theorem dX9_trim_13 : decode cX9_trim 13 = .ok (.iload_n 1, 1) := by decide +kernel
theorem dX9_trim_14 : decode cX9_trim 14 = .ok (.invokevirtual 254, 3) := by decide +kernel
theorem dX9_trim_17 : decode cX9_trim 17 = .ok (.istore_n 2, 1) := by decide +kernel
theorem dX9_trim_18 : decode cX9_trim 18 = .ok (.aload_n 0, 1) := by decide +kernel
theorem dX9_trim_19 : decode cX9_trim 19 = .ok (.iload_n 2, 1) := by decide +kernel
theorem dX9_trim_20 : decode cX9_trim 20 = .ok (.iconst (-1), 1) := by decide +kernel
theorem dX9_trim_21 : decode cX9_trim 21 = .ok (.if_icmp .ne 7, 3) := by decide +kernel
theorem dX9_trim_24 : decode cX9_trim 24 = .ok (.iconst 1, 1) := by decide +kernel
theorem dX9_trim_25 : decode cX9_trim 25 = .ok (.goto 4, 3) := by decide +kernel
theorem dX9_trim_28 : decode cX9_trim 28 = .ok (.iconst 0, 1) := by decide +kernel
theorem dX9_trim_29 : decode cX9_trim 29 = .ok (.iconst 2, 1) := by decide +kernel
theorem dX9_trim_30 : decode cX9_trim 30 = .ok (.invokevirtual 185, 3) := by decide +kernel
theorem dX9_trim_33 : decode cX9_trim 33 = .ok (.ifCond .eq 5, 3) := by decide +kernel
theorem dX9_trim_36 : decode cX9_trim 36 = .ok (.iconst 0, 1) := by decide +kernel
theorem dX9_trim_37 : decode cX9_trim 37 = .ok (.ireturn, 1) := by decide +kernel
theorem dX9_trim_38 : decode cX9_trim 38 = .ok (.aload_n 0, 1) := by decide +kernel
theorem dX9_trim_39 : decode cX9_trim 39 = .ok (.getfield 20, 3) := by decide +kernel
theorem dX9_trim_42 : decode cX9_trim 42 = .ok (.aload_n 0, 1) := by decide +kernel
theorem dX9_trim_43 : decode cX9_trim 43 = .ok (.getfield 43, 3) := by decide +kernel
theorem dX9_trim_46 : decode cX9_trim 46 = .ok (.invokestatic 269, 3) := by decide +kernel
theorem dX9_trim_49 : decode cX9_trim 49 = .ok (.aload_n 0, 1) := by decide +kernel
theorem dX9_trim_50 : decode cX9_trim 50 = .ok (.iload_n 2, 1) := by decide +kernel
theorem dX9_trim_51 : decode cX9_trim 51 = .ok (.iload_n 1, 1) := by decide +kernel
theorem dX9_trim_52 : decode cX9_trim 52 = .ok (.invokevirtual 257, 3) := by decide +kernel
theorem dX9_trim_55 : decode cX9_trim 55 = .ok (.aload_n 0, 1) := by decide +kernel
theorem dX9_trim_56 : decode cX9_trim 56 = .ok (.aload_n 0, 1) := by decide +kernel
theorem dX9_trim_57 : decode cX9_trim 57 = .ok (.invokevirtual 251, 3) := by decide +kernel
theorem dX9_trim_60 : decode cX9_trim 60 = .ok (.aload_n 0, 1) := by decide +kernel
theorem dX9_trim_61 : decode cX9_trim 61 = .ok (.getfield 20, 3) := by decide +kernel
theorem dX9_trim_64 : decode cX9_trim 64 = .ok (.iconst 0, 1) := by decide +kernel
theorem dX9_trim_65 : decode cX9_trim 65 = .ok (.iaload, 1) := by decide +kernel
theorem dX9_trim_66 : decode cX9_trim 66 = .ok (.if_icmp .le 7, 3) := by decide +kernel
theorem dX9_trim_69 : decode cX9_trim 69 = .ok (.iconst 1, 1) := by decide +kernel
theorem dX9_trim_70 : decode cX9_trim 70 = .ok (.goto 4, 3) := by decide +kernel
theorem dX9_trim_73 : decode cX9_trim 73 = .ok (.iconst 0, 1) := by decide +kernel
theorem dX9_trim_74 : decode cX9_trim 74 = .ok (.iconst 2, 1) := by decide +kernel
theorem dX9_trim_75 : decode cX9_trim 75 = .ok (.invokevirtual 185, 3) := by decide +kernel
theorem dX9_trim_78 : decode cX9_trim 78 = .ok (.ifCond .eq 16, 3) := by decide +kernel
theorem dX9_trim_81 : decode cX9_trim 81 = .ok (.aload_n 0, 1) := by decide +kernel
theorem dX9_trim_82 : decode cX9_trim 82 = .ok (.getfield 43, 3) := by decide +kernel
theorem dX9_trim_85 : decode cX9_trim 85 = .ok (.aload_n 0, 1) := by decide +kernel
theorem dX9_trim_86 : decode cX9_trim 86 = .ok (.getfield 20, 3) := by decide +kernel
theorem dX9_trim_89 : decode cX9_trim 89 = .ok (.invokestatic 269, 3) := by decide +kernel
theorem dX9_trim_92 : decode cX9_trim 92 = .ok (.iconst 0, 1) := by decide +kernel
theorem dX9_trim_93 : decode cX9_trim 93 = .ok (.ireturn, 1) := by decide +kernel
theorem dX9_trim_94 : decode cX9_trim 94 = .ok (.aload_n 0, 1) := by decide +kernel
theorem dX9_trim_95 : decode cX9_trim 95 = .ok (.invokevirtual 306, 3) := by decide +kernel
theorem dX9_trim_98 : decode cX9_trim 98 = .ok (.iload_n 2, 1) := by decide +kernel
theorem dX9_trim_99 : decode cX9_trim 99 = .ok (.ireturn, 1) := by decide +kernel
theorem dX9_close_0 : decode cX9_close 0 = .ok (.aload_n 0, 1) := by decide +kernel
theorem dX9_close_1 : decode cX9_close 1 = .ok (.iload_n 1, 1) := by decide +kernel
theorem dX9_close_2 : decode cX9_close 2 = .ok (.invokevirtual 291, 3) := by decide +kernel
theorem dX9_close_5 : decode cX9_close 5 = .ok (.ifCond .ne 25, 3) := by decide +kernel
theorem dX9_close_8 : decode cX9_close 8 = .ok (.aload_n 0, 1) := by decide +kernel
theorem dX9_close_9 : decode cX9_close 9 = .ok (.aload_n 0, 1) := by decide +kernel
theorem dX9_close_10 : decode cX9_close 10 = .ok (.iload_n 1, 1) := by decide +kernel
theorem dX9_close_11 : decode cX9_close 11 = .ok (.iconst 0, 1) := by decide +kernel
theorem dX9_close_12 : decode cX9_close 12 = .ok (.invokevirtual 203, 3) := by decide +kernel
theorem dX9_close_15 : decode cX9_close 15 = .ok (.ifCond .ne 7, 3) := by decide +kernel
theorem dX9_close_18 : decode cX9_close 18 = .ok (.iconst 1, 1) := by decide +kernel
theorem dX9_close_19 : decode cX9_close 19 = .ok (.goto 4, 3) := by decide +kernel
theorem dX9_close_22 : decode cX9_close 22 = .ok (.iconst 0, 1) := by decide +kernel
theorem dX9_close_23 : decode cX9_close 23 = .ok (.iconst 2, 1) := by decide +kernel
theorem dX9_close_24 : decode cX9_close 24 = .ok (.invokevirtual 185, 3) := by decide +kernel
theorem dX9_close_27 : decode cX9_close 27 = .ok (.ifCond .eq 5, 3) := by decide +kernel
theorem dX9_close_30 : decode cX9_close 30 = .ok (.iconst 0, 1) := by decide +kernel
theorem dX9_close_31 : decode cX9_close 31 = .ok (.ireturn, 1) := by decide +kernel
theorem dX9_close_32 : decode cX9_close 32 = .ok (.aload_n 0, 1) := by decide +kernel
theorem dX9_close_33 : decode cX9_close 33 = .ok (.getfield 20, 3) := by decide +kernel
theorem dX9_close_36 : decode cX9_close 36 = .ok (.aload_n 0, 1) := by decide +kernel
theorem dX9_close_37 : decode cX9_close 37 = .ok (.getfield 43, 3) := by decide +kernel
theorem dX9_close_40 : decode cX9_close 40 = .ok (.invokestatic 269, 3) := by decide +kernel
theorem dX9_close_43 : decode cX9_close 43 = .ok (.aload_n 0, 1) := by decide +kernel
theorem dX9_close_44 : decode cX9_close 44 = .ok (.invokevirtual 306, 3) := by decide +kernel
theorem dX9_close_47 : decode cX9_close 47 = .ok (.aload_n 0, 1) := by decide +kernel
theorem dX9_close_48 : decode cX9_close 48 = .ok (.iload_n 1, 1) := by decide +kernel
theorem dX9_close_49 : decode cX9_close 49 = .ok (.invokevirtual 210, 3) := by decide +kernel
theorem dX9_close_52 : decode cX9_close 52 = .ok (.istore_n 2, 1) := by decide +kernel
theorem dX9_close_53 : decode cX9_close 53 = .ok (.aload_n 0, 1) := by decide +kernel
theorem dX9_close_54 : decode cX9_close 54 = .ok (.getfield 20, 3) := by decide +kernel
theorem dX9_close_57 : decode cX9_close 57 = .ok (.iconst 2, 1) := by decide +kernel
theorem dX9_close_58 : decode cX9_close 58 = .ok (.iaload, 1) := by decide +kernel
theorem dX9_close_59 : decode cX9_close 59 = .ok (.iload_n 1, 1) := by decide +kernel
theorem dX9_close_60 : decode cX9_close 60 = .ok (.if_icmp .ne 15, 3) := by decide +kernel
theorem dX9_close_63 : decode cX9_close 63 = .ok (.aload_n 0, 1) := by decide +kernel
theorem dX9_close_64 : decode cX9_close 64 = .ok (.iload_n 1, 1) := by decide +kernel
theorem dX9_close_65 : decode cX9_close 65 = .ok (.invokevirtual 260, 3) := by decide +kernel
theorem dX9_close_68 : decode cX9_close 68 = .ok (.aload_n 0, 1) := by decide +kernel
theorem dX9_close_69 : decode cX9_close 69 = .ok (.getfield 20, 3) := by decide +kernel
theorem dX9_close_72 : decode cX9_close 72 = .ok (.iconst 2, 1) := by decide +kernel
theorem dX9_close_73 : decode cX9_close 73 = .ok (.iconst (-1), 1) := by decide +kernel
theorem dX9_close_74 : decode cX9_close 74 = .ok (.iastore, 1) := by decide +kernel
theorem dX9_close_75 : decode cX9_close 75 = .ok (.aload_n 0, 1) := by decide +kernel
theorem dX9_close_76 : decode cX9_close 76 = .ok (.iload_n 1, 1) := by decide +kernel
theorem dX9_close_77 : decode cX9_close 77 = .ok (.invokevirtual 244, 3) := by decide +kernel
theorem dX9_close_80 : decode cX9_close 80 = .ok (.iload_n 2, 1) := by decide +kernel
theorem dX9_close_81 : decode cX9_close 81 = .ok (.ireturn, 1) := by decide +kernel
theorem dX9_setLimit_0 : decode cX9_setLimit 0 = .ok (.aload_n 0, 1) := by decide +kernel
theorem dX9_setLimit_1 : decode cX9_setLimit 1 = .ok (.iconst 0, 1) := by decide +kernel
theorem dX9_setLimit_2 : decode cX9_setLimit 2 = .ok (.putfield 65, 3) := by decide +kernel
theorem dX9_setLimit_5 : decode cX9_setLimit 5 = .ok (.aload_n 0, 1) := by decide +kernel
theorem dX9_setLimit_6 : decode cX9_setLimit 6 = .ok (.iload_n 1, 1) := by decide +kernel
theorem dX9_setLimit_7 : decode cX9_setLimit 7 = .ok (.bipush 50, 2) := by decide +kernel
theorem dX9_setLimit_9 : decode cX9_setLimit 9 = .ok (.sipush 2000, 3) := by decide +kernel
theorem dX9_setLimit_12 : decode cX9_setLimit 12 = .ok (.invokestatic 89, 3) := by decide +kernel
theorem dX9_setLimit_15 : decode cX9_setLimit 15 = .ok (.ifCond .ne 7, 3) := by decide +kernel
theorem dX9_setLimit_18 : decode cX9_setLimit 18 = .ok (.iconst 1, 1) := by decide +kernel
theorem dX9_setLimit_19 : decode cX9_setLimit 19 = .ok (.goto 4, 3) := by decide +kernel
theorem dX9_setLimit_22 : decode cX9_setLimit 22 = .ok (.iconst 0, 1) := by decide +kernel
theorem dX9_setLimit_23 : decode cX9_setLimit 23 = .ok (.iconst 1, 1) := by decide +kernel
theorem dX9_setLimit_24 : decode cX9_setLimit 24 = .ok (.invokevirtual 185, 3) := by decide +kernel
theorem dX9_setLimit_27 : decode cX9_setLimit 27 = .ok (.ifCond .eq 5, 3) := by decide +kernel
theorem dX9_setLimit_30 : decode cX9_setLimit 30 = .ok (.iconst 0, 1) := by decide +kernel
theorem dX9_setLimit_31 : decode cX9_setLimit 31 = .ok (.ireturn, 1) := by decide +kernel
theorem dX9_setLimit_32 : decode cX9_setLimit 32 = .ok (.aload_n 0, 1) := by decide +kernel
theorem dX9_setLimit_33 : decode cX9_setLimit 33 = .ok (.getfield 20, 3) := by decide +kernel
theorem dX9_setLimit_36 : decode cX9_setLimit 36 = .ok (.aload_n 0, 1) := by decide +kernel
theorem dX9_setLimit_37 : decode cX9_setLimit 37 = .ok (.getfield 43, 3) := by decide +kernel
theorem dX9_setLimit_40 : decode cX9_setLimit 40 = .ok (.invokestatic 269, 3) := by decide +kernel
theorem dX9_setLimit_43 : decode cX9_setLimit 43 = .ok (.aload_n 0, 1) := by decide +kernel
theorem dX9_setLimit_44 : decode cX9_setLimit 44 = .ok (.getfield 20, 3) := by decide +kernel
theorem dX9_setLimit_47 : decode cX9_setLimit 47 = .ok (.iconst 0, 1) := by decide +kernel
theorem dX9_setLimit_48 : decode cX9_setLimit 48 = .ok (.iload_n 1, 1) := by decide +kernel
theorem dX9_setLimit_49 : decode cX9_setLimit 49 = .ok (.iastore, 1) := by decide +kernel
theorem dX9_setLimit_50 : decode cX9_setLimit 50 = .ok (.aload_n 0, 1) := by decide +kernel
theorem dX9_setLimit_51 : decode cX9_setLimit 51 = .ok (.invokevirtual 276, 3) := by decide +kernel
theorem dX9_setLimit_54 : decode cX9_setLimit 54 = .ok (.istore_n 2, 1) := by decide +kernel
theorem dX9_setLimit_55 : decode cX9_setLimit 55 = .ok (.aload_n 0, 1) := by decide +kernel
theorem dX9_setLimit_56 : decode cX9_setLimit 56 = .ok (.iload_n 2, 1) := by decide +kernel
theorem dX9_setLimit_57 : decode cX9_setLimit 57 = .ok (.iconst (-1), 1) := by decide +kernel
theorem dX9_setLimit_58 : decode cX9_setLimit 58 = .ok (.if_icmp .ne 7, 3) := by decide +kernel
theorem dX9_setLimit_61 : decode cX9_setLimit 61 = .ok (.iconst 1, 1) := by decide +kernel
theorem dX9_setLimit_62 : decode cX9_setLimit 62 = .ok (.goto 4, 3) := by decide +kernel
theorem dX9_setLimit_65 : decode cX9_setLimit 65 = .ok (.iconst 0, 1) := by decide +kernel
theorem dX9_setLimit_66 : decode cX9_setLimit 66 = .ok (.iconst 2, 1) := by decide +kernel
theorem dX9_setLimit_67 : decode cX9_setLimit 67 = .ok (.invokevirtual 185, 3) := by decide +kernel
theorem dX9_setLimit_70 : decode cX9_setLimit 70 = .ok (.ifCond .eq 16, 3) := by decide +kernel
theorem dX9_setLimit_73 : decode cX9_setLimit 73 = .ok (.aload_n 0, 1) := by decide +kernel
theorem dX9_setLimit_74 : decode cX9_setLimit 74 = .ok (.getfield 43, 3) := by decide +kernel
theorem dX9_setLimit_77 : decode cX9_setLimit 77 = .ok (.aload_n 0, 1) := by decide +kernel
theorem dX9_setLimit_78 : decode cX9_setLimit 78 = .ok (.getfield 20, 3) := by decide +kernel
theorem dX9_setLimit_81 : decode cX9_setLimit 81 = .ok (.invokestatic 269, 3) := by decide +kernel
theorem dX9_setLimit_84 : decode cX9_setLimit 84 = .ok (.iconst 0, 1) := by decide +kernel
theorem dX9_setLimit_85 : decode cX9_setLimit 85 = .ok (.ireturn, 1) := by decide +kernel
theorem dX9_setLimit_86 : decode cX9_setLimit 86 = .ok (.aload_n 0, 1) := by decide +kernel
theorem dX9_setLimit_87 : decode cX9_setLimit 87 = .ok (.invokevirtual 306, 3) := by decide +kernel
theorem dX9_setLimit_90 : decode cX9_setLimit 90 = .ok (.iload_n 2, 1) := by decide +kernel
theorem dX9_setLimit_91 : decode cX9_setLimit 91 = .ok (.ireturn, 1) := by decide +kernel
theorem dX9_setPolicy_0 : decode cX9_setPolicy 0 = .ok (.aload_n 0, 1) := by decide +kernel
theorem dX9_setPolicy_1 : decode cX9_setPolicy 1 = .ok (.iconst 0, 1) := by decide +kernel
theorem dX9_setPolicy_2 : decode cX9_setPolicy 2 = .ok (.putfield 65, 3) := by decide +kernel
theorem dX9_setPolicy_5 : decode cX9_setPolicy 5 = .ok (.aload_n 0, 1) := by decide +kernel
theorem dX9_setPolicy_6 : decode cX9_setPolicy 6 = .ok (.iload_n 1, 1) := by decide +kernel
theorem dX9_setPolicy_7 : decode cX9_setPolicy 7 = .ok (.iconst 0, 1) := by decide +kernel
theorem dX9_setPolicy_8 : decode cX9_setPolicy 8 = .ok (.iconst 2, 1) := by decide +kernel
theorem dX9_setPolicy_9 : decode cX9_setPolicy 9 = .ok (.invokestatic 89, 3) := by decide +kernel
theorem dX9_setPolicy_12 : decode cX9_setPolicy 12 = .ok (.ifCond .ne 7, 3) := by decide +kernel
theorem dX9_setPolicy_15 : decode cX9_setPolicy 15 = .ok (.iconst 1, 1) := by decide +kernel
theorem dX9_setPolicy_16 : decode cX9_setPolicy 16 = .ok (.goto 4, 3) := by decide +kernel
theorem dX9_setPolicy_19 : decode cX9_setPolicy 19 = .ok (.iconst 0, 1) := by decide +kernel
theorem dX9_setPolicy_20 : decode cX9_setPolicy 20 = .ok (.iconst 1, 1) := by decide +kernel
theorem dX9_setPolicy_21 : decode cX9_setPolicy 21 = .ok (.invokevirtual 185, 3) := by decide +kernel
theorem dX9_setPolicy_24 : decode cX9_setPolicy 24 = .ok (.ifCond .eq 5, 3) := by decide +kernel
theorem dX9_setPolicy_27 : decode cX9_setPolicy 27 = .ok (.iconst 0, 1) := by decide +kernel
theorem dX9_setPolicy_28 : decode cX9_setPolicy 28 = .ok (.ireturn, 1) := by decide +kernel
theorem dX9_setPolicy_29 : decode cX9_setPolicy 29 = .ok (.aload_n 0, 1) := by decide +kernel
theorem dX9_setPolicy_30 : decode cX9_setPolicy 30 = .ok (.getfield 20, 3) := by decide +kernel
theorem dX9_setPolicy_33 : decode cX9_setPolicy 33 = .ok (.aload_n 0, 1) := by decide +kernel
theorem dX9_setPolicy_34 : decode cX9_setPolicy 34 = .ok (.getfield 43, 3) := by decide +kernel
theorem dX9_setPolicy_37 : decode cX9_setPolicy 37 = .ok (.invokestatic 269, 3) := by decide +kernel
theorem dX9_setPolicy_40 : decode cX9_setPolicy 40 = .ok (.aload_n 0, 1) := by decide +kernel
theorem dX9_setPolicy_41 : decode cX9_setPolicy 41 = .ok (.invokevirtual 306, 3) := by decide +kernel
theorem dX9_setPolicy_44 : decode cX9_setPolicy 44 = .ok (.aload_n 0, 1) := by decide +kernel
theorem dX9_setPolicy_45 : decode cX9_setPolicy 45 = .ok (.getfield 20, 3) := by decide +kernel
theorem dX9_setPolicy_48 : decode cX9_setPolicy 48 = .ok (.iconst 4, 1) := by decide +kernel
theorem dX9_setPolicy_49 : decode cX9_setPolicy 49 = .ok (.iaload, 1) := by decide +kernel
theorem dX9_setPolicy_50 : decode cX9_setPolicy 50 = .ok (.istore_n 2, 1) := by decide +kernel
theorem dX9_setPolicy_51 : decode cX9_setPolicy 51 = .ok (.aload_n 0, 1) := by decide +kernel
theorem dX9_setPolicy_52 : decode cX9_setPolicy 52 = .ok (.getfield 20, 3) := by decide +kernel
theorem dX9_setPolicy_55 : decode cX9_setPolicy 55 = .ok (.iconst 4, 1) := by decide +kernel
theorem dX9_setPolicy_56 : decode cX9_setPolicy 56 = .ok (.iload_n 1, 1) := by decide +kernel
theorem dX9_setPolicy_57 : decode cX9_setPolicy 57 = .ok (.iastore, 1) := by decide +kernel
theorem dX9_setPolicy_58 : decode cX9_setPolicy 58 = .ok (.iload_n 2, 1) := by decide +kernel
theorem dX9_setPolicy_59 : decode cX9_setPolicy 59 = .ok (.ireturn, 1) := by decide +kernel
theorem dX9_copies_0 : decode cX9_copies 0 = .ok (.iconst 0, 1) := by decide +kernel
theorem dX9_copies_1 : decode cX9_copies 1 = .ok (.istore 4, 2) := by decide +kernel
theorem dX9_copies_3 : decode cX9_copies 3 = .ok (.iload 4, 2) := by decide +kernel
theorem dX9_copies_5 : decode cX9_copies 5 = .ok (.sipush 438, 3) := by decide +kernel
theorem dX9_copies_8 : decode cX9_copies 8 = .ok (.if_icmp .ge 21, 3) := by decide +kernel
theorem dX9_copies_11 : decode cX9_copies 11 = .ok (.aload_n 2, 1) := by decide +kernel
theorem dX9_copies_12 : decode cX9_copies 12 = .ok (.iload_n 3, 1) := by decide +kernel
theorem dX9_copies_13 : decode cX9_copies 13 = .ok (.iload 4, 2) := by decide +kernel
theorem dX9_copies_15 : decode cX9_copies 15 = .ok (.iadd, 1) := by decide +kernel
theorem dX9_copies_16 : decode cX9_copies 16 = .ok (.aload_n 0, 1) := by decide +kernel
theorem dX9_copies_17 : decode cX9_copies 17 = .ok (.iload_n 1, 1) := by decide +kernel
theorem dX9_copies_18 : decode cX9_copies 18 = .ok (.iload 4, 2) := by decide +kernel
theorem dX9_copies_20 : decode cX9_copies 20 = .ok (.iadd, 1) := by decide +kernel
theorem dX9_copies_21 : decode cX9_copies 21 = .ok (.iaload, 1) := by decide +kernel
theorem dX9_copies_22 : decode cX9_copies 22 = .ok (.iastore, 1) := by decide +kernel
theorem dX9_copies_23 : decode cX9_copies 23 = .ok (.iinc 4 1, 3) := by decide +kernel
theorem dX9_copies_26 : decode cX9_copies 26 = .ok (.goto (-23), 3) := by decide +kernel
theorem dX9_copies_29 : decode cX9_copies 29 = .ok (.return_, 1) := by decide +kernel
theorem dX9_keeps_0 : decode cX9_keeps 0 = .ok (.aload_n 0, 1) := by decide +kernel
theorem dX9_keeps_1 : decode cX9_keeps 1 = .ok (.getfield 200, 3) := by decide +kernel
theorem dX9_keeps_4 : decode cX9_keeps 4 = .ok (.bipush 10, 2) := by decide +kernel
theorem dX9_keeps_6 : decode cX9_keeps 6 = .ok (.if_icmp .ne 52, 3) := by decide +kernel
theorem dX9_keeps_9 : decode cX9_keeps 9 = .ok (.aload_n 0, 1) := by decide +kernel
theorem dX9_keeps_10 : decode cX9_keeps 10 = .ok (.dup, 1) := by decide +kernel
theorem dX9_keeps_11 : decode cX9_keeps 11 = .ok (.getfield 200, 3) := by decide +kernel
theorem dX9_keeps_14 : decode cX9_keeps 14 = .ok (.iconst 1, 1) := by decide +kernel
theorem dX9_keeps_15 : decode cX9_keeps 15 = .ok (.isub, 1) := by decide +kernel
theorem dX9_keeps_16 : decode cX9_keeps 16 = .ok (.putfield 200, 3) := by decide +kernel
theorem dX9_keeps_19 : decode cX9_keeps 19 = .ok (.iconst 0, 1) := by decide +kernel
theorem dX9_keeps_20 : decode cX9_keeps 20 = .ok (.istore_n 1, 1) := by decide +kernel
theorem dX9_keeps_21 : decode cX9_keeps 21 = .ok (.iload_n 1, 1) := by decide +kernel
theorem dX9_keeps_22 : decode cX9_keeps 22 = .ok (.aload_n 0, 1) := by decide +kernel
theorem dX9_keeps_23 : decode cX9_keeps 23 = .ok (.getfield 200, 3) := by decide +kernel
theorem dX9_keeps_26 : decode cX9_keeps 26 = .ok (.if_icmp .ge 32, 3) := by decide +kernel
theorem dX9_keeps_29 : decode cX9_keeps 29 = .ok (.aload_n 0, 1) := by decide +kernel
theorem dX9_keeps_30 : decode cX9_keeps 30 = .ok (.getfield 46, 3) := by decide +kernel
theorem dX9_keeps_33 : decode cX9_keeps 33 = .ok (.sipush 438, 3) := by decide +kernel
theorem dX9_keeps_36 : decode cX9_keeps 36 = .ok (.iload_n 1, 1) := by decide +kernel
theorem dX9_keeps_37 : decode cX9_keeps 37 = .ok (.iconst 1, 1) := by decide +kernel
theorem dX9_keeps_38 : decode cX9_keeps 38 = .ok (.iadd, 1) := by decide +kernel
theorem dX9_keeps_39 : decode cX9_keeps 39 = .ok (.imul, 1) := by decide +kernel
theorem dX9_keeps_40 : decode cX9_keeps 40 = .ok (.aload_n 0, 1) := by decide +kernel
theorem dX9_keeps_41 : decode cX9_keeps 41 = .ok (.getfield 46, 3) := by decide +kernel
theorem dX9_keeps_44 : decode cX9_keeps 44 = .ok (.sipush 438, 3) := by decide +kernel
theorem dX9_keeps_47 : decode cX9_keeps 47 = .ok (.iload_n 1, 1) := by decide +kernel
theorem dX9_keeps_48 : decode cX9_keeps 48 = .ok (.imul, 1) := by decide +kernel
theorem dX9_keeps_49 : decode cX9_keeps 49 = .ok (.invokestatic 318, 3) := by decide +kernel
theorem dX9_keeps_52 : decode cX9_keeps 52 = .ok (.iinc 1 1, 3) := by decide +kernel
theorem dX9_keeps_55 : decode cX9_keeps 55 = .ok (.goto (-34), 3) := by decide +kernel
theorem dX9_keeps_58 : decode cX9_keeps 58 = .ok (.aload_n 0, 1) := by decide +kernel
theorem dX9_keeps_59 : decode cX9_keeps 59 = .ok (.getfield 43, 3) := by decide +kernel
theorem dX9_keeps_62 : decode cX9_keeps 62 = .ok (.iconst 0, 1) := by decide +kernel
theorem dX9_keeps_63 : decode cX9_keeps 63 = .ok (.aload_n 0, 1) := by decide +kernel
theorem dX9_keeps_64 : decode cX9_keeps 64 = .ok (.getfield 46, 3) := by decide +kernel
theorem dX9_keeps_67 : decode cX9_keeps 67 = .ok (.sipush 438, 3) := by decide +kernel
theorem dX9_keeps_70 : decode cX9_keeps 70 = .ok (.aload_n 0, 1) := by decide +kernel
theorem dX9_keeps_71 : decode cX9_keeps 71 = .ok (.getfield 200, 3) := by decide +kernel
theorem dX9_keeps_74 : decode cX9_keeps 74 = .ok (.imul, 1) := by decide +kernel
theorem dX9_keeps_75 : decode cX9_keeps 75 = .ok (.invokestatic 318, 3) := by decide +kernel
theorem dX9_keeps_78 : decode cX9_keeps 78 = .ok (.aload_n 0, 1) := by decide +kernel
theorem dX9_keeps_79 : decode cX9_keeps 79 = .ok (.dup, 1) := by decide +kernel
theorem dX9_keeps_80 : decode cX9_keeps 80 = .ok (.getfield 200, 3) := by decide +kernel
theorem dX9_keeps_83 : decode cX9_keeps 83 = .ok (.iconst 1, 1) := by decide +kernel
theorem dX9_keeps_84 : decode cX9_keeps 84 = .ok (.iadd, 1) := by decide +kernel
theorem dX9_keeps_85 : decode cX9_keeps 85 = .ok (.putfield 200, 3) := by decide +kernel
theorem dX9_keeps_88 : decode cX9_keeps 88 = .ok (.return_, 1) := by decide +kernel
theorem dX9_undo_0 : decode cX9_undo 0 = .ok (.aload_n 0, 1) := by decide +kernel
theorem dX9_undo_1 : decode cX9_undo 1 = .ok (.iconst 0, 1) := by decide +kernel
theorem dX9_undo_2 : decode cX9_undo 2 = .ok (.putfield 65, 3) := by decide +kernel
theorem dX9_undo_5 : decode cX9_undo 5 = .ok (.aload_n 0, 1) := by decide +kernel
theorem dX9_undo_6 : decode cX9_undo 6 = .ok (.getfield 200, 3) := by decide +kernel
theorem dX9_undo_9 : decode cX9_undo 9 = .ok (.ifCond .ne 5, 3) := by decide +kernel
theorem dX9_undo_12 : decode cX9_undo 12 = .ok (.iconst (-1), 1) := by decide +kernel
theorem dX9_undo_13 : decode cX9_undo 13 = .ok (.ireturn, 1) := by decide +kernel
theorem dX9_undo_14 : decode cX9_undo 14 = .ok (.aload_n 0, 1) := by decide +kernel
theorem dX9_undo_15 : decode cX9_undo 15 = .ok (.dup, 1) := by decide +kernel
theorem dX9_undo_16 : decode cX9_undo 16 = .ok (.getfield 200, 3) := by decide +kernel
theorem dX9_undo_19 : decode cX9_undo 19 = .ok (.iconst 1, 1) := by decide +kernel
theorem dX9_undo_20 : decode cX9_undo 20 = .ok (.isub, 1) := by decide +kernel
theorem dX9_undo_21 : decode cX9_undo 21 = .ok (.putfield 200, 3) := by decide +kernel
theorem dX9_undo_24 : decode cX9_undo 24 = .ok (.aload_n 0, 1) := by decide +kernel
theorem dX9_undo_25 : decode cX9_undo 25 = .ok (.getfield 46, 3) := by decide +kernel
theorem dX9_undo_28 : decode cX9_undo 28 = .ok (.sipush 438, 3) := by decide +kernel
theorem dX9_undo_31 : decode cX9_undo 31 = .ok (.aload_n 0, 1) := by decide +kernel
theorem dX9_undo_32 : decode cX9_undo 32 = .ok (.getfield 200, 3) := by decide +kernel
theorem dX9_undo_35 : decode cX9_undo 35 = .ok (.imul, 1) := by decide +kernel
theorem dX9_undo_36 : decode cX9_undo 36 = .ok (.aload_n 0, 1) := by decide +kernel
theorem dX9_undo_37 : decode cX9_undo 37 = .ok (.getfield 20, 3) := by decide +kernel
theorem dX9_undo_40 : decode cX9_undo 40 = .ok (.iconst 0, 1) := by decide +kernel
theorem dX9_undo_41 : decode cX9_undo 41 = .ok (.invokestatic 318, 3) := by decide +kernel
theorem dX9_undo_44 : decode cX9_undo 44 = .ok (.aload_n 0, 1) := by decide +kernel
theorem dX9_undo_45 : decode cX9_undo 45 = .ok (.getfield 200, 3) := by decide +kernel
theorem dX9_undo_48 : decode cX9_undo 48 = .ok (.ireturn, 1) := by decide +kernel
theorem dX9_noSlot_0 : decode cX9_noSlot 0 = .ok (.aload_n 0, 1) := by decide +kernel
theorem dX9_noSlot_1 : decode cX9_noSlot 1 = .ok (.iconst 0, 1) := by decide +kernel
theorem dX9_noSlot_2 : decode cX9_noSlot 2 = .ok (.putfield 65, 3) := by decide +kernel
theorem dX9_noSlot_5 : decode cX9_noSlot 5 = .ok (.aload_n 0, 1) := by decide +kernel
theorem dX9_noSlot_6 : decode cX9_noSlot 6 = .ok (.iload_n 1, 1) := by decide +kernel
theorem dX9_noSlot_7 : decode cX9_noSlot 7 = .ok (.iconst 2, 1) := by decide +kernel
theorem dX9_noSlot_8 : decode cX9_noSlot 8 = .ok (.invokevirtual 288, 3) := by decide +kernel
theorem dX9_noSlot_11 : decode cX9_noSlot 11 = .ok (.ireturn, 1) := by decide +kernel
theorem dX9_saveSnapshot_0 : decode cX9_saveSnapshot 0 = .ok (.aload_n 0, 1) := by decide +kernel
theorem dX9_saveSnapshot_1 : decode cX9_saveSnapshot 1 = .ok (.iload_n 1, 1) := by decide +kernel
theorem dX9_saveSnapshot_2 : decode cX9_saveSnapshot 2 = .ok (.invokevirtual 322, 3) := by decide +kernel
theorem dX9_saveSnapshot_5 : decode cX9_saveSnapshot 5 = .ok (.ifCond .eq 5, 3) := by decide +kernel
theorem dX9_saveSnapshot_8 : decode cX9_saveSnapshot 8 = .ok (.iconst 0, 1) := by decide +kernel
theorem dX9_saveSnapshot_9 : decode cX9_saveSnapshot 9 = .ok (.ireturn, 1) := by decide +kernel
theorem dX9_saveSnapshot_10 : decode cX9_saveSnapshot 10 = .ok (.aload_n 0, 1) := by decide +kernel
theorem dX9_saveSnapshot_11 : decode cX9_saveSnapshot 11 = .ok (.getfield 52, 3) := by decide +kernel
theorem dX9_saveSnapshot_14 : decode cX9_saveSnapshot 14 = .ok (.iload_n 1, 1) := by decide +kernel
theorem dX9_saveSnapshot_15 : decode cX9_saveSnapshot 15 = .ok (.baload, 1) := by decide +kernel
theorem dX9_saveSnapshot_16 : decode cX9_saveSnapshot 16 = .ok (.istore_n 2, 1) := by decide +kernel
theorem dX9_saveSnapshot_17 : decode cX9_saveSnapshot 17 = .ok (.aload_n 0, 1) := by decide +kernel
theorem dX9_saveSnapshot_18 : decode cX9_saveSnapshot 18 = .ok (.getfield 20, 3) := by decide +kernel
theorem dX9_saveSnapshot_21 : decode cX9_saveSnapshot 21 = .ok (.iconst 0, 1) := by decide +kernel
theorem dX9_saveSnapshot_22 : decode cX9_saveSnapshot 22 = .ok (.aload_n 0, 1) := by decide +kernel
theorem dX9_saveSnapshot_23 : decode cX9_saveSnapshot 23 = .ok (.getfield 49, 3) := by decide +kernel
theorem dX9_saveSnapshot_26 : decode cX9_saveSnapshot 26 = .ok (.sipush 438, 3) := by decide +kernel
theorem dX9_saveSnapshot_29 : decode cX9_saveSnapshot 29 = .ok (.iload_n 1, 1) := by decide +kernel
theorem dX9_saveSnapshot_30 : decode cX9_saveSnapshot 30 = .ok (.imul, 1) := by decide +kernel
theorem dX9_saveSnapshot_31 : decode cX9_saveSnapshot 31 = .ok (.invokestatic 318, 3) := by decide +kernel
theorem dX9_saveSnapshot_34 : decode cX9_saveSnapshot 34 = .ok (.aload_n 0, 1) := by decide +kernel
theorem dX9_saveSnapshot_35 : decode cX9_saveSnapshot 35 = .ok (.getfield 52, 3) := by decide +kernel
theorem dX9_saveSnapshot_38 : decode cX9_saveSnapshot 38 = .ok (.iload_n 1, 1) := by decide +kernel
theorem dX9_saveSnapshot_39 : decode cX9_saveSnapshot 39 = .ok (.iconst 1, 1) := by decide +kernel
theorem dX9_saveSnapshot_40 : decode cX9_saveSnapshot 40 = .ok (.bastore, 1) := by decide +kernel
theorem dX9_saveSnapshot_41 : decode cX9_saveSnapshot 41 = .ok (.iload_n 2, 1) := by decide +kernel
theorem dX9_saveSnapshot_42 : decode cX9_saveSnapshot 42 = .ok (.ireturn, 1) := by decide +kernel
theorem dX9_restoreSnapshot_0 : decode cX9_restoreSnapshot 0 = .ok (.aload_n 0, 1) := by decide +kernel
theorem dX9_restoreSnapshot_1 : decode cX9_restoreSnapshot 1 = .ok (.iload_n 1, 1) := by decide +kernel
theorem dX9_restoreSnapshot_2 : decode cX9_restoreSnapshot 2 = .ok (.invokevirtual 322, 3) := by decide +kernel
theorem dX9_restoreSnapshot_5 : decode cX9_restoreSnapshot 5 = .ok (.ifCond .ne 25, 3) := by decide +kernel
theorem dX9_restoreSnapshot_8 : decode cX9_restoreSnapshot 8 = .ok (.aload_n 0, 1) := by decide +kernel
theorem dX9_restoreSnapshot_9 : decode cX9_restoreSnapshot 9 = .ok (.aload_n 0, 1) := by decide +kernel
theorem dX9_restoreSnapshot_10 : decode cX9_restoreSnapshot 10 = .ok (.getfield 52, 3) := by decide +kernel
theorem dX9_restoreSnapshot_13 : decode cX9_restoreSnapshot 13 = .ok (.iload_n 1, 1) := by decide +kernel
theorem dX9_restoreSnapshot_14 : decode cX9_restoreSnapshot 14 = .ok (.baload, 1) := by decide +kernel
theorem dX9_restoreSnapshot_15 : decode cX9_restoreSnapshot 15 = .ok (.ifCond .ne 7, 3) := by decide +kernel
theorem dX9_restoreSnapshot_18 : decode cX9_restoreSnapshot 18 = .ok (.iconst 1, 1) := by decide +kernel
theorem dX9_restoreSnapshot_19 : decode cX9_restoreSnapshot 19 = .ok (.goto 4, 3) := by decide +kernel
theorem dX9_restoreSnapshot_22 : decode cX9_restoreSnapshot 22 = .ok (.iconst 0, 1) := by decide +kernel
theorem dX9_restoreSnapshot_23 : decode cX9_restoreSnapshot 23 = .ok (.iconst 2, 1) := by decide +kernel
theorem dX9_restoreSnapshot_24 : decode cX9_restoreSnapshot 24 = .ok (.invokevirtual 185, 3) := by decide +kernel
theorem dX9_restoreSnapshot_27 : decode cX9_restoreSnapshot 27 = .ok (.ifCond .eq 5, 3) := by decide +kernel
theorem dX9_restoreSnapshot_30 : decode cX9_restoreSnapshot 30 = .ok (.iconst 0, 1) := by decide +kernel
theorem dX9_restoreSnapshot_31 : decode cX9_restoreSnapshot 31 = .ok (.ireturn, 1) := by decide +kernel
theorem dX9_restoreSnapshot_32 : decode cX9_restoreSnapshot 32 = .ok (.aload_n 0, 1) := by decide +kernel
theorem dX9_restoreSnapshot_33 : decode cX9_restoreSnapshot 33 = .ok (.getfield 49, 3) := by decide +kernel
theorem dX9_restoreSnapshot_36 : decode cX9_restoreSnapshot 36 = .ok (.sipush 438, 3) := by decide +kernel
theorem dX9_restoreSnapshot_39 : decode cX9_restoreSnapshot 39 = .ok (.iload_n 1, 1) := by decide +kernel
theorem dX9_restoreSnapshot_40 : decode cX9_restoreSnapshot 40 = .ok (.imul, 1) := by decide +kernel
theorem dX9_restoreSnapshot_41 : decode cX9_restoreSnapshot 41 = .ok (.aload_n 0, 1) := by decide +kernel
theorem dX9_restoreSnapshot_42 : decode cX9_restoreSnapshot 42 = .ok (.getfield 20, 3) := by decide +kernel
theorem dX9_restoreSnapshot_45 : decode cX9_restoreSnapshot 45 = .ok (.iconst 0, 1) := by decide +kernel
theorem dX9_restoreSnapshot_46 : decode cX9_restoreSnapshot 46 = .ok (.invokestatic 318, 3) := by decide +kernel
theorem dX9_restoreSnapshot_49 : decode cX9_restoreSnapshot 49 = .ok (.aload_n 0, 1) := by decide +kernel
theorem dX9_restoreSnapshot_50 : decode cX9_restoreSnapshot 50 = .ok (.iconst 0, 1) := by decide +kernel
theorem dX9_restoreSnapshot_51 : decode cX9_restoreSnapshot 51 = .ok (.putfield 200, 3) := by decide +kernel
theorem dX9_restoreSnapshot_54 : decode cX9_restoreSnapshot 54 = .ok (.aload_n 0, 1) := by decide +kernel
theorem dX9_restoreSnapshot_55 : decode cX9_restoreSnapshot 55 = .ok (.getfield 20, 3) := by decide +kernel
theorem dX9_restoreSnapshot_58 : decode cX9_restoreSnapshot 58 = .ok (.iconst 1, 1) := by decide +kernel
theorem dX9_restoreSnapshot_59 : decode cX9_restoreSnapshot 59 = .ok (.iaload, 1) := by decide +kernel
theorem dX9_restoreSnapshot_60 : decode cX9_restoreSnapshot 60 = .ok (.ireturn, 1) := by decide +kernel
