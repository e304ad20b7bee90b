theorem dX0_init_0 : decode cX0_init 0 = .ok (.aload_n 0, 1) := by decide +kernel
theorem dX0_init_1 : decode cX0_init 1 = .ok (.invokespecial 3, 3) := by decide +kernel
theorem dX0_init_4 : decode cX0_init 4 = .ok (.aload_n 0, 1) := by decide +kernel
theorem dX0_init_5 : decode cX0_init 5 = .ok (.bipush 10, 2) := by decide +kernel
theorem dX0_init_7 : decode cX0_init 7 = .ok (.newarray .long, 2) := by decide +kernel
theorem dX0_init_9 : decode cX0_init 9 = .ok (.putfield 9, 3) := by decide +kernel
theorem dX0_init_12 : decode cX0_init 12 = .ok (.aload_n 0, 1) := by decide +kernel
theorem dX0_init_13 : decode cX0_init 13 = .ok (.bipush 10, 2) := by decide +kernel
theorem dX0_init_15 : decode cX0_init 15 = .ok (.bipush 8, 2) := by decide +kernel
theorem dX0_init_17 : decode cX0_init 17 = .ok (.multianewarray 15 2, 4) := by decide +kernel
theorem dX0_init_21 : decode cX0_init 21 = .ok (.putfield 17, 3) := by decide +kernel
theorem dX0_init_24 : decode cX0_init 24 = .ok (.aload_n 0, 1) := by decide +kernel
theorem dX0_init_25 : decode cX0_init 25 = .ok (.invokevirtual 20, 3) := by decide +kernel
theorem dX0_init_28 : decode cX0_init 28 = .ok (.return_, 1) := by decide +kernel
theorem dX0_begin_0 : decode cX0_begin 0 = .ok (.aload_n 0, 1) := by decide +kernel
theorem dX0_begin_1 : decode cX0_begin 1 = .ok (.bipush 100, 2) := by decide +kernel
theorem dX0_begin_3 : decode cX0_begin 3 = .ok (.putfield 23, 3) := by decide +kernel
theorem dX0_begin_6 : decode cX0_begin 6 = .ok (.aload_n 0, 1) := by decide +kernel
theorem dX0_begin_7 : decode cX0_begin 7 = .ok (.iconst 0, 1) := by decide +kernel
theorem dX0_begin_8 : decode cX0_begin 8 = .ok (.putfield 27, 3) := by decide +kernel
theorem dX0_begin_11 : decode cX0_begin 11 = .ok (.aload_n 0, 1) := by decide +kernel
theorem dX0_begin_12 : decode cX0_begin 12 = .ok (.bipush 10, 2) := by decide +kernel
theorem dX0_begin_14 : decode cX0_begin 14 = .ok (.putfield 30, 3) := by decide +kernel
theorem dX0_begin_17 : decode cX0_begin 17 = .ok (.aload_n 0, 1) := by decide +kernel
theorem dX0_begin_18 : decode cX0_begin 18 = .ok (.iconst 2, 1) := by decide +kernel
theorem dX0_begin_19 : decode cX0_begin 19 = .ok (.putfield 33, 3) := by decide +kernel
theorem dX0_begin_22 : decode cX0_begin 22 = .ok (.aload_n 0, 1) := by decide +kernel
theorem dX0_begin_23 : decode cX0_begin 23 = .ok (.iconst 5, 1) := by decide +kernel
theorem dX0_begin_24 : decode cX0_begin 24 = .ok (.putfield 36, 3) := by decide +kernel
theorem dX0_begin_27 : decode cX0_begin 27 = .ok (.aload_n 0, 1) := by decide +kernel
theorem dX0_begin_28 : decode cX0_begin 28 = .ok (.bipush 20, 2) := by decide +kernel
theorem dX0_begin_30 : decode cX0_begin 30 = .ok (.putfield 39, 3) := by decide +kernel
theorem dX0_begin_33 : decode cX0_begin 33 = .ok (.aload_n 0, 1) := by decide +kernel
theorem dX0_begin_34 : decode cX0_begin 34 = .ok (.iconst 0, 1) := by decide +kernel
theorem dX0_begin_35 : decode cX0_begin 35 = .ok (.putfield 42, 3) := by decide +kernel
theorem dX0_begin_38 : decode cX0_begin 38 = .ok (.return_, 1) := by decide +kernel
theorem dX0_withName_0 : decode cX0_withName 0 = .ok (.iconst 0, 1) := by decide +kernel
theorem dX0_withName_1 : decode cX0_withName 1 = .ok (.istore_n 3, 1) := by decide +kernel
theorem dX0_withName_2 : decode cX0_withName 2 = .ok (.iload_n 3, 1) := by decide +kernel
theorem dX0_withName_3 : decode cX0_withName 3 = .ok (.aload_n 0, 1) := by decide +kernel
theorem dX0_withName_4 : decode cX0_withName 4 = .ok (.getfield 42, 3) := by decide +kernel
theorem dX0_withName_7 : decode cX0_withName 7 = .ok (.if_icmp .ge 22, 3) := by decide +kernel
theorem dX0_withName_10 : decode cX0_withName 10 = .ok (.aload_n 0, 1) := by decide +kernel
theorem dX0_withName_11 : decode cX0_withName 11 = .ok (.getfield 9, 3) := by decide +kernel
theorem dX0_withName_14 : decode cX0_withName 14 = .ok (.iload_n 3, 1) := by decide +kernel
theorem dX0_withName_15 : decode cX0_withName 15 = .ok (.laload, 1) := by decide +kernel
theorem dX0_withName_16 : decode cX0_withName 16 = .ok (.lload_n 1, 1) := by decide +kernel
theorem dX0_withName_17 : decode cX0_withName 17 = .ok (.lcmp, 1) := by decide +kernel
theorem dX0_withName_18 : decode cX0_withName 18 = .ok (.ifCond .ne 5, 3) := by decide +kernel
theorem dX0_withName_21 : decode cX0_withName 21 = .ok (.iload_n 3, 1) := by decide +kernel
theorem dX0_withName_22 : decode cX0_withName 22 = .ok (.ireturn, 1) := by decide +kernel
theorem dX0_withName_23 : decode cX0_withName 23 = .ok (.iinc 3 1, 3) := by decide +kernel
theorem dX0_withName_26 : decode cX0_withName 26 = .ok (.goto (-24), 3) := by decide +kernel
theorem dX0_withName_29 : decode cX0_withName 29 = .ok (.iconst (-1), 1) := by decide +kernel
theorem dX0_withName_30 : decode cX0_withName 30 = .ok (.ireturn, 1) := by decide +kernel
theorem dX1_init_0 : decode cX1_init 0 = .ok (.aload_n 0, 1) := by decide +kernel
theorem dX1_init_1 : decode cX1_init 1 = .ok (.invokespecial 3, 3) := by decide +kernel
theorem dX1_init_4 : decode cX1_init 4 = .ok (.aload_n 0, 1) := by decide +kernel
theorem dX1_init_5 : decode cX1_init 5 = .ok (.bipush 10, 2) := by decide +kernel
theorem dX1_init_7 : decode cX1_init 7 = .ok (.newarray .int, 2) := by decide +kernel
theorem dX1_init_9 : decode cX1_init 9 = .ok (.putfield 9, 3) := by decide +kernel
theorem dX1_init_12 : decode cX1_init 12 = .ok (.aload_n 0, 1) := by decide +kernel
theorem dX1_init_13 : decode cX1_init 13 = .ok (.bipush 10, 2) := by decide +kernel
theorem dX1_init_15 : decode cX1_init 15 = .ok (.newarray .int, 2) := by decide +kernel
theorem dX1_init_17 : decode cX1_init 17 = .ok (.putfield 15, 3) := by decide +kernel
theorem dX1_init_20 : decode cX1_init 20 = .ok (.aload_n 0, 1) := by decide +kernel
theorem dX1_init_21 : decode cX1_init 21 = .ok (.bipush 40, 2) := by decide +kernel
theorem dX1_init_23 : decode cX1_init 23 = .ok (.newarray .int, 2) := by decide +kernel
theorem dX1_init_25 : decode cX1_init 25 = .ok (.putfield 18, 3) := by decide +kernel
theorem dX1_init_28 : decode cX1_init 28 = .ok (.aload_n 0, 1) := by decide +kernel
theorem dX1_init_29 : decode cX1_init 29 = .ok (.bipush 100, 2) := by decide +kernel
theorem dX1_init_31 : decode cX1_init 31 = .ok (.newarray .int, 2) := by decide +kernel
theorem dX1_init_33 : decode cX1_init 33 = .ok (.putfield 21, 3) := by decide +kernel
theorem dX1_init_36 : decode cX1_init 36 = .ok (.return_, 1) := by decide +kernel
theorem dX1_begin_0 : decode cX1_begin 0 = .ok (.aload_n 0, 1) := by decide +kernel
theorem dX1_begin_1 : decode cX1_begin 1 = .ok (.aload_n 1, 1) := by decide +kernel
theorem dX1_begin_2 : decode cX1_begin 2 = .ok (.getfield 24, 3) := by decide +kernel
theorem dX1_begin_5 : decode cX1_begin 5 = .ok (.putfield 30, 3) := by decide +kernel
theorem dX1_begin_8 : decode cX1_begin 8 = .ok (.aload_n 0, 1) := by decide +kernel
theorem dX1_begin_9 : decode cX1_begin 9 = .ok (.iconst (-1), 1) := by decide +kernel
theorem dX1_begin_10 : decode cX1_begin 10 = .ok (.putfield 31, 3) := by decide +kernel
theorem dX1_begin_13 : decode cX1_begin 13 = .ok (.aload_n 0, 1) := by decide +kernel
theorem dX1_begin_14 : decode cX1_begin 14 = .ok (.getfield 9, 3) := by decide +kernel
theorem dX1_begin_17 : decode cX1_begin 17 = .ok (.iconst (-1), 1) := by decide +kernel
theorem dX1_begin_18 : decode cX1_begin 18 = .ok (.invokestatic 34, 3) := by decide +kernel
theorem dX1_begin_21 : decode cX1_begin 21 = .ok (.aload_n 0, 1) := by decide +kernel
theorem dX1_begin_22 : decode cX1_begin 22 = .ok (.getfield 15, 3) := by decide +kernel
theorem dX1_begin_25 : decode cX1_begin 25 = .ok (.iconst 0, 1) := by decide +kernel
theorem dX1_begin_26 : decode cX1_begin 26 = .ok (.invokestatic 34, 3) := by decide +kernel
theorem dX1_begin_29 : decode cX1_begin 29 = .ok (.aload_n 0, 1) := by decide +kernel
theorem dX1_begin_30 : decode cX1_begin 30 = .ok (.getfield 21, 3) := by decide +kernel
theorem dX1_begin_33 : decode cX1_begin 33 = .ok (.iconst 0, 1) := by decide +kernel
theorem dX1_begin_34 : decode cX1_begin 34 = .ok (.invokestatic 34, 3) := by decide +kernel
theorem dX1_begin_37 : decode cX1_begin 37 = .ok (.return_, 1) := by decide +kernel
theorem dX1_copyFrom_0 : decode cX1_copyFrom 0 = .ok (.aload_n 0, 1) := by decide +kernel
theorem dX1_copyFrom_1 : decode cX1_copyFrom 1 = .ok (.aload_n 1, 1) := by decide +kernel
theorem dX1_copyFrom_2 : decode cX1_copyFrom 2 = .ok (.getfield 30, 3) := by decide +kernel
theorem dX1_copyFrom_5 : decode cX1_copyFrom 5 = .ok (.putfield 30, 3) := by decide +kernel
theorem dX1_copyFrom_8 : decode cX1_copyFrom 8 = .ok (.aload_n 0, 1) := by decide +kernel
theorem dX1_copyFrom_9 : decode cX1_copyFrom 9 = .ok (.aload_n 1, 1) := by decide +kernel
theorem dX1_copyFrom_10 : decode cX1_copyFrom 10 = .ok (.getfield 31, 3) := by decide +kernel
theorem dX1_copyFrom_13 : decode cX1_copyFrom 13 = .ok (.putfield 31, 3) := by decide +kernel
theorem dX1_copyFrom_16 : decode cX1_copyFrom 16 = .ok (.aload_n 1, 1) := by decide +kernel
theorem dX1_copyFrom_17 : decode cX1_copyFrom 17 = .ok (.getfield 9, 3) := by decide +kernel
theorem dX1_copyFrom_20 : decode cX1_copyFrom 20 = .ok (.iconst 0, 1) := by decide +kernel
theorem dX1_copyFrom_21 : decode cX1_copyFrom 21 = .ok (.aload_n 0, 1) := by decide +kernel
theorem dX1_copyFrom_22 : decode cX1_copyFrom 22 = .ok (.getfield 9, 3) := by decide +kernel
theorem dX1_copyFrom_25 : decode cX1_copyFrom 25 = .ok (.iconst 0, 1) := by decide +kernel
theorem dX1_copyFrom_26 : decode cX1_copyFrom 26 = .ok (.aload_n 0, 1) := by decide +kernel
theorem dX1_copyFrom_27 : decode cX1_copyFrom 27 = .ok (.getfield 9, 3) := by decide +kernel
theorem dX1_copyFrom_30 : decode cX1_copyFrom 30 = .ok (.arraylength, 1) := by decide +kernel
theorem dX1_copyFrom_31 : decode cX1_copyFrom 31 = .ok (.invokestatic 40, 3) := by decide +kernel
theorem dX1_copyFrom_34 : decode cX1_copyFrom 34 = .ok (.aload_n 1, 1) := by decide +kernel
theorem dX1_copyFrom_35 : decode cX1_copyFrom 35 = .ok (.getfield 15, 3) := by decide +kernel
theorem dX1_copyFrom_38 : decode cX1_copyFrom 38 = .ok (.iconst 0, 1) := by decide +kernel
theorem dX1_copyFrom_39 : decode cX1_copyFrom 39 = .ok (.aload_n 0, 1) := by decide +kernel
theorem dX1_copyFrom_40 : decode cX1_copyFrom 40 = .ok (.getfield 15, 3) := by decide +kernel
theorem dX1_copyFrom_43 : decode cX1_copyFrom 43 = .ok (.iconst 0, 1) := by decide +kernel
theorem dX1_copyFrom_44 : decode cX1_copyFrom 44 = .ok (.aload_n 0, 1) := by decide +kernel
theorem dX1_copyFrom_45 : decode cX1_copyFrom 45 = .ok (.getfield 15, 3) := by decide +kernel
theorem dX1_copyFrom_48 : decode cX1_copyFrom 48 = .ok (.arraylength, 1) := by decide +kernel
theorem dX1_copyFrom_49 : decode cX1_copyFrom 49 = .ok (.invokestatic 40, 3) := by decide +kernel
theorem dX1_copyFrom_52 : decode cX1_copyFrom 52 = .ok (.aload_n 1, 1) := by decide +kernel
theorem dX1_copyFrom_53 : decode cX1_copyFrom 53 = .ok (.getfield 18, 3) := by decide +kernel
theorem dX1_copyFrom_56 : decode cX1_copyFrom 56 = .ok (.iconst 0, 1) := by decide +kernel
theorem dX1_copyFrom_57 : decode cX1_copyFrom 57 = .ok (.aload_n 0, 1) := by decide +kernel
theorem dX1_copyFrom_58 : decode cX1_copyFrom 58 = .ok (.getfield 18, 3) := by decide +kernel
theorem dX1_copyFrom_61 : decode cX1_copyFrom 61 = .ok (.iconst 0, 1) := by decide +kernel
theorem dX1_copyFrom_62 : decode cX1_copyFrom 62 = .ok (.aload_n 0, 1) := by decide +kernel
theorem dX1_copyFrom_63 : decode cX1_copyFrom 63 = .ok (.getfield 18, 3) := by decide +kernel
theorem dX1_copyFrom_66 : decode cX1_copyFrom 66 = .ok (.arraylength, 1) := by decide +kernel
theorem dX1_copyFrom_67 : decode cX1_copyFrom 67 = .ok (.invokestatic 40, 3) := by decide +kernel
theorem dX1_copyFrom_70 : decode cX1_copyFrom 70 = .ok (.aload_n 1, 1) := by decide +kernel
theorem dX1_copyFrom_71 : decode cX1_copyFrom 71 = .ok (.getfield 21, 3) := by decide +kernel
theorem dX1_copyFrom_74 : decode cX1_copyFrom 74 = .ok (.iconst 0, 1) := by decide +kernel
theorem dX1_copyFrom_75 : decode cX1_copyFrom 75 = .ok (.aload_n 0, 1) := by decide +kernel
theorem dX1_copyFrom_76 : decode cX1_copyFrom 76 = .ok (.getfield 21, 3) := by decide +kernel
theorem dX1_copyFrom_79 : decode cX1_copyFrom 79 = .ok (.iconst 0, 1) := by decide +kernel
theorem dX1_copyFrom_80 : decode cX1_copyFrom 80 = .ok (.aload_n 0, 1) := by decide +kernel
theorem dX1_copyFrom_81 : decode cX1_copyFrom 81 = .ok (.getfield 21, 3) := by decide +kernel
theorem dX1_copyFrom_84 : decode cX1_copyFrom 84 = .ok (.arraylength, 1) := by decide +kernel
theorem dX1_copyFrom_85 : decode cX1_copyFrom 85 = .ok (.invokestatic 40, 3) := by decide +kernel
theorem dX1_copyFrom_88 : decode cX1_copyFrom 88 = .ok (.return_, 1) := by decide +kernel
theorem dX1_habitOf_0 : decode cX1_habitOf 0 = .ok (.aload_n 0, 1) := by decide +kernel
theorem dX1_habitOf_1 : decode cX1_habitOf 1 = .ok (.getfield 15, 3) := by decide +kernel
theorem dX1_habitOf_4 : decode cX1_habitOf 4 = .ok (.iload_n 1, 1) := by decide +kernel
theorem dX1_habitOf_5 : decode cX1_habitOf 5 = .ok (.iaload, 1) := by decide +kernel
theorem dX1_habitOf_6 : decode cX1_habitOf 6 = .ok (.istore_n 2, 1) := by decide +kernel
theorem dX1_habitOf_7 : decode cX1_habitOf 7 = .ok (.iload_n 2, 1) := by decide +kernel
theorem dX1_habitOf_8 : decode cX1_habitOf 8 = .ok (.iconst 1, 1) := by decide +kernel
theorem dX1_habitOf_9 : decode cX1_habitOf 9 = .ok (.if_icmp .ge 7, 3) := by decide +kernel
theorem dX1_habitOf_12 : decode cX1_habitOf 12 = .ok (.sipush 600, 3) := by decide +kernel
theorem dX1_habitOf_15 : decode cX1_habitOf 15 = .ok (.ireturn, 1) := by decide +kernel
theorem dX1_habitOf_16 : decode cX1_habitOf 16 = .ok (.iconst 0, 1) := by decide +kernel
theorem dX1_habitOf_17 : decode cX1_habitOf 17 = .ok (.istore_n 3, 1) := by decide +kernel
theorem dX1_habitOf_18 : decode cX1_habitOf 18 = .ok (.iconst 0, 1) := by decide +kernel
theorem dX1_habitOf_19 : decode cX1_habitOf 19 = .ok (.istore 4, 2) := by decide +kernel
theorem dX1_habitOf_21 : decode cX1_habitOf 21 = .ok (.iload 4, 2) := by decide +kernel
theorem dX1_habitOf_23 : decode cX1_habitOf 23 = .ok (.iload_n 2, 1) := by decide +kernel
theorem dX1_habitOf_24 : decode cX1_habitOf 24 = .ok (.if_icmp .ge 29, 3) := by decide +kernel
theorem dX1_habitOf_27 : decode cX1_habitOf 27 = .ok (.iload 4, 2) := by decide +kernel
theorem dX1_habitOf_29 : decode cX1_habitOf 29 = .ok (.iconst 4, 1) := by decide +kernel
theorem dX1_habitOf_30 : decode cX1_habitOf 30 = .ok (.if_icmp .ge 23, 3) := by decide +kernel
theorem dX1_habitOf_33 : decode cX1_habitOf 33 = .ok (.iload_n 3, 1) := by decide +kernel
theorem dX1_habitOf_34 : decode cX1_habitOf 34 = .ok (.aload_n 0, 1) := by decide +kernel
theorem dX1_habitOf_35 : decode cX1_habitOf 35 = .ok (.getfield 18, 3) := by decide +kernel
theorem dX1_habitOf_38 : decode cX1_habitOf 38 = .ok (.iload_n 1, 1) := by decide +kernel
theorem dX1_habitOf_39 : decode cX1_habitOf 39 = .ok (.iconst 4, 1) := by decide +kernel
theorem dX1_habitOf_40 : decode cX1_habitOf 40 = .ok (.imul, 1) := by decide +kernel
theorem dX1_habitOf_41 : decode cX1_habitOf 41 = .ok (.iload 4, 2) := by decide +kernel
theorem dX1_habitOf_43 : decode cX1_habitOf 43 = .ok (.iadd, 1) := by decide +kernel
theorem dX1_habitOf_44 : decode cX1_habitOf 44 = .ok (.iaload, 1) := by decide +kernel
theorem dX1_habitOf_45 : decode cX1_habitOf 45 = .ok (.iadd, 1) := by decide +kernel
theorem dX1_habitOf_46 : decode cX1_habitOf 46 = .ok (.istore_n 3, 1) := by decide +kernel
theorem dX1_habitOf_47 : decode cX1_habitOf 47 = .ok (.iinc 4 1, 3) := by decide +kernel
theorem dX1_habitOf_50 : decode cX1_habitOf 50 = .ok (.goto (-29), 3) := by decide +kernel
theorem dX1_habitOf_53 : decode cX1_habitOf 53 = .ok (.iload_n 3, 1) := by decide +kernel
theorem dX1_habitOf_54 : decode cX1_habitOf 54 = .ok (.iload_n 2, 1) := by decide +kernel
theorem dX1_habitOf_55 : decode cX1_habitOf 55 = .ok (.idiv, 1) := by decide +kernel
theorem dX1_habitOf_56 : decode cX1_habitOf 56 = .ok (.ireturn, 1) := by decide +kernel
theorem dX1_promiseOf_0 : decode cX1_promiseOf 0 = .ok (.iload_n 1, 1) := by decide +kernel
theorem dX1_promiseOf_1 : decode cX1_promiseOf 1 = .ok (.iload_n 2, 1) := by decide +kernel
theorem dX1_promiseOf_2 : decode cX1_promiseOf 2 = .ok (.if_icmp .eq 11, 3) := by decide +kernel
theorem dX1_promiseOf_5 : decode cX1_promiseOf 5 = .ok (.aload_n 0, 1) := by decide +kernel
theorem dX1_promiseOf_6 : decode cX1_promiseOf 6 = .ok (.iload_n 1, 1) := by decide +kernel
theorem dX1_promiseOf_7 : decode cX1_promiseOf 7 = .ok (.invokevirtual 46, 3) := by decide +kernel
theorem dX1_promiseOf_10 : decode cX1_promiseOf 10 = .ok (.ifCond .eq 5, 3) := by decide +kernel
theorem dX1_promiseOf_13 : decode cX1_promiseOf 13 = .ok (.iconst 0, 1) := by decide +kernel
theorem dX1_promiseOf_14 : decode cX1_promiseOf 14 = .ok (.ireturn, 1) := by decide +kernel
theorem dX1_promiseOf_15 : decode cX1_promiseOf 15 = .ok (.aload_n 0, 1) := by decide +kernel
theorem dX1_promiseOf_16 : decode cX1_promiseOf 16 = .ok (.getfield 9, 3) := by decide +kernel
theorem dX1_promiseOf_19 : decode cX1_promiseOf 19 = .ok (.iload_n 1, 1) := by decide +kernel
theorem dX1_promiseOf_20 : decode cX1_promiseOf 20 = .ok (.iaload, 1) := by decide +kernel
theorem dX1_promiseOf_21 : decode cX1_promiseOf 21 = .ok (.iconst (-1), 1) := by decide +kernel
theorem dX1_promiseOf_22 : decode cX1_promiseOf 22 = .ok (.if_icmp .ne 7, 3) := by decide +kernel
theorem dX1_promiseOf_25 : decode cX1_promiseOf 25 = .ok (.sipush 600, 3) := by decide +kernel
theorem dX1_promiseOf_28 : decode cX1_promiseOf 28 = .ok (.ireturn, 1) := by decide +kernel
theorem dX1_promiseOf_29 : decode cX1_promiseOf 29 = .ok (.iconst 0, 1) := by decide +kernel
theorem dX1_promiseOf_30 : decode cX1_promiseOf 30 = .ok (.aload_n 0, 1) := by decide +kernel
theorem dX1_promiseOf_31 : decode cX1_promiseOf 31 = .ok (.iload_n 1, 1) := by decide +kernel
theorem dX1_promiseOf_32 : decode cX1_promiseOf 32 = .ok (.invokevirtual 50, 3) := by decide +kernel
theorem dX1_promiseOf_35 : decode cX1_promiseOf 35 = .ok (.iload_n 3, 1) := by decide +kernel
theorem dX1_promiseOf_36 : decode cX1_promiseOf 36 = .ok (.aload_n 0, 1) := by decide +kernel
theorem dX1_promiseOf_37 : decode cX1_promiseOf 37 = .ok (.getfield 9, 3) := by decide +kernel
theorem dX1_promiseOf_40 : decode cX1_promiseOf 40 = .ok (.iload_n 1, 1) := by decide +kernel
theorem dX1_promiseOf_41 : decode cX1_promiseOf 41 = .ok (.iaload, 1) := by decide +kernel
theorem dX1_promiseOf_42 : decode cX1_promiseOf 42 = .ok (.isub, 1) := by decide +kernel
theorem dX1_promiseOf_43 : decode cX1_promiseOf 43 = .ok (.isub, 1) := by decide +kernel
theorem dX1_promiseOf_44 : decode cX1_promiseOf 44 = .ok (.invokestatic 54, 3) := by decide +kernel
theorem dX1_promiseOf_47 : decode cX1_promiseOf 47 = .ok (.ireturn, 1) := by decide +kernel
theorem dX1_oftenFollowsLast_0 : decode cX1_oftenFollowsLast 0 = .ok (.aload_n 0, 1) := by decide +kernel
theorem dX1_oftenFollowsLast_1 : decode cX1_oftenFollowsLast 1 = .ok (.getfield 31, 3) := by decide +kernel
theorem dX1_oftenFollowsLast_4 : decode cX1_oftenFollowsLast 4 = .ok (.ifCond .ge 5, 3) := by decide +kernel
theorem dX1_oftenFollowsLast_7 : decode cX1_oftenFollowsLast 7 = .ok (.iconst 0, 1) := by decide +kernel
theorem dX1_oftenFollowsLast_8 : decode cX1_oftenFollowsLast 8 = .ok (.ireturn, 1) := by decide +kernel
theorem dX1_oftenFollowsLast_9 : decode cX1_oftenFollowsLast 9 = .ok (.aload_n 0, 1) := by decide +kernel
theorem dX1_oftenFollowsLast_10 : decode cX1_oftenFollowsLast 10 = .ok (.getfield 31, 3) := by decide +kernel
theorem dX1_oftenFollowsLast_13 : decode cX1_oftenFollowsLast 13 = .ok (.bipush 10, 2) := by decide +kernel
theorem dX1_oftenFollowsLast_15 : decode cX1_oftenFollowsLast 15 = .ok (.imul, 1) := by decide +kernel
theorem dX1_oftenFollowsLast_16 : decode cX1_oftenFollowsLast 16 = .ok (.istore_n 2, 1) := by decide +kernel
theorem dX1_oftenFollowsLast_17 : decode cX1_oftenFollowsLast 17 = .ok (.iconst 0, 1) := by decide +kernel
theorem dX1_oftenFollowsLast_18 : decode cX1_oftenFollowsLast 18 = .ok (.istore_n 3, 1) := by decide +kernel
theorem dX1_oftenFollowsLast_19 : decode cX1_oftenFollowsLast 19 = .ok (.iconst 0, 1) := by decide +kernel
theorem dX1_oftenFollowsLast_20 : decode cX1_oftenFollowsLast 20 = .ok (.istore 4, 2) := by decide +kernel
theorem dX1_oftenFollowsLast_22 : decode cX1_oftenFollowsLast 22 = .ok (.iload 4, 2) := by decide +kernel
theorem dX1_oftenFollowsLast_24 : decode cX1_oftenFollowsLast 24 = .ok (.aload_n 0, 1) := by decide +kernel
theorem dX1_oftenFollowsLast_25 : decode cX1_oftenFollowsLast 25 = .ok (.getfield 30, 3) := by decide +kernel
theorem dX1_oftenFollowsLast_28 : decode cX1_oftenFollowsLast 28 = .ok (.if_icmp .ge 21, 3) := by decide +kernel
theorem dX1_oftenFollowsLast_31 : decode cX1_oftenFollowsLast 31 = .ok (.iload_n 3, 1) := by decide +kernel
theorem dX1_oftenFollowsLast_32 : decode cX1_oftenFollowsLast 32 = .ok (.aload_n 0, 1) := by decide +kernel
theorem dX1_oftenFollowsLast_33 : decode cX1_oftenFollowsLast 33 = .ok (.getfield 21, 3) := by decide +kernel
theorem dX1_oftenFollowsLast_36 : decode cX1_oftenFollowsLast 36 = .ok (.iload_n 2, 1) := by decide +kernel
theorem dX1_oftenFollowsLast_37 : decode cX1_oftenFollowsLast 37 = .ok (.iload 4, 2) := by decide +kernel
theorem dX1_oftenFollowsLast_39 : decode cX1_oftenFollowsLast 39 = .ok (.iadd, 1) := by decide +kernel
theorem dX1_oftenFollowsLast_40 : decode cX1_oftenFollowsLast 40 = .ok (.iaload, 1) := by decide +kernel
theorem dX1_oftenFollowsLast_41 : decode cX1_oftenFollowsLast 41 = .ok (.iadd, 1) := by decide +kernel
theorem dX1_oftenFollowsLast_42 : decode cX1_oftenFollowsLast 42 = .ok (.istore_n 3, 1) := by decide +kernel
theorem dX1_oftenFollowsLast_43 : decode cX1_oftenFollowsLast 43 = .ok (.iinc 4 1, 3) := by decide +kernel
theorem dX1_oftenFollowsLast_46 : decode cX1_oftenFollowsLast 46 = .ok (.goto (-24), 3) := by decide +kernel
theorem dX1_oftenFollowsLast_49 : decode cX1_oftenFollowsLast 49 = .ok (.aload_n 0, 1) := by decide +kernel
theorem dX1_oftenFollowsLast_50 : decode cX1_oftenFollowsLast 50 = .ok (.getfield 21, 3) := by decide +kernel
theorem dX1_oftenFollowsLast_53 : decode cX1_oftenFollowsLast 53 = .ok (.iload_n 2, 1) := by decide +kernel
theorem dX1_oftenFollowsLast_54 : decode cX1_oftenFollowsLast 54 = .ok (.iload_n 1, 1) := by decide +kernel
theorem dX1_oftenFollowsLast_55 : decode cX1_oftenFollowsLast 55 = .ok (.iadd, 1) := by decide +kernel
theorem dX1_oftenFollowsLast_56 : decode cX1_oftenFollowsLast 56 = .ok (.iaload, 1) := by decide +kernel
theorem dX1_oftenFollowsLast_57 : decode cX1_oftenFollowsLast 57 = .ok (.istore 4, 2) := by decide +kernel
theorem dX1_oftenFollowsLast_59 : decode cX1_oftenFollowsLast 59 = .ok (.iload 4, 2) := by decide +kernel
theorem dX1_oftenFollowsLast_61 : decode cX1_oftenFollowsLast 61 = .ok (.ifCond .le 15, 3) := by decide +kernel
theorem dX1_oftenFollowsLast_64 : decode cX1_oftenFollowsLast 64 = .ok (.iconst 2, 1) := by decide +kernel
theorem dX1_oftenFollowsLast_65 : decode cX1_oftenFollowsLast 65 = .ok (.iload 4, 2) := by decide +kernel
theorem dX1_oftenFollowsLast_67 : decode cX1_oftenFollowsLast 67 = .ok (.imul, 1) := by decide +kernel
theorem dX1_oftenFollowsLast_68 : decode cX1_oftenFollowsLast 68 = .ok (.iload_n 3, 1) := by decide +kernel
theorem dX1_oftenFollowsLast_69 : decode cX1_oftenFollowsLast 69 = .ok (.if_icmp .lt 7, 3) := by decide +kernel
theorem dX1_oftenFollowsLast_72 : decode cX1_oftenFollowsLast 72 = .ok (.iconst 1, 1) := by decide +kernel
theorem dX1_oftenFollowsLast_73 : decode cX1_oftenFollowsLast 73 = .ok (.goto 4, 3) := by decide +kernel
theorem dX1_oftenFollowsLast_76 : decode cX1_oftenFollowsLast 76 = .ok (.iconst 0, 1) := by decide +kernel
theorem dX1_oftenFollowsLast_77 : decode cX1_oftenFollowsLast 77 = .ok (.ireturn, 1) := by decide +kernel
theorem dX1_timesFollowed_0 : decode cX1_timesFollowed 0 = .ok (.aload_n 0, 1) := by decide +kernel
theorem dX1_timesFollowed_1 : decode cX1_timesFollowed 1 = .ok (.getfield 21, 3) := by decide +kernel
theorem dX1_timesFollowed_4 : decode cX1_timesFollowed 4 = .ok (.iload_n 1, 1) := by decide +kernel
theorem dX1_timesFollowed_5 : decode cX1_timesFollowed 5 = .ok (.bipush 10, 2) := by decide +kernel
theorem dX1_timesFollowed_7 : decode cX1_timesFollowed 7 = .ok (.imul, 1) := by decide +kernel
theorem dX1_timesFollowed_8 : decode cX1_timesFollowed 8 = .ok (.iload_n 2, 1) := by decide +kernel
theorem dX1_timesFollowed_9 : decode cX1_timesFollowed 9 = .ok (.iadd, 1) := by decide +kernel
theorem dX1_timesFollowed_10 : decode cX1_timesFollowed 10 = .ok (.iaload, 1) := by decide +kernel
theorem dX1_timesFollowed_11 : decode cX1_timesFollowed 11 = .ok (.ireturn, 1) := by decide +kernel
theorem dX1_likeliestAfter_0 : decode cX1_likeliestAfter 0 = .ok (.iconst (-1), 1) := by decide +kernel
theorem dX1_likeliestAfter_1 : decode cX1_likeliestAfter 1 = .ok (.istore_n 2, 1) := by decide +kernel
theorem dX1_likeliestAfter_2 : decode cX1_likeliestAfter 2 = .ok (.iconst 0, 1) := by decide +kernel
theorem dX1_likeliestAfter_3 : decode cX1_likeliestAfter 3 = .ok (.istore_n 3, 1) := by decide +kernel
theorem dX1_likeliestAfter_4 : decode cX1_likeliestAfter 4 = .ok (.iconst 0, 1) := by decide +kernel
theorem dX1_likeliestAfter_5 : decode cX1_likeliestAfter 5 = .ok (.istore 4, 2) := by decide +kernel
theorem dX1_likeliestAfter_7 : decode cX1_likeliestAfter 7 = .ok (.iload 4, 2) := by decide +kernel
theorem dX1_likeliestAfter_9 : decode cX1_likeliestAfter 9 = .ok (.aload_n 0, 1) := by decide +kernel
theorem dX1_likeliestAfter_10 : decode cX1_likeliestAfter 10 = .ok (.getfield 30, 3) := by decide +kernel
theorem dX1_likeliestAfter_13 : decode cX1_likeliestAfter 13 = .ok (.if_icmp .ge 31, 3) := by decide +kernel
theorem dX1_likeliestAfter_16 : decode cX1_likeliestAfter 16 = .ok (.aload_n 0, 1) := by decide +kernel
theorem dX1_likeliestAfter_17 : decode cX1_likeliestAfter 17 = .ok (.iload_n 1, 1) := by decide +kernel
theorem dX1_likeliestAfter_18 : decode cX1_likeliestAfter 18 = .ok (.iload 4, 2) := by decide +kernel
theorem dX1_likeliestAfter_20 : decode cX1_likeliestAfter 20 = .ok (.invokevirtual 60, 3) := by decide +kernel
theorem dX1_likeliestAfter_23 : decode cX1_likeliestAfter 23 = .ok (.iload_n 3, 1) := by decide +kernel
theorem dX1_likeliestAfter_24 : decode cX1_likeliestAfter 24 = .ok (.if_icmp .le 14, 3) := by decide +kernel
theorem dX1_likeliestAfter_27 : decode cX1_likeliestAfter 27 = .ok (.aload_n 0, 1) := by decide +kernel
theorem dX1_likeliestAfter_28 : decode cX1_likeliestAfter 28 = .ok (.iload_n 1, 1) := by decide +kernel
theorem dX1_likeliestAfter_29 : decode cX1_likeliestAfter 29 = .ok (.iload 4, 2) := by decide +kernel
theorem dX1_likeliestAfter_31 : decode cX1_likeliestAfter 31 = .ok (.invokevirtual 60, 3) := by decide +kernel
theorem dX1_likeliestAfter_34 : decode cX1_likeliestAfter 34 = .ok (.istore_n 3, 1) := by decide +kernel
theorem dX1_likeliestAfter_35 : decode cX1_likeliestAfter 35 = .ok (.iload 4, 2) := by decide +kernel
theorem dX1_likeliestAfter_37 : decode cX1_likeliestAfter 37 = .ok (.istore_n 2, 1) := by decide +kernel
theorem dX1_likeliestAfter_38 : decode cX1_likeliestAfter 38 = .ok (.iinc 4 1, 3) := by decide +kernel
theorem dX1_likeliestAfter_41 : decode cX1_likeliestAfter 41 = .ok (.goto (-34), 3) := by decide +kernel
theorem dX1_likeliestAfter_44 : decode cX1_likeliestAfter 44 = .ok (.iload_n 2, 1) := by decide +kernel
theorem dX1_likeliestAfter_45 : decode cX1_likeliestAfter 45 = .ok (.ireturn, 1) := by decide +kernel
theorem dX1_countShowing_0 : decode cX1_countShowing 0 = .ok (.aload_n 0, 1) := by decide +kernel
theorem dX1_countShowing_1 : decode cX1_countShowing 1 = .ok (.getfield 9, 3) := by decide +kernel
theorem dX1_countShowing_4 : decode cX1_countShowing 4 = .ok (.iload_n 1, 1) := by decide +kernel
theorem dX1_countShowing_5 : decode cX1_countShowing 5 = .ok (.iaload, 1) := by decide +kernel
theorem dX1_countShowing_6 : decode cX1_countShowing 6 = .ok (.iconst (-1), 1) := by decide +kernel
theorem dX1_countShowing_7 : decode cX1_countShowing 7 = .ok (.if_icmp .eq 16, 3) := by decide +kernel
theorem dX1_countShowing_10 : decode cX1_countShowing 10 = .ok (.aload_n 0, 1) := by decide +kernel
theorem dX1_countShowing_11 : decode cX1_countShowing 11 = .ok (.iload_n 1, 1) := by decide +kernel
theorem dX1_countShowing_12 : decode cX1_countShowing 12 = .ok (.iload_n 3, 1) := by decide +kernel
theorem dX1_countShowing_13 : decode cX1_countShowing 13 = .ok (.aload_n 0, 1) := by decide +kernel
theorem dX1_countShowing_14 : decode cX1_countShowing 14 = .ok (.getfield 9, 3) := by decide +kernel
theorem dX1_countShowing_17 : decode cX1_countShowing 17 = .ok (.iload_n 1, 1) := by decide +kernel
theorem dX1_countShowing_18 : decode cX1_countShowing 18 = .ok (.iaload, 1) := by decide +kernel
theorem dX1_countShowing_19 : decode cX1_countShowing 19 = .ok (.isub, 1) := by decide +kernel
theorem dX1_countShowing_20 : decode cX1_countShowing 20 = .ok (.invokevirtual 63, 3) := by decide +kernel
theorem dX1_countShowing_23 : decode cX1_countShowing 23 = .ok (.iload_n 2, 1) := by decide +kernel
theorem dX1_countShowing_24 : decode cX1_countShowing 24 = .ok (.ifCond .lt 23, 3) := by decide +kernel
theorem dX1_countShowing_27 : decode cX1_countShowing 27 = .ok (.iload_n 2, 1) := by decide +kernel
theorem dX1_countShowing_28 : decode cX1_countShowing 28 = .ok (.iload_n 1, 1) := by decide +kernel
theorem dX1_countShowing_29 : decode cX1_countShowing 29 = .ok (.if_icmp .eq 18, 3) := by decide +kernel
theorem dX1_countShowing_32 : decode cX1_countShowing 32 = .ok (.aload_n 0, 1) := by decide +kernel
theorem dX1_countShowing_33 : decode cX1_countShowing 33 = .ok (.getfield 21, 3) := by decide +kernel
theorem dX1_countShowing_36 : decode cX1_countShowing 36 = .ok (.iload_n 2, 1) := by decide +kernel
theorem dX1_countShowing_37 : decode cX1_countShowing 37 = .ok (.bipush 10, 2) := by decide +kernel
theorem dX1_countShowing_39 : decode cX1_countShowing 39 = .ok (.imul, 1) := by decide +kernel
theorem dX1_countShowing_40 : decode cX1_countShowing 40 = .ok (.iload_n 1, 1) := by decide +kernel
theorem dX1_countShowing_41 : decode cX1_countShowing 41 = .ok (.iadd, 1) := by decide +kernel
theorem dX1_countShowing_42 : decode cX1_countShowing 42 = .ok (.dup2, 1) := by decide +kernel
theorem dX1_countShowing_43 : decode cX1_countShowing 43 = .ok (.iaload, 1) := by decide +kernel
theorem dX1_countShowing_44 : decode cX1_countShowing 44 = .ok (.iconst 1, 1) := by decide +kernel
theorem dX1_countShowing_45 : decode cX1_countShowing 45 = .ok (.iadd, 1) := by decide +kernel
theorem dX1_countShowing_46 : decode cX1_countShowing 46 = .ok (.iastore, 1) := by decide +kernel
theorem dX1_countShowing_47 : decode cX1_countShowing 47 = .ok (.return_, 1) := by decide +kernel
theorem dX1_addGap_0 : decode cX1_addGap 0 = .ok (.iload_n 1, 1) := by decide +kernel
theorem dX1_addGap_1 : decode cX1_addGap 1 = .ok (.iconst 4, 1) := by decide +kernel
theorem dX1_addGap_2 : decode cX1_addGap 2 = .ok (.imul, 1) := by decide +kernel
theorem dX1_addGap_3 : decode cX1_addGap 3 = .ok (.istore_n 3, 1) := by decide +kernel
theorem dX1_addGap_4 : decode cX1_addGap 4 = .ok (.aload_n 0, 1) := by decide +kernel
theorem dX1_addGap_5 : decode cX1_addGap 5 = .ok (.getfield 15, 3) := by decide +kernel
theorem dX1_addGap_8 : decode cX1_addGap 8 = .ok (.iload_n 1, 1) := by decide +kernel
theorem dX1_addGap_9 : decode cX1_addGap 9 = .ok (.iaload, 1) := by decide +kernel
theorem dX1_addGap_10 : decode cX1_addGap 10 = .ok (.iconst 4, 1) := by decide +kernel
theorem dX1_addGap_11 : decode cX1_addGap 11 = .ok (.if_icmp .ge 28, 3) := by decide +kernel
theorem dX1_addGap_14 : decode cX1_addGap 14 = .ok (.aload_n 0, 1) := by decide +kernel
theorem dX1_addGap_15 : decode cX1_addGap 15 = .ok (.getfield 18, 3) := by decide +kernel
theorem dX1_addGap_18 : decode cX1_addGap 18 = .ok (.iload_n 3, 1) := by decide +kernel
theorem dX1_addGap_19 : decode cX1_addGap 19 = .ok (.aload_n 0, 1) := by decide +kernel
theorem dX1_addGap_20 : decode cX1_addGap 20 = .ok (.getfield 15, 3) := by decide +kernel
theorem dX1_addGap_23 : decode cX1_addGap 23 = .ok (.iload_n 1, 1) := by decide +kernel
theorem dX1_addGap_24 : decode cX1_addGap 24 = .ok (.iaload, 1) := by decide +kernel
theorem dX1_addGap_25 : decode cX1_addGap 25 = .ok (.iadd, 1) := by decide +kernel
theorem dX1_addGap_26 : decode cX1_addGap 26 = .ok (.iload_n 2, 1) := by decide +kernel
theorem dX1_addGap_27 : decode cX1_addGap 27 = .ok (.iastore, 1) := by decide +kernel
theorem dX1_addGap_28 : decode cX1_addGap 28 = .ok (.aload_n 0, 1) := by decide +kernel
theorem dX1_addGap_29 : decode cX1_addGap 29 = .ok (.getfield 15, 3) := by decide +kernel
theorem dX1_addGap_32 : decode cX1_addGap 32 = .ok (.iload_n 1, 1) := by decide +kernel
theorem dX1_addGap_33 : decode cX1_addGap 33 = .ok (.dup2, 1) := by decide +kernel
theorem dX1_addGap_34 : decode cX1_addGap 34 = .ok (.iaload, 1) := by decide +kernel
theorem dX1_addGap_35 : decode cX1_addGap 35 = .ok (.iconst 1, 1) := by decide +kernel
theorem dX1_addGap_36 : decode cX1_addGap 36 = .ok (.iadd, 1) := by decide +kernel
theorem dX1_addGap_37 : decode cX1_addGap 37 = .ok (.iastore, 1) := by decide +kernel
theorem dX1_addGap_38 : decode cX1_addGap 38 = .ok (.return_, 1) := by decide +kernel
theorem dX1_addGap_39 : decode cX1_addGap 39 = .ok (.aload_n 0, 1) := by decide +kernel
theorem dX1_addGap_40 : decode cX1_addGap 40 = .ok (.getfield 18, 3) := by decide +kernel
theorem dX1_addGap_43 : decode cX1_addGap 43 = .ok (.iload_n 3, 1) := by decide +kernel
theorem dX1_addGap_44 : decode cX1_addGap 44 = .ok (.iconst 1, 1) := by decide +kernel
theorem dX1_addGap_45 : decode cX1_addGap 45 = .ok (.iadd, 1) := by decide +kernel
theorem dX1_addGap_46 : decode cX1_addGap 46 = .ok (.aload_n 0, 1) := by decide +kernel
theorem dX1_addGap_47 : decode cX1_addGap 47 = .ok (.getfield 18, 3) := by decide +kernel
theorem dX1_addGap_50 : decode cX1_addGap 50 = .ok (.iload_n 3, 1) := by decide +kernel
theorem dX1_addGap_51 : decode cX1_addGap 51 = .ok (.iconst 3, 1) := by decide +kernel
theorem dX1_addGap_52 : decode cX1_addGap 52 = .ok (.invokestatic 40, 3) := by decide +kernel
theorem dX1_addGap_55 : decode cX1_addGap 55 = .ok (.aload_n 0, 1) := by decide +kernel
theorem dX1_addGap_56 : decode cX1_addGap 56 = .ok (.getfield 18, 3) := by decide +kernel
theorem dX1_addGap_59 : decode cX1_addGap 59 = .ok (.iload_n 3, 1) := by decide +kernel
theorem dX1_addGap_60 : decode cX1_addGap 60 = .ok (.iconst 4, 1) := by decide +kernel
theorem dX1_addGap_61 : decode cX1_addGap 61 = .ok (.iadd, 1) := by decide +kernel
theorem dX1_addGap_62 : decode cX1_addGap 62 = .ok (.iconst 1, 1) := by decide +kernel
theorem dX1_addGap_63 : decode cX1_addGap 63 = .ok (.isub, 1) := by decide +kernel
theorem dX1_addGap_64 : decode cX1_addGap 64 = .ok (.iload_n 2, 1) := by decide +kernel
theorem dX1_addGap_65 : decode cX1_addGap 65 = .ok (.iastore, 1) := by decide +kernel
theorem dX1_addGap_66 : decode cX1_addGap 66 = .ok (.return_, 1) := by decide +kernel
theorem dX2_init_0 : decode cX2_init 0 = .ok (.aload_n 0, 1) := by decide +kernel
theorem dX2_init_1 : decode cX2_init 1 = .ok (.invokespecial 3, 3) := by decide +kernel
theorem dX2_init_4 : decode cX2_init 4 = .ok (.aload_n 0, 1) := by decide +kernel
theorem dX2_init_5 : decode cX2_init 5 = .ok (.bipush 10, 2) := by decide +kernel
theorem dX2_init_7 : decode cX2_init 7 = .ok (.anewarray 9, 3) := by decide +kernel
theorem dX2_init_10 : decode cX2_init 10 = .ok (.putfield 11, 3) := by decide +kernel
theorem dX2_init_13 : decode cX2_init 13 = .ok (.aload_n 0, 1) := by decide +kernel
theorem dX2_init_14 : decode cX2_init 14 = .ok (.iconst 0, 1) := by decide +kernel
theorem dX2_init_15 : decode cX2_init 15 = .ok (.putfield 17, 3) := by decide +kernel
theorem dX2_init_18 : decode cX2_init 18 = .ok (.aload_n 0, 1) := by decide +kernel
theorem dX2_init_19 : decode cX2_init 19 = .ok (.iconst 0, 1) := by decide +kernel
theorem dX2_init_20 : decode cX2_init 20 = .ok (.putfield 21, 3) := by decide +kernel
theorem dX2_init_23 : decode cX2_init 23 = .ok (.iconst 0, 1) := by decide +kernel
theorem dX2_init_24 : decode cX2_init 24 = .ok (.istore_n 3, 1) := by decide +kernel
theorem dX2_init_25 : decode cX2_init 25 = .ok (.iload_n 3, 1) := by decide +kernel
theorem dX2_init_26 : decode cX2_init 26 = .ok (.bipush 10, 2) := by decide +kernel
theorem dX2_init_28 : decode cX2_init 28 = .ok (.if_icmp .ge 24, 3) := by decide +kernel
theorem dX2_init_31 : decode cX2_init 31 = .ok (.aload_n 0, 1) := by decide +kernel
theorem dX2_init_32 : decode cX2_init 32 = .ok (.getfield 11, 3) := by decide +kernel
theorem dX2_init_35 : decode cX2_init 35 = .ok (.iload_n 3, 1) := by decide +kernel
theorem dX2_init_36 : decode cX2_init 36 = .ok (.new 9, 3) := by decide +kernel
theorem dX2_init_39 : decode cX2_init 39 = .ok (.dup, 1) := by decide +kernel
theorem dX2_init_40 : decode cX2_init 40 = .ok (.aload_n 1, 1) := by decide +kernel
theorem dX2_init_41 : decode cX2_init 41 = .ok (.aload_n 2, 1) := by decide +kernel
theorem dX2_init_42 : decode cX2_init 42 = .ok (.invokespecial 24, 3) := by decide +kernel
theorem dX2_init_45 : decode cX2_init 45 = .ok (.aastore, 1) := by decide +kernel
theorem dX2_init_46 : decode cX2_init 46 = .ok (.iinc 3 1, 3) := by decide +kernel
theorem dX2_init_49 : decode cX2_init 49 = .ok (.goto (-24), 3) := by decide +kernel
theorem dX2_init_52 : decode cX2_init 52 = .ok (.return_, 1) := by decide +kernel
theorem dX2_clear_0 : decode cX2_clear 0 = .ok (.aload_n 0, 1) := by decide +kernel
theorem dX2_clear_1 : decode cX2_clear 1 = .ok (.iconst 0, 1) := by decide +kernel
theorem dX2_clear_2 : decode cX2_clear 2 = .ok (.putfield 21, 3) := by decide +kernel
theorem dX2_clear_5 : decode cX2_clear 5 = .ok (.return_, 1) := by decide +kernel
theorem dX2_keep_0 : decode cX2_keep 0 = .ok (.aload_n 0, 1) := by decide +kernel
theorem dX2_keep_1 : decode cX2_keep 1 = .ok (.getfield 11, 3) := by decide +kernel
theorem dX2_keep_4 : decode cX2_keep 4 = .ok (.aload_n 0, 1) := by decide +kernel
theorem dX2_keep_5 : decode cX2_keep 5 = .ok (.getfield 17, 3) := by decide +kernel
theorem dX2_keep_8 : decode cX2_keep 8 = .ok (.aaload, 1) := by decide +kernel
theorem dX2_keep_9 : decode cX2_keep 9 = .ok (.astore_n 2, 1) := by decide +kernel
theorem dX2_keep_10 : decode cX2_keep 10 = .ok (.aload_n 0, 1) := by decide +kernel
theorem dX2_keep_11 : decode cX2_keep 11 = .ok (.getfield 11, 3) := by decide +kernel
theorem dX2_keep_14 : decode cX2_keep 14 = .ok (.aload_n 0, 1) := by decide +kernel
theorem dX2_keep_15 : decode cX2_keep 15 = .ok (.getfield 17, 3) := by decide +kernel
theorem dX2_keep_18 : decode cX2_keep 18 = .ok (.aload_n 1, 1) := by decide +kernel
theorem dX2_keep_19 : decode cX2_keep 19 = .ok (.aastore, 1) := by decide +kernel
theorem dX2_keep_20 : decode cX2_keep 20 = .ok (.aload_n 0, 1) := by decide +kernel
theorem dX2_keep_21 : decode cX2_keep 21 = .ok (.aload_n 0, 1) := by decide +kernel
theorem dX2_keep_22 : decode cX2_keep 22 = .ok (.getfield 17, 3) := by decide +kernel
theorem dX2_keep_25 : decode cX2_keep 25 = .ok (.iconst 1, 1) := by decide +kernel
theorem dX2_keep_26 : decode cX2_keep 26 = .ok (.iadd, 1) := by decide +kernel
theorem dX2_keep_27 : decode cX2_keep 27 = .ok (.bipush 10, 2) := by decide +kernel
theorem dX2_keep_29 : decode cX2_keep 29 = .ok (.irem, 1) := by decide +kernel
theorem dX2_keep_30 : decode cX2_keep 30 = .ok (.putfield 17, 3) := by decide +kernel
theorem dX2_keep_33 : decode cX2_keep 33 = .ok (.aload_n 0, 1) := by decide +kernel
theorem dX2_keep_34 : decode cX2_keep 34 = .ok (.aload_n 0, 1) := by decide +kernel
theorem dX2_keep_35 : decode cX2_keep 35 = .ok (.getfield 21, 3) := by decide +kernel
theorem dX2_keep_38 : decode cX2_keep 38 = .ok (.iconst 1, 1) := by decide +kernel
theorem dX2_keep_39 : decode cX2_keep 39 = .ok (.iadd, 1) := by decide +kernel
theorem dX2_keep_40 : decode cX2_keep 40 = .ok (.bipush 10, 2) := by decide +kernel
theorem dX2_keep_42 : decode cX2_keep 42 = .ok (.invokestatic 27, 3) := by decide +kernel
theorem dX2_keep_45 : decode cX2_keep 45 = .ok (.putfield 21, 3) := by decide +kernel
theorem dX2_keep_48 : decode cX2_keep 48 = .ok (.aload_n 2, 1) := by decide +kernel
theorem dX2_keep_49 : decode cX2_keep 49 = .ok (.areturn, 1) := by decide +kernel
theorem dX2_takeBack_0 : decode cX2_takeBack 0 = .ok (.aload_n 0, 1) := by decide +kernel
theorem dX2_takeBack_1 : decode cX2_takeBack 1 = .ok (.aload_n 0, 1) := by decide +kernel
theorem dX2_takeBack_2 : decode cX2_takeBack 2 = .ok (.getfield 17, 3) := by decide +kernel
theorem dX2_takeBack_5 : decode cX2_takeBack 5 = .ok (.bipush 10, 2) := by decide +kernel
theorem dX2_takeBack_7 : decode cX2_takeBack 7 = .ok (.iadd, 1) := by decide +kernel
theorem dX2_takeBack_8 : decode cX2_takeBack 8 = .ok (.iconst 1, 1) := by decide +kernel
theorem dX2_takeBack_9 : decode cX2_takeBack 9 = .ok (.isub, 1) := by decide +kernel
theorem dX2_takeBack_10 : decode cX2_takeBack 10 = .ok (.bipush 10, 2) := by decide +kernel
theorem dX2_takeBack_12 : decode cX2_takeBack 12 = .ok (.irem, 1) := by decide +kernel
theorem dX2_takeBack_13 : decode cX2_takeBack 13 = .ok (.putfield 17, 3) := by decide +kernel
theorem dX2_takeBack_16 : decode cX2_takeBack 16 = .ok (.aload_n 0, 1) := by decide +kernel
theorem dX2_takeBack_17 : decode cX2_takeBack 17 = .ok (.dup, 1) := by decide +kernel
theorem dX2_takeBack_18 : decode cX2_takeBack 18 = .ok (.getfield 21, 3) := by decide +kernel
theorem dX2_takeBack_21 : decode cX2_takeBack 21 = .ok (.iconst 1, 1) := by decide +kernel
theorem dX2_takeBack_22 : decode cX2_takeBack 22 = .ok (.isub, 1) := by decide +kernel
theorem dX2_takeBack_23 : decode cX2_takeBack 23 = .ok (.putfield 21, 3) := by decide +kernel
theorem dX2_takeBack_26 : decode cX2_takeBack 26 = .ok (.aload_n 0, 1) := by decide +kernel
theorem dX2_takeBack_27 : decode cX2_takeBack 27 = .ok (.getfield 11, 3) := by decide +kernel
theorem dX2_takeBack_30 : decode cX2_takeBack 30 = .ok (.aload_n 0, 1) := by decide +kernel
theorem dX2_takeBack_31 : decode cX2_takeBack 31 = .ok (.getfield 17, 3) := by decide +kernel
theorem dX2_takeBack_34 : decode cX2_takeBack 34 = .ok (.aaload, 1) := by decide +kernel
theorem dX2_takeBack_35 : decode cX2_takeBack 35 = .ok (.astore_n 2, 1) := by decide +kernel
theorem dX2_takeBack_36 : decode cX2_takeBack 36 = .ok (.aload_n 0, 1) := by decide +kernel
theorem dX2_takeBack_37 : decode cX2_takeBack 37 = .ok (.getfield 11, 3) := by decide +kernel
theorem dX2_takeBack_40 : decode cX2_takeBack 40 = .ok (.aload_n 0, 1) := by decide +kernel
theorem dX2_takeBack_41 : decode cX2_takeBack 41 = .ok (.getfield 17, 3) := by decide +kernel
theorem dX2_takeBack_44 : decode cX2_takeBack 44 = .ok (.aload_n 1, 1) := by decide +kernel
theorem dX2_takeBack_45 : decode cX2_takeBack 45 = .ok (.aastore, 1) := by decide +kernel
theorem dX2_takeBack_46 : decode cX2_takeBack 46 = .ok (.aload_n 2, 1) := by decide +kernel
theorem dX2_takeBack_47 : decode cX2_takeBack 47 = .ok (.areturn, 1) := by decide +kernel
theorem dX3_init_0 : decode cX3_init 0 = .ok (.aload_n 0, 1) := by decide +kernel
theorem dX3_init_1 : decode cX3_init 1 = .ok (.invokespecial 3, 3) := by decide +kernel
theorem dX3_init_4 : decode cX3_init 4 = .ok (.aload_n 0, 1) := by decide +kernel
theorem dX3_init_5 : decode cX3_init 5 = .ok (.iconst 0, 1) := by decide +kernel
theorem dX3_init_6 : decode cX3_init 6 = .ok (.putfield 9, 3) := by decide +kernel
theorem dX3_init_9 : decode cX3_init 9 = .ok (.aload_n 0, 1) := by decide +kernel
theorem dX3_init_10 : decode cX3_init 10 = .ok (.iconst 0, 1) := by decide +kernel
theorem dX3_init_11 : decode cX3_init 11 = .ok (.putfield 15, 3) := by decide +kernel
theorem dX3_init_14 : decode cX3_init 14 = .ok (.aload_n 0, 1) := by decide +kernel
theorem dX3_init_15 : decode cX3_init 15 = .ok (.bipush 72, 2) := by decide +kernel
theorem dX3_init_17 : decode cX3_init 17 = .ok (.newarray .int, 2) := by decide +kernel
theorem dX3_init_19 : decode cX3_init 19 = .ok (.putfield 18, 3) := by decide +kernel
theorem dX3_init_22 : decode cX3_init 22 = .ok (.aload_n 0, 1) := by decide +kernel
theorem dX3_init_23 : decode cX3_init 23 = .ok (.bipush 10, 2) := by decide +kernel
theorem dX3_init_25 : decode cX3_init 25 = .ok (.newarray .int, 2) := by decide +kernel
theorem dX3_init_27 : decode cX3_init 27 = .ok (.putfield 22, 3) := by decide +kernel
theorem dX3_init_30 : decode cX3_init 30 = .ok (.return_, 1) := by decide +kernel
theorem dX3_begin_0 : decode cX3_begin 0 = .ok (.aload_n 0, 1) := by decide +kernel
theorem dX3_begin_1 : decode cX3_begin 1 = .ok (.iconst 0, 1) := by decide +kernel
theorem dX3_begin_2 : decode cX3_begin 2 = .ok (.putfield 9, 3) := by decide +kernel
theorem dX3_begin_5 : decode cX3_begin 5 = .ok (.aload_n 0, 1) := by decide +kernel
theorem dX3_begin_6 : decode cX3_begin 6 = .ok (.iconst 0, 1) := by decide +kernel
theorem dX3_begin_7 : decode cX3_begin 7 = .ok (.putfield 15, 3) := by decide +kernel
theorem dX3_begin_10 : decode cX3_begin 10 = .ok (.aload_n 0, 1) := by decide +kernel
theorem dX3_begin_11 : decode cX3_begin 11 = .ok (.getfield 22, 3) := by decide +kernel
theorem dX3_begin_14 : decode cX3_begin 14 = .ok (.iconst 0, 1) := by decide +kernel
theorem dX3_begin_15 : decode cX3_begin 15 = .ok (.invokestatic 25, 3) := by decide +kernel
theorem dX3_begin_18 : decode cX3_begin 18 = .ok (.return_, 1) := by decide +kernel
theorem dX3_copyFrom_0 : decode cX3_copyFrom 0 = .ok (.aload_n 0, 1) := by decide +kernel
theorem dX3_copyFrom_1 : decode cX3_copyFrom 1 = .ok (.aload_n 1, 1) := by decide +kernel
theorem dX3_copyFrom_2 : decode cX3_copyFrom 2 = .ok (.getfield 9, 3) := by decide +kernel
theorem dX3_copyFrom_5 : decode cX3_copyFrom 5 = .ok (.putfield 9, 3) := by decide +kernel
theorem dX3_copyFrom_8 : decode cX3_copyFrom 8 = .ok (.aload_n 0, 1) := by decide +kernel
theorem dX3_copyFrom_9 : decode cX3_copyFrom 9 = .ok (.aload_n 1, 1) := by decide +kernel
theorem dX3_copyFrom_10 : decode cX3_copyFrom 10 = .ok (.getfield 15, 3) := by decide +kernel
theorem dX3_copyFrom_13 : decode cX3_copyFrom 13 = .ok (.putfield 15, 3) := by decide +kernel
theorem dX3_copyFrom_16 : decode cX3_copyFrom 16 = .ok (.aload_n 1, 1) := by decide +kernel
theorem dX3_copyFrom_17 : decode cX3_copyFrom 17 = .ok (.getfield 18, 3) := by decide +kernel
theorem dX3_copyFrom_20 : decode cX3_copyFrom 20 = .ok (.iconst 0, 1) := by decide +kernel
theorem dX3_copyFrom_21 : decode cX3_copyFrom 21 = .ok (.aload_n 0, 1) := by decide +kernel
theorem dX3_copyFrom_22 : decode cX3_copyFrom 22 = .ok (.getfield 18, 3) := by decide +kernel
theorem dX3_copyFrom_25 : decode cX3_copyFrom 25 = .ok (.iconst 0, 1) := by decide +kernel
theorem dX3_copyFrom_26 : decode cX3_copyFrom 26 = .ok (.aload_n 0, 1) := by decide +kernel
theorem dX3_copyFrom_27 : decode cX3_copyFrom 27 = .ok (.getfield 18, 3) := by decide +kernel
theorem dX3_copyFrom_30 : decode cX3_copyFrom 30 = .ok (.arraylength, 1) := by decide +kernel
theorem dX3_copyFrom_31 : decode cX3_copyFrom 31 = .ok (.invokestatic 31, 3) := by decide +kernel
theorem dX3_copyFrom_34 : decode cX3_copyFrom 34 = .ok (.aload_n 1, 1) := by decide +kernel
theorem dX3_copyFrom_35 : decode cX3_copyFrom 35 = .ok (.getfield 22, 3) := by decide +kernel
theorem dX3_copyFrom_38 : decode cX3_copyFrom 38 = .ok (.iconst 0, 1) := by decide +kernel
theorem dX3_copyFrom_39 : decode cX3_copyFrom 39 = .ok (.aload_n 0, 1) := by decide +kernel
theorem dX3_copyFrom_40 : decode cX3_copyFrom 40 = .ok (.getfield 22, 3) := by decide +kernel
theorem dX3_copyFrom_43 : decode cX3_copyFrom 43 = .ok (.iconst 0, 1) := by decide +kernel
theorem dX3_copyFrom_44 : decode cX3_copyFrom 44 = .ok (.aload_n 0, 1) := by decide +kernel
theorem dX3_copyFrom_45 : decode cX3_copyFrom 45 = .ok (.getfield 22, 3) := by decide +kernel
theorem dX3_copyFrom_48 : decode cX3_copyFrom 48 = .ok (.arraylength, 1) := by decide +kernel
theorem dX3_copyFrom_49 : decode cX3_copyFrom 49 = .ok (.invokestatic 31, 3) := by decide +kernel
theorem dX3_copyFrom_52 : decode cX3_copyFrom 52 = .ok (.return_, 1) := by decide +kernel
theorem dX3_add_0 : decode cX3_add 0 = .ok (.aload_n 0, 1) := by decide +kernel
theorem dX3_add_1 : decode cX3_add 1 = .ok (.getfield 15, 3) := by decide +kernel
theorem dX3_add_4 : decode cX3_add 4 = .ok (.iconst 3, 1) := by decide +kernel
theorem dX3_add_5 : decode cX3_add 5 = .ok (.imul, 1) := by decide +kernel
theorem dX3_add_6 : decode cX3_add 6 = .ok (.istore 4, 2) := by decide +kernel
theorem dX3_add_8 : decode cX3_add 8 = .ok (.aload_n 0, 1) := by decide +kernel
theorem dX3_add_9 : decode cX3_add 9 = .ok (.getfield 18, 3) := by decide +kernel
theorem dX3_add_12 : decode cX3_add 12 = .ok (.iload 4, 2) := by decide +kernel
theorem dX3_add_14 : decode cX3_add 14 = .ok (.iload_n 1, 1) := by decide +kernel
theorem dX3_add_15 : decode cX3_add 15 = .ok (.iastore, 1) := by decide +kernel
theorem dX3_add_16 : decode cX3_add 16 = .ok (.aload_n 0, 1) := by decide +kernel
theorem dX3_add_17 : decode cX3_add 17 = .ok (.getfield 18, 3) := by decide +kernel
theorem dX3_add_20 : decode cX3_add 20 = .ok (.iload 4, 2) := by decide +kernel
theorem dX3_add_22 : decode cX3_add 22 = .ok (.iconst 1, 1) := by decide +kernel
theorem dX3_add_23 : decode cX3_add 23 = .ok (.iadd, 1) := by decide +kernel
theorem dX3_add_24 : decode cX3_add 24 = .ok (.iload_n 2, 1) := by decide +kernel
theorem dX3_add_25 : decode cX3_add 25 = .ok (.iastore, 1) := by decide +kernel
theorem dX3_add_26 : decode cX3_add 26 = .ok (.aload_n 0, 1) := by decide +kernel
theorem dX3_add_27 : decode cX3_add 27 = .ok (.getfield 18, 3) := by decide +kernel
theorem dX3_add_30 : decode cX3_add 30 = .ok (.iload 4, 2) := by decide +kernel
theorem dX3_add_32 : decode cX3_add 32 = .ok (.iconst 2, 1) := by decide +kernel
theorem dX3_add_33 : decode cX3_add 33 = .ok (.iadd, 1) := by decide +kernel
theorem dX3_add_34 : decode cX3_add 34 = .ok (.iload_n 3, 1) := by decide +kernel
theorem dX3_add_35 : decode cX3_add 35 = .ok (.iastore, 1) := by decide +kernel
theorem dX3_add_36 : decode cX3_add 36 = .ok (.aload_n 0, 1) := by decide +kernel
theorem dX3_add_37 : decode cX3_add 37 = .ok (.aload_n 0, 1) := by decide +kernel
theorem dX3_add_38 : decode cX3_add 38 = .ok (.getfield 15, 3) := by decide +kernel
theorem dX3_add_41 : decode cX3_add 41 = .ok (.iconst 1, 1) := by decide +kernel
theorem dX3_add_42 : decode cX3_add 42 = .ok (.iadd, 1) := by decide +kernel
theorem dX3_add_43 : decode cX3_add 43 = .ok (.bipush 24, 2) := by decide +kernel
theorem dX3_add_45 : decode cX3_add 45 = .ok (.irem, 1) := by decide +kernel
theorem dX3_add_46 : decode cX3_add 46 = .ok (.putfield 15, 3) := by decide +kernel
theorem dX3_add_49 : decode cX3_add 49 = .ok (.aload_n 0, 1) := by decide +kernel
theorem dX3_add_50 : decode cX3_add 50 = .ok (.aload_n 0, 1) := by decide +kernel
theorem dX3_add_51 : decode cX3_add 51 = .ok (.getfield 9, 3) := by decide +kernel
theorem dX3_add_54 : decode cX3_add 54 = .ok (.iconst 1, 1) := by decide +kernel
theorem dX3_add_55 : decode cX3_add 55 = .ok (.iadd, 1) := by decide +kernel
theorem dX3_add_56 : decode cX3_add 56 = .ok (.bipush 24, 2) := by decide +kernel
theorem dX3_add_58 : decode cX3_add 58 = .ok (.invokestatic 37, 3) := by decide +kernel
theorem dX3_add_61 : decode cX3_add 61 = .ok (.putfield 9, 3) := by decide +kernel
theorem dX3_add_64 : decode cX3_add 64 = .ok (.aload_n 0, 1) := by decide +kernel
theorem dX3_add_65 : decode cX3_add 65 = .ok (.getfield 22, 3) := by decide +kernel
theorem dX3_add_68 : decode cX3_add 68 = .ok (.iload_n 1, 1) := by decide +kernel
theorem dX3_add_69 : decode cX3_add 69 = .ok (.dup2, 1) := by decide +kernel
theorem dX3_add_70 : decode cX3_add 70 = .ok (.iaload, 1) := by decide +kernel
theorem dX3_add_71 : decode cX3_add 71 = .ok (.iconst 1, 1) := by decide +kernel
theorem dX3_add_72 : decode cX3_add 72 = .ok (.iadd, 1) := by decide +kernel
theorem dX3_add_73 : decode cX3_add 73 = .ok (.iastore, 1) := by decide +kernel
theorem dX3_add_74 : decode cX3_add 74 = .ok (.return_, 1) := by decide +kernel
theorem dX3_partOf_0 : decode cX3_partOf 0 = .ok (.iload_n 1, 1) := by decide +kernel
theorem dX3_partOf_1 : decode cX3_partOf 1 = .ok (.ifCond .lt 11, 3) := by decide +kernel
theorem dX3_partOf_4 : decode cX3_partOf 4 = .ok (.iload_n 1, 1) := by decide +kernel
theorem dX3_partOf_5 : decode cX3_partOf 5 = .ok (.aload_n 0, 1) := by decide +kernel
theorem dX3_partOf_6 : decode cX3_partOf 6 = .ok (.getfield 9, 3) := by decide +kernel
theorem dX3_partOf_9 : decode cX3_partOf 9 = .ok (.if_icmp .lt 5, 3) := by decide +kernel
theorem dX3_partOf_12 : decode cX3_partOf 12 = .ok (.iconst (-1), 1) := by decide +kernel
theorem dX3_partOf_13 : decode cX3_partOf 13 = .ok (.ireturn, 1) := by decide +kernel
theorem dX3_partOf_14 : decode cX3_partOf 14 = .ok (.aload_n 0, 1) := by decide +kernel
theorem dX3_partOf_15 : decode cX3_partOf 15 = .ok (.getfield 15, 3) := by decide +kernel
theorem dX3_partOf_18 : decode cX3_partOf 18 = .ok (.iconst 1, 1) := by decide +kernel
theorem dX3_partOf_19 : decode cX3_partOf 19 = .ok (.isub, 1) := by decide +kernel
theorem dX3_partOf_20 : decode cX3_partOf 20 = .ok (.iload_n 1, 1) := by decide +kernel
theorem dX3_partOf_21 : decode cX3_partOf 21 = .ok (.isub, 1) := by decide +kernel
theorem dX3_partOf_22 : decode cX3_partOf 22 = .ok (.bipush 24, 2) := by decide +kernel
theorem dX3_partOf_24 : decode cX3_partOf 24 = .ok (.iadd, 1) := by decide +kernel
theorem dX3_partOf_25 : decode cX3_partOf 25 = .ok (.bipush 24, 2) := by decide +kernel
theorem dX3_partOf_27 : decode cX3_partOf 27 = .ok (.irem, 1) := by decide +kernel
theorem dX3_partOf_28 : decode cX3_partOf 28 = .ok (.istore_n 3, 1) := by decide +kernel
theorem dX3_partOf_29 : decode cX3_partOf 29 = .ok (.aload_n 0, 1) := by decide +kernel
theorem dX3_partOf_30 : decode cX3_partOf 30 = .ok (.getfield 18, 3) := by decide +kernel
theorem dX3_partOf_33 : decode cX3_partOf 33 = .ok (.iload_n 3, 1) := by decide +kernel
theorem dX3_partOf_34 : decode cX3_partOf 34 = .ok (.iconst 3, 1) := by decide +kernel
theorem dX3_partOf_35 : decode cX3_partOf 35 = .ok (.imul, 1) := by decide +kernel
theorem dX3_partOf_36 : decode cX3_partOf 36 = .ok (.iload_n 2, 1) := by decide +kernel
theorem dX3_partOf_37 : decode cX3_partOf 37 = .ok (.iadd, 1) := by decide +kernel
theorem dX3_partOf_38 : decode cX3_partOf 38 = .ok (.iaload, 1) := by decide +kernel
theorem dX3_partOf_39 : decode cX3_partOf 39 = .ok (.ireturn, 1) := by decide +kernel
theorem dX3_steps_0 : decode cX3_steps 0 = .ok (.iconst 0, 1) := by decide +kernel
theorem dX3_steps_1 : decode cX3_steps 1 = .ok (.istore_n 1, 1) := by decide +kernel
theorem dX3_steps_2 : decode cX3_steps 2 = .ok (.iconst 1, 1) := by decide +kernel
theorem dX3_steps_3 : decode cX3_steps 3 = .ok (.istore_n 2, 1) := by decide +kernel
theorem dX3_steps_4 : decode cX3_steps 4 = .ok (.iload_n 2, 1) := by decide +kernel
theorem dX3_steps_5 : decode cX3_steps 5 = .ok (.bipush 6, 2) := by decide +kernel
theorem dX3_steps_7 : decode cX3_steps 7 = .ok (.if_icmp .gt 18, 3) := by decide +kernel
theorem dX3_steps_10 : decode cX3_steps 10 = .ok (.iload_n 1, 1) := by decide +kernel
theorem dX3_steps_11 : decode cX3_steps 11 = .ok (.aload_n 0, 1) := by decide +kernel
theorem dX3_steps_12 : decode cX3_steps 12 = .ok (.getfield 22, 3) := by decide +kernel
theorem dX3_steps_15 : decode cX3_steps 15 = .ok (.iload_n 2, 1) := by decide +kernel
theorem dX3_steps_16 : decode cX3_steps 16 = .ok (.iaload, 1) := by decide +kernel
theorem dX3_steps_17 : decode cX3_steps 17 = .ok (.iadd, 1) := by decide +kernel
theorem dX3_steps_18 : decode cX3_steps 18 = .ok (.istore_n 1, 1) := by decide +kernel
theorem dX3_steps_19 : decode cX3_steps 19 = .ok (.iinc 2 1, 3) := by decide +kernel
theorem dX3_steps_22 : decode cX3_steps 22 = .ok (.goto (-18), 3) := by decide +kernel
theorem dX3_steps_25 : decode cX3_steps 25 = .ok (.iload_n 1, 1) := by decide +kernel
theorem dX3_steps_26 : decode cX3_steps 26 = .ok (.ireturn, 1) := by decide +kernel
theorem dX4_init_0 : decode cX4_init 0 = .ok (.aload_n 0, 1) := by decide +kernel
theorem dX4_init_1 : decode cX4_init 1 = .ok (.invokespecial 3, 3) := by decide +kernel
theorem dX4_init_4 : decode cX4_init 4 = .ok (.aload_n 0, 1) := by decide +kernel
theorem dX4_init_5 : decode cX4_init 5 = .ok (.new 9, 3) := by decide +kernel
theorem dX4_init_8 : decode cX4_init 8 = .ok (.dup, 1) := by decide +kernel
theorem dX4_init_9 : decode cX4_init 9 = .ok (.invokespecial 11, 3) := by decide +kernel
theorem dX4_init_12 : decode cX4_init 12 = .ok (.putfield 12, 3) := by decide +kernel
theorem dX4_init_15 : decode cX4_init 15 = .ok (.aload_n 0, 1) := by decide +kernel
theorem dX4_init_16 : decode cX4_init 16 = .ok (.new 18, 3) := by decide +kernel
theorem dX4_init_19 : decode cX4_init 19 = .ok (.dup, 1) := by decide +kernel
theorem dX4_init_20 : decode cX4_init 20 = .ok (.invokespecial 20, 3) := by decide +kernel
theorem dX4_init_23 : decode cX4_init 23 = .ok (.putfield 21, 3) := by decide +kernel
theorem dX4_init_26 : decode cX4_init 26 = .ok (.aload_n 0, 1) := by decide +kernel
theorem dX4_init_27 : decode cX4_init 27 = .ok (.bipush 10, 2) := by decide +kernel
theorem dX4_init_29 : decode cX4_init 29 = .ok (.newarray .int, 2) := by decide +kernel
theorem dX4_init_31 : decode cX4_init 31 = .ok (.putfield 25, 3) := by decide +kernel
theorem dX4_init_34 : decode cX4_init 34 = .ok (.aload_n 0, 1) := by decide +kernel
theorem dX4_init_35 : decode cX4_init 35 = .ok (.bipush 10, 2) := by decide +kernel
theorem dX4_init_37 : decode cX4_init 37 = .ok (.newarray .int, 2) := by decide +kernel
theorem dX4_init_39 : decode cX4_init 39 = .ok (.putfield 29, 3) := by decide +kernel
theorem dX4_init_42 : decode cX4_init 42 = .ok (.aload_n 0, 1) := by decide +kernel
theorem dX4_init_43 : decode cX4_init 43 = .ok (.bipush 10, 2) := by decide +kernel
theorem dX4_init_45 : decode cX4_init 45 = .ok (.newarray .int, 2) := by decide +kernel
theorem dX4_init_47 : decode cX4_init 47 = .ok (.putfield 32, 3) := by decide +kernel
theorem dX4_init_50 : decode cX4_init 50 = .ok (.aload_n 0, 1) := by decide +kernel
theorem dX4_init_51 : decode cX4_init 51 = .ok (.bipush 10, 2) := by decide +kernel
theorem dX4_init_53 : decode cX4_init 53 = .ok (.newarray .int, 2) := by decide +kernel
theorem dX4_init_55 : decode cX4_init 55 = .ok (.putfield 35, 3) := by decide +kernel
theorem dX4_init_58 : decode cX4_init 58 = .ok (.aload_n 0, 1) := by decide +kernel
theorem dX4_init_59 : decode cX4_init 59 = .ok (.bipush 50, 2) := by decide +kernel
theorem dX4_init_61 : decode cX4_init 61 = .ok (.newarray .int, 2) := by decide +kernel
theorem dX4_init_63 : decode cX4_init 63 = .ok (.putfield 38, 3) := by decide +kernel
theorem dX4_init_66 : decode cX4_init 66 = .ok (.aload_n 0, 1) := by decide +kernel
theorem dX4_init_67 : decode cX4_init 67 = .ok (.aload_n 1, 1) := by decide +kernel
theorem dX4_init_68 : decode cX4_init 68 = .ok (.putfield 41, 3) := by decide +kernel
theorem dX4_init_71 : decode cX4_init 71 = .ok (.aload_n 0, 1) := by decide +kernel
theorem dX4_init_72 : decode cX4_init 72 = .ok (.new 45, 3) := by decide +kernel
theorem dX4_init_75 : decode cX4_init 75 = .ok (.dup, 1) := by decide +kernel
theorem dX4_init_76 : decode cX4_init 76 = .ok (.aload_n 2, 1) := by decide +kernel
theorem dX4_init_77 : decode cX4_init 77 = .ok (.invokespecial 47, 3) := by decide +kernel
theorem dX4_init_80 : decode cX4_init 80 = .ok (.putfield 50, 3) := by decide +kernel
theorem dX4_init_83 : decode cX4_init 83 = .ok (.aload_n 0, 1) := by decide +kernel
theorem dX4_init_84 : decode cX4_init 84 = .ok (.aload_n 2, 1) := by decide +kernel
theorem dX4_init_85 : decode cX4_init 85 = .ok (.invokevirtual 54, 3) := by decide +kernel
theorem dX4_init_88 : decode cX4_init 88 = .ok (.return_, 1) := by decide +kernel
theorem dX4_begin_0 : decode cX4_begin 0 = .ok (.aload_n 0, 1) := by decide +kernel
theorem dX4_begin_1 : decode cX4_begin 1 = .ok (.aload_n 1, 1) := by decide +kernel
theorem dX4_begin_2 : decode cX4_begin 2 = .ok (.putfield 57, 3) := by decide +kernel
theorem dX4_begin_5 : decode cX4_begin 5 = .ok (.aload_n 0, 1) := by decide +kernel
theorem dX4_begin_6 : decode cX4_begin 6 = .ok (.getfield 50, 3) := by decide +kernel
theorem dX4_begin_9 : decode cX4_begin 9 = .ok (.aload_n 1, 1) := by decide +kernel
theorem dX4_begin_10 : decode cX4_begin 10 = .ok (.invokevirtual 61, 3) := by decide +kernel
theorem dX4_begin_13 : decode cX4_begin 13 = .ok (.aload_n 0, 1) := by decide +kernel
theorem dX4_begin_14 : decode cX4_begin 14 = .ok (.getfield 12, 3) := by decide +kernel
theorem dX4_begin_17 : decode cX4_begin 17 = .ok (.aload_n 1, 1) := by decide +kernel
theorem dX4_begin_18 : decode cX4_begin 18 = .ok (.invokevirtual 62, 3) := by decide +kernel
theorem dX4_begin_21 : decode cX4_begin 21 = .ok (.aload_n 0, 1) := by decide +kernel
theorem dX4_begin_22 : decode cX4_begin 22 = .ok (.getfield 21, 3) := by decide +kernel
theorem dX4_begin_25 : decode cX4_begin 25 = .ok (.invokevirtual 63, 3) := by decide +kernel
theorem dX4_begin_28 : decode cX4_begin 28 = .ok (.aload_n 0, 1) := by decide +kernel
theorem dX4_begin_29 : decode cX4_begin 29 = .ok (.iconst 0, 1) := by decide +kernel
theorem dX4_begin_30 : decode cX4_begin 30 = .ok (.putfield 65, 3) := by decide +kernel
theorem dX4_begin_33 : decode cX4_begin 33 = .ok (.aload_n 0, 1) := by decide +kernel
theorem dX4_begin_34 : decode cX4_begin 34 = .ok (.aload_n 1, 1) := by decide +kernel
theorem dX4_begin_35 : decode cX4_begin 35 = .ok (.getfield 69, 3) := by decide +kernel
theorem dX4_begin_38 : decode cX4_begin 38 = .ok (.putfield 74, 3) := by decide +kernel
theorem dX4_begin_41 : decode cX4_begin 41 = .ok (.aload_n 0, 1) := by decide +kernel
theorem dX4_begin_42 : decode cX4_begin 42 = .ok (.iconst (-1), 1) := by decide +kernel
theorem dX4_begin_43 : decode cX4_begin 43 = .ok (.putfield 75, 3) := by decide +kernel
theorem dX4_begin_46 : decode cX4_begin 46 = .ok (.aload_n 0, 1) := by decide +kernel
theorem dX4_begin_47 : decode cX4_begin 47 = .ok (.getfield 25, 3) := by decide +kernel
theorem dX4_begin_50 : decode cX4_begin 50 = .ok (.iconst 0, 1) := by decide +kernel
theorem dX4_begin_51 : decode cX4_begin 51 = .ok (.invokestatic 78, 3) := by decide +kernel
theorem dX4_begin_54 : decode cX4_begin 54 = .ok (.aload_n 0, 1) := by decide +kernel
theorem dX4_begin_55 : decode cX4_begin 55 = .ok (.getfield 29, 3) := by decide +kernel
theorem dX4_begin_58 : decode cX4_begin 58 = .ok (.iconst 0, 1) := by decide +kernel
theorem dX4_begin_59 : decode cX4_begin 59 = .ok (.invokestatic 78, 3) := by decide +kernel
theorem dX4_begin_62 : decode cX4_begin 62 = .ok (.aload_n 0, 1) := by decide +kernel
theorem dX4_begin_63 : decode cX4_begin 63 = .ok (.getfield 35, 3) := by decide +kernel
theorem dX4_begin_66 : decode cX4_begin 66 = .ok (.iconst 0, 1) := by decide +kernel
theorem dX4_begin_67 : decode cX4_begin 67 = .ok (.invokestatic 78, 3) := by decide +kernel
theorem dX4_begin_70 : decode cX4_begin 70 = .ok (.return_, 1) := by decide +kernel
theorem dX4_copyFrom_0 : decode cX4_copyFrom 0 = .ok (.aload_n 0, 1) := by decide +kernel
theorem dX4_copyFrom_1 : decode cX4_copyFrom 1 = .ok (.aload_n 1, 1) := by decide +kernel
theorem dX4_copyFrom_2 : decode cX4_copyFrom 2 = .ok (.getfield 57, 3) := by decide +kernel
theorem dX4_copyFrom_5 : decode cX4_copyFrom 5 = .ok (.putfield 57, 3) := by decide +kernel
theorem dX4_copyFrom_8 : decode cX4_copyFrom 8 = .ok (.aload_n 0, 1) := by decide +kernel
theorem dX4_copyFrom_9 : decode cX4_copyFrom 9 = .ok (.getfield 50, 3) := by decide +kernel
theorem dX4_copyFrom_12 : decode cX4_copyFrom 12 = .ok (.aload_n 1, 1) := by decide +kernel
theorem dX4_copyFrom_13 : decode cX4_copyFrom 13 = .ok (.getfield 50, 3) := by decide +kernel
theorem dX4_copyFrom_16 : decode cX4_copyFrom 16 = .ok (.invokevirtual 84, 3) := by decide +kernel
theorem dX4_copyFrom_19 : decode cX4_copyFrom 19 = .ok (.aload_n 0, 1) := by decide +kernel
theorem dX4_copyFrom_20 : decode cX4_copyFrom 20 = .ok (.getfield 12, 3) := by decide +kernel
theorem dX4_copyFrom_23 : decode cX4_copyFrom 23 = .ok (.aload_n 1, 1) := by decide +kernel
theorem dX4_copyFrom_24 : decode cX4_copyFrom 24 = .ok (.getfield 12, 3) := by decide +kernel
theorem dX4_copyFrom_27 : decode cX4_copyFrom 27 = .ok (.invokevirtual 88, 3) := by decide +kernel
theorem dX4_copyFrom_30 : decode cX4_copyFrom 30 = .ok (.aload_n 0, 1) := by decide +kernel
theorem dX4_copyFrom_31 : decode cX4_copyFrom 31 = .ok (.getfield 21, 3) := by decide +kernel
theorem dX4_copyFrom_34 : decode cX4_copyFrom 34 = .ok (.aload_n 1, 1) := by decide +kernel
theorem dX4_copyFrom_35 : decode cX4_copyFrom 35 = .ok (.getfield 21, 3) := by decide +kernel
theorem dX4_copyFrom_38 : decode cX4_copyFrom 38 = .ok (.invokevirtual 91, 3) := by decide +kernel
theorem dX4_copyFrom_41 : decode cX4_copyFrom 41 = .ok (.aload_n 0, 1) := by decide +kernel
theorem dX4_copyFrom_42 : decode cX4_copyFrom 42 = .ok (.aload_n 1, 1) := by decide +kernel
theorem dX4_copyFrom_43 : decode cX4_copyFrom 43 = .ok (.getfield 65, 3) := by decide +kernel
theorem dX4_copyFrom_46 : decode cX4_copyFrom 46 = .ok (.putfield 65, 3) := by decide +kernel
theorem dX4_copyFrom_49 : decode cX4_copyFrom 49 = .ok (.aload_n 0, 1) := by decide +kernel
theorem dX4_copyFrom_50 : decode cX4_copyFrom 50 = .ok (.aload_n 1, 1) := by decide +kernel
theorem dX4_copyFrom_51 : decode cX4_copyFrom 51 = .ok (.getfield 74, 3) := by decide +kernel
theorem dX4_copyFrom_54 : decode cX4_copyFrom 54 = .ok (.putfield 74, 3) := by decide +kernel
theorem dX4_copyFrom_57 : decode cX4_copyFrom 57 = .ok (.aload_n 0, 1) := by decide +kernel
theorem dX4_copyFrom_58 : decode cX4_copyFrom 58 = .ok (.aload_n 1, 1) := by decide +kernel
theorem dX4_copyFrom_59 : decode cX4_copyFrom 59 = .ok (.getfield 75, 3) := by decide +kernel
theorem dX4_copyFrom_62 : decode cX4_copyFrom 62 = .ok (.putfield 75, 3) := by decide +kernel
theorem dX4_copyFrom_65 : decode cX4_copyFrom 65 = .ok (.aload_n 1, 1) := by decide +kernel
theorem dX4_copyFrom_66 : decode cX4_copyFrom 66 = .ok (.getfield 25, 3) := by decide +kernel
theorem dX4_copyFrom_69 : decode cX4_copyFrom 69 = .ok (.iconst 0, 1) := by decide +kernel
theorem dX4_copyFrom_70 : decode cX4_copyFrom 70 = .ok (.aload_n 0, 1) := by decide +kernel
theorem dX4_copyFrom_71 : decode cX4_copyFrom 71 = .ok (.getfield 25, 3) := by decide +kernel
theorem dX4_copyFrom_74 : decode cX4_copyFrom 74 = .ok (.iconst 0, 1) := by decide +kernel
theorem dX4_copyFrom_75 : decode cX4_copyFrom 75 = .ok (.aload_n 0, 1) := by decide +kernel
theorem dX4_copyFrom_76 : decode cX4_copyFrom 76 = .ok (.getfield 25, 3) := by decide +kernel
theorem dX4_copyFrom_79 : decode cX4_copyFrom 79 = .ok (.arraylength, 1) := by decide +kernel
theorem dX4_copyFrom_80 : decode cX4_copyFrom 80 = .ok (.invokestatic 94, 3) := by decide +kernel
theorem dX4_copyFrom_83 : decode cX4_copyFrom 83 = .ok (.aload_n 1, 1) := by decide +kernel
theorem dX4_copyFrom_84 : decode cX4_copyFrom 84 = .ok (.getfield 29, 3) := by decide +kernel
theorem dX4_copyFrom_87 : decode cX4_copyFrom 87 = .ok (.iconst 0, 1) := by decide +kernel
theorem dX4_copyFrom_88 : decode cX4_copyFrom 88 = .ok (.aload_n 0, 1) := by decide +kernel
theorem dX4_copyFrom_89 : decode cX4_copyFrom 89 = .ok (.getfield 29, 3) := by decide +kernel
theorem dX4_copyFrom_92 : decode cX4_copyFrom 92 = .ok (.iconst 0, 1) := by decide +kernel
theorem dX4_copyFrom_93 : decode cX4_copyFrom 93 = .ok (.aload_n 0, 1) := by decide +kernel
theorem dX4_copyFrom_94 : decode cX4_copyFrom 94 = .ok (.getfield 29, 3) := by decide +kernel
theorem dX4_copyFrom_97 : decode cX4_copyFrom 97 = .ok (.arraylength, 1) := by decide +kernel
theorem dX4_copyFrom_98 : decode cX4_copyFrom 98 = .ok (.invokestatic 94, 3) := by decide +kernel
theorem dX4_copyFrom_101 : decode cX4_copyFrom 101 = .ok (.aload_n 1, 1) := by decide +kernel
theorem dX4_copyFrom_102 : decode cX4_copyFrom 102 = .ok (.getfield 32, 3) := by decide +kernel
theorem dX4_copyFrom_105 : decode cX4_copyFrom 105 = .ok (.iconst 0, 1) := by decide +kernel
theorem dX4_copyFrom_106 : decode cX4_copyFrom 106 = .ok (.aload_n 0, 1) := by decide +kernel
theorem dX4_copyFrom_107 : decode cX4_copyFrom 107 = .ok (.getfield 32, 3) := by decide +kernel
theorem dX4_copyFrom_110 : decode cX4_copyFrom 110 = .ok (.iconst 0, 1) := by decide +kernel
theorem dX4_copyFrom_111 : decode cX4_copyFrom 111 = .ok (.aload_n 0, 1) := by decide +kernel
theorem dX4_copyFrom_112 : decode cX4_copyFrom 112 = .ok (.getfield 32, 3) := by decide +kernel
theorem dX4_copyFrom_115 : decode cX4_copyFrom 115 = .ok (.arraylength, 1) := by decide +kernel
theorem dX4_copyFrom_116 : decode cX4_copyFrom 116 = .ok (.invokestatic 94, 3) := by decide +kernel
theorem dX4_copyFrom_119 : decode cX4_copyFrom 119 = .ok (.aload_n 1, 1) := by decide +kernel
theorem dX4_copyFrom_120 : decode cX4_copyFrom 120 = .ok (.getfield 35, 3) := by decide +kernel
theorem dX4_copyFrom_123 : decode cX4_copyFrom 123 = .ok (.iconst 0, 1) := by decide +kernel
theorem dX4_copyFrom_124 : decode cX4_copyFrom 124 = .ok (.aload_n 0, 1) := by decide +kernel
theorem dX4_copyFrom_125 : decode cX4_copyFrom 125 = .ok (.getfield 35, 3) := by decide +kernel
theorem dX4_copyFrom_128 : decode cX4_copyFrom 128 = .ok (.iconst 0, 1) := by decide +kernel
theorem dX4_copyFrom_129 : decode cX4_copyFrom 129 = .ok (.aload_n 0, 1) := by decide +kernel
theorem dX4_copyFrom_130 : decode cX4_copyFrom 130 = .ok (.getfield 35, 3) := by decide +kernel
theorem dX4_copyFrom_133 : decode cX4_copyFrom 133 = .ok (.arraylength, 1) := by decide +kernel
theorem dX4_copyFrom_134 : decode cX4_copyFrom 134 = .ok (.invokestatic 94, 3) := by decide +kernel
theorem dX4_copyFrom_137 : decode cX4_copyFrom 137 = .ok (.aload_n 1, 1) := by decide +kernel
theorem dX4_copyFrom_138 : decode cX4_copyFrom 138 = .ok (.getfield 38, 3) := by decide +kernel
theorem dX4_copyFrom_141 : decode cX4_copyFrom 141 = .ok (.iconst 0, 1) := by decide +kernel
theorem dX4_copyFrom_142 : decode cX4_copyFrom 142 = .ok (.aload_n 0, 1) := by decide +kernel
theorem dX4_copyFrom_143 : decode cX4_copyFrom 143 = .ok (.getfield 38, 3) := by decide +kernel
theorem dX4_copyFrom_146 : decode cX4_copyFrom 146 = .ok (.iconst 0, 1) := by decide +kernel
theorem dX4_copyFrom_147 : decode cX4_copyFrom 147 = .ok (.aload_n 0, 1) := by decide +kernel
theorem dX4_copyFrom_148 : decode cX4_copyFrom 148 = .ok (.getfield 38, 3) := by decide +kernel
theorem dX4_copyFrom_151 : decode cX4_copyFrom 151 = .ok (.arraylength, 1) := by decide +kernel
theorem dX4_copyFrom_152 : decode cX4_copyFrom 152 = .ok (.invokestatic 94, 3) := by decide +kernel
theorem dX4_copyFrom_155 : decode cX4_copyFrom 155 = .ok (.return_, 1) := by decide +kernel
theorem dX4_complaintsOfAll_0 : decode cX4_complaintsOfAll 0 = .ok (.iconst 0, 1) := by decide +kernel
theorem dX4_complaintsOfAll_1 : decode cX4_complaintsOfAll 1 = .ok (.istore_n 1, 1) := by decide +kernel
theorem dX4_complaintsOfAll_2 : decode cX4_complaintsOfAll 2 = .ok (.iconst 0, 1) := by decide +kernel
theorem dX4_complaintsOfAll_3 : decode cX4_complaintsOfAll 3 = .ok (.istore_n 2, 1) := by decide +kernel
theorem dX4_complaintsOfAll_4 : decode cX4_complaintsOfAll 4 = .ok (.iload_n 2, 1) := by decide +kernel
theorem dX4_complaintsOfAll_5 : decode cX4_complaintsOfAll 5 = .ok (.aload_n 0, 1) := by decide +kernel
theorem dX4_complaintsOfAll_6 : decode cX4_complaintsOfAll 6 = .ok (.getfield 57, 3) := by decide +kernel
theorem dX4_complaintsOfAll_9 : decode cX4_complaintsOfAll 9 = .ok (.getfield 100, 3) := by decide +kernel
theorem dX4_complaintsOfAll_12 : decode cX4_complaintsOfAll 12 = .ok (.if_icmp .ge 18, 3) := by decide +kernel
theorem dX4_complaintsOfAll_15 : decode cX4_complaintsOfAll 15 = .ok (.iload_n 1, 1) := by decide +kernel
theorem dX4_complaintsOfAll_16 : decode cX4_complaintsOfAll 16 = .ok (.aload_n 0, 1) := by decide +kernel
theorem dX4_complaintsOfAll_17 : decode cX4_complaintsOfAll 17 = .ok (.getfield 29, 3) := by decide +kernel
theorem dX4_complaintsOfAll_20 : decode cX4_complaintsOfAll 20 = .ok (.iload_n 2, 1) := by decide +kernel
theorem dX4_complaintsOfAll_21 : decode cX4_complaintsOfAll 21 = .ok (.iaload, 1) := by decide +kernel
theorem dX4_complaintsOfAll_22 : decode cX4_complaintsOfAll 22 = .ok (.iadd, 1) := by decide +kernel
theorem dX4_complaintsOfAll_23 : decode cX4_complaintsOfAll 23 = .ok (.istore_n 1, 1) := by decide +kernel
theorem dX4_complaintsOfAll_24 : decode cX4_complaintsOfAll 24 = .ok (.iinc 2 1, 3) := by decide +kernel
theorem dX4_complaintsOfAll_27 : decode cX4_complaintsOfAll 27 = .ok (.goto (-23), 3) := by decide +kernel
theorem dX4_complaintsOfAll_30 : decode cX4_complaintsOfAll 30 = .ok (.iload_n 1, 1) := by decide +kernel
theorem dX4_complaintsOfAll_31 : decode cX4_complaintsOfAll 31 = .ok (.ireturn, 1) := by decide +kernel
theorem dX4_isPrecious_0 : decode cX4_isPrecious 0 = .ok (.aload_n 0, 1) := by decide +kernel
theorem dX4_isPrecious_1 : decode cX4_isPrecious 1 = .ok (.getfield 29, 3) := by decide +kernel
theorem dX4_isPrecious_4 : decode cX4_isPrecious 4 = .ok (.iload_n 1, 1) := by decide +kernel
theorem dX4_isPrecious_5 : decode cX4_isPrecious 5 = .ok (.iaload, 1) := by decide +kernel
theorem dX4_isPrecious_6 : decode cX4_isPrecious 6 = .ok (.ifCond .le 23, 3) := by decide +kernel
theorem dX4_isPrecious_9 : decode cX4_isPrecious 9 = .ok (.aload_n 0, 1) := by decide +kernel
theorem dX4_isPrecious_10 : decode cX4_isPrecious 10 = .ok (.getfield 65, 3) := by decide +kernel
theorem dX4_isPrecious_13 : decode cX4_isPrecious 13 = .ok (.aload_n 0, 1) := by decide +kernel
theorem dX4_isPrecious_14 : decode cX4_isPrecious 14 = .ok (.getfield 32, 3) := by decide +kernel
theorem dX4_isPrecious_17 : decode cX4_isPrecious 17 = .ok (.iload_n 1, 1) := by decide +kernel
theorem dX4_isPrecious_18 : decode cX4_isPrecious 18 = .ok (.iaload, 1) := by decide +kernel
theorem dX4_isPrecious_19 : decode cX4_isPrecious 19 = .ok (.isub, 1) := by decide +kernel
theorem dX4_isPrecious_20 : decode cX4_isPrecious 20 = .ok (.bipush 60, 2) := by decide +kernel
theorem dX4_isPrecious_22 : decode cX4_isPrecious 22 = .ok (.if_icmp .ge 7, 3) := by decide +kernel
theorem dX4_isPrecious_25 : decode cX4_isPrecious 25 = .ok (.iconst 1, 1) := by decide +kernel
theorem dX4_isPrecious_26 : decode cX4_isPrecious 26 = .ok (.goto 4, 3) := by decide +kernel
theorem dX4_isPrecious_29 : decode cX4_isPrecious 29 = .ok (.iconst 0, 1) := by decide +kernel
theorem dX4_isPrecious_30 : decode cX4_isPrecious 30 = .ok (.ireturn, 1) := by decide +kernel
theorem dX4_prepareTrims_0 : decode cX4_prepareTrims 0 = .ok (.aload_n 0, 1) := by decide +kernel
theorem dX4_prepareTrims_1 : decode cX4_prepareTrims 1 = .ok (.getfield 41, 3) := by decide +kernel
theorem dX4_prepareTrims_4 : decode cX4_prepareTrims 4 = .ok (.getfield 103, 3) := by decide +kernel
theorem dX4_prepareTrims_7 : decode cX4_prepareTrims 7 = .ok (.aload_n 0, 1) := by decide +kernel
theorem dX4_prepareTrims_8 : decode cX4_prepareTrims 8 = .ok (.getfield 50, 3) := by decide +kernel
theorem dX4_prepareTrims_11 : decode cX4_prepareTrims 11 = .ok (.invokevirtual 84, 3) := by decide +kernel
theorem dX4_prepareTrims_14 : decode cX4_prepareTrims 14 = .ok (.aload_n 0, 1) := by decide +kernel
theorem dX4_prepareTrims_15 : decode cX4_prepareTrims 15 = .ok (.getfield 41, 3) := by decide +kernel
theorem dX4_prepareTrims_18 : decode cX4_prepareTrims 18 = .ok (.aload_n 0, 1) := by decide +kernel
theorem dX4_prepareTrims_19 : decode cX4_prepareTrims 19 = .ok (.getfield 74, 3) := by decide +kernel
theorem dX4_prepareTrims_22 : decode cX4_prepareTrims 22 = .ok (.iconst 1, 1) := by decide +kernel
theorem dX4_prepareTrims_23 : decode cX4_prepareTrims 23 = .ok (.if_icmp .ne 7, 3) := by decide +kernel
theorem dX4_prepareTrims_26 : decode cX4_prepareTrims 26 = .ok (.iconst 1, 1) := by decide +kernel
theorem dX4_prepareTrims_27 : decode cX4_prepareTrims 27 = .ok (.goto 4, 3) := by decide +kernel
theorem dX4_prepareTrims_30 : decode cX4_prepareTrims 30 = .ok (.iconst 0, 1) := by decide +kernel
theorem dX4_prepareTrims_31 : decode cX4_prepareTrims 31 = .ok (.putfield 106, 3) := by decide +kernel
theorem dX4_prepareTrims_34 : decode cX4_prepareTrims 34 = .ok (.iconst 0, 1) := by decide +kernel
theorem dX4_prepareTrims_35 : decode cX4_prepareTrims 35 = .ok (.istore_n 1, 1) := by decide +kernel
theorem dX4_prepareTrims_36 : decode cX4_prepareTrims 36 = .ok (.iload_n 1, 1) := by decide +kernel
theorem dX4_prepareTrims_37 : decode cX4_prepareTrims 37 = .ok (.aload_n 0, 1) := by decide +kernel
theorem dX4_prepareTrims_38 : decode cX4_prepareTrims 38 = .ok (.getfield 57, 3) := by decide +kernel
theorem dX4_prepareTrims_41 : decode cX4_prepareTrims 41 = .ok (.getfield 100, 3) := by decide +kernel
theorem dX4_prepareTrims_44 : decode cX4_prepareTrims 44 = .ok (.if_icmp .ge 110, 3) := by decide +kernel
theorem dX4_prepareTrims_47 : decode cX4_prepareTrims 47 = .ok (.aload_n 0, 1) := by decide +kernel
theorem dX4_prepareTrims_48 : decode cX4_prepareTrims 48 = .ok (.getfield 41, 3) := by decide +kernel
theorem dX4_prepareTrims_51 : decode cX4_prepareTrims 51 = .ok (.getfield 110, 3) := by decide +kernel
theorem dX4_prepareTrims_54 : decode cX4_prepareTrims 54 = .ok (.iload_n 1, 1) := by decide +kernel
theorem dX4_prepareTrims_55 : decode cX4_prepareTrims 55 = .ok (.aload_n 0, 1) := by decide +kernel
theorem dX4_prepareTrims_56 : decode cX4_prepareTrims 56 = .ok (.iload_n 1, 1) := by decide +kernel
theorem dX4_prepareTrims_57 : decode cX4_prepareTrims 57 = .ok (.invokevirtual 114, 3) := by decide +kernel
theorem dX4_prepareTrims_60 : decode cX4_prepareTrims 60 = .ok (.bastore, 1) := by decide +kernel
theorem dX4_prepareTrims_61 : decode cX4_prepareTrims 61 = .ok (.aload_n 0, 1) := by decide +kernel
theorem dX4_prepareTrims_62 : decode cX4_prepareTrims 62 = .ok (.getfield 74, 3) := by decide +kernel
theorem dX4_prepareTrims_65 : decode cX4_prepareTrims 65 = .ok (.iconst 1, 1) := by decide +kernel
theorem dX4_prepareTrims_66 : decode cX4_prepareTrims 66 = .ok (.if_icmp .ne 23, 3) := by decide +kernel
theorem dX4_prepareTrims_69 : decode cX4_prepareTrims 69 = .ok (.aload_n 0, 1) := by decide +kernel
theorem dX4_prepareTrims_70 : decode cX4_prepareTrims 70 = .ok (.getfield 41, 3) := by decide +kernel
theorem dX4_prepareTrims_73 : decode cX4_prepareTrims 73 = .ok (.getfield 118, 3) := by decide +kernel
theorem dX4_prepareTrims_76 : decode cX4_prepareTrims 76 = .ok (.iload_n 1, 1) := by decide +kernel
theorem dX4_prepareTrims_77 : decode cX4_prepareTrims 77 = .ok (.aload_n 0, 1) := by decide +kernel
theorem dX4_prepareTrims_78 : decode cX4_prepareTrims 78 = .ok (.getfield 50, 3) := by decide +kernel
theorem dX4_prepareTrims_81 : decode cX4_prepareTrims 81 = .ok (.iload_n 1, 1) := by decide +kernel
theorem dX4_prepareTrims_82 : decode cX4_prepareTrims 82 = .ok (.invokevirtual 121, 3) := by decide +kernel
theorem dX4_prepareTrims_85 : decode cX4_prepareTrims 85 = .ok (.iastore, 1) := by decide +kernel
theorem dX4_prepareTrims_86 : decode cX4_prepareTrims 86 = .ok (.goto 62, 3) := by decide +kernel
theorem dX4_prepareTrims_89 : decode cX4_prepareTrims 89 = .ok (.aload_n 0, 1) := by decide +kernel
theorem dX4_prepareTrims_90 : decode cX4_prepareTrims 90 = .ok (.getfield 74, 3) := by decide +kernel
theorem dX4_prepareTrims_93 : decode cX4_prepareTrims 93 = .ok (.iconst 2, 1) := by decide +kernel
theorem dX4_prepareTrims_94 : decode cX4_prepareTrims 94 = .ok (.if_icmp .ne 29, 3) := by decide +kernel
theorem dX4_prepareTrims_97 : decode cX4_prepareTrims 97 = .ok (.aload_n 0, 1) := by decide +kernel
theorem dX4_prepareTrims_98 : decode cX4_prepareTrims 98 = .ok (.getfield 41, 3) := by decide +kernel
theorem dX4_prepareTrims_101 : decode cX4_prepareTrims 101 = .ok (.getfield 118, 3) := by decide +kernel
theorem dX4_prepareTrims_104 : decode cX4_prepareTrims 104 = .ok (.iload_n 1, 1) := by decide +kernel
theorem dX4_prepareTrims_105 : decode cX4_prepareTrims 105 = .ok (.aload_n 0, 1) := by decide +kernel
theorem dX4_prepareTrims_106 : decode cX4_prepareTrims 106 = .ok (.getfield 65, 3) := by decide +kernel
theorem dX4_prepareTrims_109 : decode cX4_prepareTrims 109 = .ok (.aload_n 0, 1) := by decide +kernel
theorem dX4_prepareTrims_110 : decode cX4_prepareTrims 110 = .ok (.getfield 12, 3) := by decide +kernel
theorem dX4_prepareTrims_113 : decode cX4_prepareTrims 113 = .ok (.getfield 125, 3) := by decide +kernel
theorem dX4_prepareTrims_116 : decode cX4_prepareTrims 116 = .ok (.iload_n 1, 1) := by decide +kernel
theorem dX4_prepareTrims_117 : decode cX4_prepareTrims 117 = .ok (.iaload, 1) := by decide +kernel
theorem dX4_prepareTrims_118 : decode cX4_prepareTrims 118 = .ok (.isub, 1) := by decide +kernel
theorem dX4_prepareTrims_119 : decode cX4_prepareTrims 119 = .ok (.iastore, 1) := by decide +kernel
theorem dX4_prepareTrims_120 : decode cX4_prepareTrims 120 = .ok (.goto 28, 3) := by decide +kernel
theorem dX4_prepareTrims_123 : decode cX4_prepareTrims 123 = .ok (.aload_n 0, 1) := by decide +kernel
theorem dX4_prepareTrims_124 : decode cX4_prepareTrims 124 = .ok (.getfield 41, 3) := by decide +kernel
theorem dX4_prepareTrims_127 : decode cX4_prepareTrims 127 = .ok (.getfield 118, 3) := by decide +kernel
theorem dX4_prepareTrims_130 : decode cX4_prepareTrims 130 = .ok (.iload_n 1, 1) := by decide +kernel
theorem dX4_prepareTrims_131 : decode cX4_prepareTrims 131 = .ok (.aload_n 0, 1) := by decide +kernel
theorem dX4_prepareTrims_132 : decode cX4_prepareTrims 132 = .ok (.getfield 12, 3) := by decide +kernel
theorem dX4_prepareTrims_135 : decode cX4_prepareTrims 135 = .ok (.iload_n 1, 1) := by decide +kernel
theorem dX4_prepareTrims_136 : decode cX4_prepareTrims 136 = .ok (.aload_n 0, 1) := by decide +kernel
theorem dX4_prepareTrims_137 : decode cX4_prepareTrims 137 = .ok (.getfield 75, 3) := by decide +kernel
theorem dX4_prepareTrims_140 : decode cX4_prepareTrims 140 = .ok (.aload_n 0, 1) := by decide +kernel
theorem dX4_prepareTrims_141 : decode cX4_prepareTrims 141 = .ok (.getfield 65, 3) := by decide +kernel
theorem dX4_prepareTrims_144 : decode cX4_prepareTrims 144 = .ok (.invokevirtual 128, 3) := by decide +kernel
theorem dX4_prepareTrims_147 : decode cX4_prepareTrims 147 = .ok (.iastore, 1) := by decide +kernel
theorem dX4_prepareTrims_148 : decode cX4_prepareTrims 148 = .ok (.iinc 1 1, 3) := by decide +kernel
theorem dX4_prepareTrims_151 : decode cX4_prepareTrims 151 = .ok (.goto (-115), 3) := by decide +kernel
theorem dX4_prepareTrims_154 : decode cX4_prepareTrims 154 = .ok (.return_, 1) := by decide +kernel
theorem dX4_makeMemory_0 : decode cX4_makeMemory 0 = .ok (.aload_n 0, 1) := by decide +kernel
theorem dX4_makeMemory_1 : decode cX4_makeMemory 1 = .ok (.getfield 50, 3) := by decide +kernel
theorem dX4_makeMemory_4 : decode cX4_makeMemory 4 = .ok (.invokevirtual 132, 3) := by decide +kernel
theorem dX4_makeMemory_7 : decode cX4_makeMemory 7 = .ok (.ifCond .ne 5, 3) := by decide +kernel
theorem dX4_makeMemory_10 : decode cX4_makeMemory 10 = .ok (.iconst 1, 1) := by decide +kernel
theorem dX4_makeMemory_11 : decode cX4_makeMemory 11 = .ok (.ireturn, 1) := by decide +kernel
theorem dX4_makeMemory_12 : decode cX4_makeMemory 12 = .ok (.aload_n 0, 1) := by decide +kernel
theorem dX4_makeMemory_13 : decode cX4_makeMemory 13 = .ok (.invokevirtual 136, 3) := by decide +kernel
theorem dX4_makeMemory_16 : decode cX4_makeMemory 16 = .ok (.aload_n 0, 1) := by decide +kernel
theorem dX4_makeMemory_17 : decode cX4_makeMemory 17 = .ok (.getfield 41, 3) := by decide +kernel
theorem dX4_makeMemory_20 : decode cX4_makeMemory 20 = .ok (.invokevirtual 139, 3) := by decide +kernel
theorem dX4_makeMemory_23 : decode cX4_makeMemory 23 = .ok (.ifCond .ne 5, 3) := by decide +kernel
theorem dX4_makeMemory_26 : decode cX4_makeMemory 26 = .ok (.iconst 0, 1) := by decide +kernel
theorem dX4_makeMemory_27 : decode cX4_makeMemory 27 = .ok (.ireturn, 1) := by decide +kernel
theorem dX4_makeMemory_28 : decode cX4_makeMemory 28 = .ok (.iconst 0, 1) := by decide +kernel
theorem dX4_makeMemory_29 : decode cX4_makeMemory 29 = .ok (.istore_n 1, 1) := by decide +kernel
theorem dX4_makeMemory_30 : decode cX4_makeMemory 30 = .ok (.iload_n 1, 1) := by decide +kernel
theorem dX4_makeMemory_31 : decode cX4_makeMemory 31 = .ok (.aload_n 0, 1) := by decide +kernel
theorem dX4_makeMemory_32 : decode cX4_makeMemory 32 = .ok (.getfield 41, 3) := by decide +kernel
theorem dX4_makeMemory_35 : decode cX4_makeMemory 35 = .ok (.getfield 142, 3) := by decide +kernel
theorem dX4_makeMemory_38 : decode cX4_makeMemory 38 = .ok (.if_icmp .ge 31, 3) := by decide +kernel
theorem dX4_makeMemory_41 : decode cX4_makeMemory 41 = .ok (.aload_n 0, 1) := by decide +kernel
theorem dX4_makeMemory_42 : decode cX4_makeMemory 42 = .ok (.aload_n 0, 1) := by decide +kernel
theorem dX4_makeMemory_43 : decode cX4_makeMemory 43 = .ok (.getfield 41, 3) := by decide +kernel
theorem dX4_makeMemory_46 : decode cX4_makeMemory 46 = .ok (.getfield 145, 3) := by decide +kernel
theorem dX4_makeMemory_49 : decode cX4_makeMemory 49 = .ok (.iload_n 1, 1) := by decide +kernel
theorem dX4_makeMemory_50 : decode cX4_makeMemory 50 = .ok (.iaload, 1) := by decide +kernel
theorem dX4_makeMemory_51 : decode cX4_makeMemory 51 = .ok (.aload_n 0, 1) := by decide +kernel
theorem dX4_makeMemory_52 : decode cX4_makeMemory 52 = .ok (.getfield 41, 3) := by decide +kernel
theorem dX4_makeMemory_55 : decode cX4_makeMemory 55 = .ok (.getfield 148, 3) := by decide +kernel
theorem dX4_makeMemory_58 : decode cX4_makeMemory 58 = .ok (.iload_n 1, 1) := by decide +kernel
theorem dX4_makeMemory_59 : decode cX4_makeMemory 59 = .ok (.iaload, 1) := by decide +kernel
theorem dX4_makeMemory_60 : decode cX4_makeMemory 60 = .ok (.invokevirtual 151, 3) := by decide +kernel
theorem dX4_makeMemory_63 : decode cX4_makeMemory 63 = .ok (.iinc 1 1, 3) := by decide +kernel
theorem dX4_makeMemory_66 : decode cX4_makeMemory 66 = .ok (.goto (-36), 3) := by decide +kernel
theorem dX4_makeMemory_69 : decode cX4_makeMemory 69 = .ok (.iconst 1, 1) := by decide +kernel
theorem dX4_makeMemory_70 : decode cX4_makeMemory 70 = .ok (.ireturn, 1) := by decide +kernel
theorem dX4_doStep_0 : decode cX4_doStep 0 = .ok (.aload_n 0, 1) := by decide +kernel
theorem dX4_doStep_1 : decode cX4_doStep 1 = .ok (.getfield 50, 3) := by decide +kernel
theorem dX4_doStep_4 : decode cX4_doStep 4 = .ok (.iload_n 1, 1) := by decide +kernel
theorem dX4_doStep_5 : decode cX4_doStep 5 = .ok (.iload_n 2, 1) := by decide +kernel
theorem dX4_doStep_6 : decode cX4_doStep 6 = .ok (.invokevirtual 155, 3) := by decide +kernel
theorem dX4_doStep_9 : decode cX4_doStep 9 = .ok (.iload_n 1, 1) := by decide +kernel
theorem dX4_doStep_10 : decode cX4_doStep 10 = .ok (.iconst 5, 1) := by decide +kernel
theorem dX4_doStep_11 : decode cX4_doStep 11 = .ok (.if_icmp .ne 8, 3) := by decide +kernel
theorem dX4_doStep_14 : decode cX4_doStep 14 = .ok (.aload_n 0, 1) := by decide +kernel
theorem dX4_doStep_15 : decode cX4_doStep 15 = .ok (.iload_n 2, 1) := by decide +kernel
theorem dX4_doStep_16 : decode cX4_doStep 16 = .ok (.invokevirtual 156, 3) := by decide +kernel
theorem dX4_doStep_19 : decode cX4_doStep 19 = .ok (.aload_n 0, 1) := by decide +kernel
theorem dX4_doStep_20 : decode cX4_doStep 20 = .ok (.getfield 21, 3) := by decide +kernel
theorem dX4_doStep_23 : decode cX4_doStep 23 = .ok (.iload_n 1, 1) := by decide +kernel
theorem dX4_doStep_24 : decode cX4_doStep 24 = .ok (.iload_n 2, 1) := by decide +kernel
theorem dX4_doStep_25 : decode cX4_doStep 25 = .ok (.aload_n 0, 1) := by decide +kernel
theorem dX4_doStep_26 : decode cX4_doStep 26 = .ok (.getfield 65, 3) := by decide +kernel
theorem dX4_doStep_29 : decode cX4_doStep 29 = .ok (.invokevirtual 160, 3) := by decide +kernel
theorem dX4_doStep_32 : decode cX4_doStep 32 = .ok (.return_, 1) := by decide +kernel
theorem dX4_forgetWhatItShowed_0 : decode cX4_forgetWhatItShowed 0 = .ok (.aload_n 0, 1) := by decide +kernel
theorem dX4_forgetWhatItShowed_1 : decode cX4_forgetWhatItShowed 1 = .ok (.getfield 25, 3) := by decide +kernel
theorem dX4_forgetWhatItShowed_4 : decode cX4_forgetWhatItShowed 4 = .ok (.iload_n 1, 1) := by decide +kernel
theorem dX4_forgetWhatItShowed_5 : decode cX4_forgetWhatItShowed 5 = .ok (.iconst 0, 1) := by decide +kernel
theorem dX4_forgetWhatItShowed_6 : decode cX4_forgetWhatItShowed 6 = .ok (.iastore, 1) := by decide +kernel
theorem dX4_forgetWhatItShowed_7 : decode cX4_forgetWhatItShowed 7 = .ok (.aload_n 0, 1) := by decide +kernel
theorem dX4_forgetWhatItShowed_8 : decode cX4_forgetWhatItShowed 8 = .ok (.getfield 35, 3) := by decide +kernel
theorem dX4_forgetWhatItShowed_11 : decode cX4_forgetWhatItShowed 11 = .ok (.iload_n 1, 1) := by decide +kernel
theorem dX4_forgetWhatItShowed_12 : decode cX4_forgetWhatItShowed 12 = .ok (.iconst 0, 1) := by decide +kernel
theorem dX4_forgetWhatItShowed_13 : decode cX4_forgetWhatItShowed 13 = .ok (.iastore, 1) := by decide +kernel
theorem dX4_forgetWhatItShowed_14 : decode cX4_forgetWhatItShowed 14 = .ok (.return_, 1) := by decide +kernel
theorem dX4_waitFor_0 : decode cX4_waitFor 0 = .ok (.aload_n 0, 1) := by decide +kernel
theorem dX4_waitFor_1 : decode cX4_waitFor 1 = .ok (.getfield 57, 3) := by decide +kernel
theorem dX4_waitFor_4 : decode cX4_waitFor 4 = .ok (.getfield 164, 3) := by decide +kernel
theorem dX4_waitFor_7 : decode cX4_waitFor 7 = .ok (.iload_n 1, 1) := by decide +kernel
theorem dX4_waitFor_8 : decode cX4_waitFor 8 = .ok (.aaload, 1) := by decide +kernel
theorem dX4_waitFor_9 : decode cX4_waitFor 9 = .ok (.iconst 0, 1) := by decide +kernel
theorem dX4_waitFor_10 : decode cX4_waitFor 10 = .ok (.iaload, 1) := by decide +kernel
theorem dX4_waitFor_11 : decode cX4_waitFor 11 = .ok (.istore_n 2, 1) := by decide +kernel
theorem dX4_waitFor_12 : decode cX4_waitFor 12 = .ok (.aload_n 0, 1) := by decide +kernel
theorem dX4_waitFor_13 : decode cX4_waitFor 13 = .ok (.getfield 50, 3) := by decide +kernel
theorem dX4_waitFor_16 : decode cX4_waitFor 16 = .ok (.getfield 168, 3) := by decide +kernel
theorem dX4_waitFor_19 : decode cX4_waitFor 19 = .ok (.iload_n 1, 1) := by decide +kernel
theorem dX4_waitFor_20 : decode cX4_waitFor 20 = .ok (.iaload, 1) := by decide +kernel
theorem dX4_waitFor_21 : decode cX4_waitFor 21 = .ok (.tableswitch 81 1 5 #[35, 37, 37, 45, 71], 35) := by decide +kernel
theorem dX4_waitFor_56 : decode cX4_waitFor 56 = .ok (.iconst 0, 1) := by decide +kernel
theorem dX4_waitFor_57 : decode cX4_waitFor 57 = .ok (.ireturn, 1) := by decide +kernel
theorem dX4_waitFor_58 : decode cX4_waitFor 58 = .ok (.aload_n 0, 1) := by decide +kernel
theorem dX4_waitFor_59 : decode cX4_waitFor 59 = .ok (.getfield 57, 3) := by decide +kernel
theorem dX4_waitFor_62 : decode cX4_waitFor 62 = .ok (.getfield 171, 3) := by decide +kernel
theorem dX4_waitFor_65 : decode cX4_waitFor 65 = .ok (.ireturn, 1) := by decide +kernel
theorem dX4_waitFor_66 : decode cX4_waitFor 66 = .ok (.aload_n 0, 1) := by decide +kernel
theorem dX4_waitFor_67 : decode cX4_waitFor 67 = .ok (.getfield 57, 3) := by decide +kernel
theorem dX4_waitFor_70 : decode cX4_waitFor 70 = .ok (.getfield 171, 3) := by decide +kernel
theorem dX4_waitFor_73 : decode cX4_waitFor 73 = .ok (.aload_n 0, 1) := by decide +kernel
theorem dX4_waitFor_74 : decode cX4_waitFor 74 = .ok (.getfield 57, 3) := by decide +kernel
theorem dX4_waitFor_77 : decode cX4_waitFor 77 = .ok (.getfield 174, 3) := by decide +kernel
theorem dX4_waitFor_80 : decode cX4_waitFor 80 = .ok (.aload_n 0, 1) := by decide +kernel
theorem dX4_waitFor_81 : decode cX4_waitFor 81 = .ok (.getfield 50, 3) := by decide +kernel
theorem dX4_waitFor_84 : decode cX4_waitFor 84 = .ok (.getfield 177, 3) := by decide +kernel
theorem dX4_waitFor_87 : decode cX4_waitFor 87 = .ok (.iload_n 1, 1) := by decide +kernel
theorem dX4_waitFor_88 : decode cX4_waitFor 88 = .ok (.iaload, 1) := by decide +kernel
theorem dX4_waitFor_89 : decode cX4_waitFor 89 = .ok (.imul, 1) := by decide +kernel
theorem dX4_waitFor_90 : decode cX4_waitFor 90 = .ok (.iadd, 1) := by decide +kernel
theorem dX4_waitFor_91 : decode cX4_waitFor 91 = .ok (.ireturn, 1) := by decide +kernel
theorem dX4_waitFor_92 : decode cX4_waitFor 92 = .ok (.aload_n 0, 1) := by decide +kernel
theorem dX4_waitFor_93 : decode cX4_waitFor 93 = .ok (.getfield 57, 3) := by decide +kernel
theorem dX4_waitFor_96 : decode cX4_waitFor 96 = .ok (.getfield 180, 3) := by decide +kernel
theorem dX4_waitFor_99 : decode cX4_waitFor 99 = .ok (.iload_n 2, 1) := by decide +kernel
theorem dX4_waitFor_100 : decode cX4_waitFor 100 = .ok (.imul, 1) := by decide +kernel
theorem dX4_waitFor_101 : decode cX4_waitFor 101 = .ok (.ireturn, 1) := by decide +kernel
theorem dX4_waitFor_102 : decode cX4_waitFor 102 = .ok (.aload_n 0, 1) := by decide +kernel
theorem dX4_waitFor_103 : decode cX4_waitFor 103 = .ok (.getfield 57, 3) := by decide +kernel
theorem dX4_waitFor_106 : decode cX4_waitFor 106 = .ok (.getfield 183, 3) := by decide +kernel
theorem dX4_waitFor_109 : decode cX4_waitFor 109 = .ok (.iload_n 2, 1) := by decide +kernel
theorem dX4_waitFor_110 : decode cX4_waitFor 110 = .ok (.imul, 1) := by decide +kernel
theorem dX4_waitFor_111 : decode cX4_waitFor 111 = .ok (.ireturn, 1) := by decide +kernel
theorem dX4_bringUp_0 : decode cX4_bringUp 0 = .ok (.iload_n 1, 1) := by decide +kernel
theorem dX4_bringUp_1 : decode cX4_bringUp 1 = .ok (.aload_n 0, 1) := by decide +kernel
theorem dX4_bringUp_2 : decode cX4_bringUp 2 = .ok (.getfield 75, 3) := by decide +kernel
theorem dX4_bringUp_5 : decode cX4_bringUp 5 = .ok (.if_icmp .ne 5, 3) := by decide +kernel
theorem dX4_bringUp_8 : decode cX4_bringUp 8 = .ok (.iconst 1, 1) := by decide +kernel
theorem dX4_bringUp_9 : decode cX4_bringUp 9 = .ok (.ireturn, 1) := by decide +kernel
theorem dX4_bringUp_10 : decode cX4_bringUp 10 = .ok (.aload_n 0, 1) := by decide +kernel
theorem dX4_bringUp_11 : decode cX4_bringUp 11 = .ok (.iload_n 1, 1) := by decide +kernel
theorem dX4_bringUp_12 : decode cX4_bringUp 12 = .ok (.invokevirtual 186, 3) := by decide +kernel
theorem dX4_bringUp_15 : decode cX4_bringUp 15 = .ok (.istore_n 2, 1) := by decide +kernel
theorem dX4_bringUp_16 : decode cX4_bringUp 16 = .ok (.aload_n 0, 1) := by decide +kernel
theorem dX4_bringUp_17 : decode cX4_bringUp 17 = .ok (.getfield 12, 3) := by decide +kernel
theorem dX4_bringUp_20 : decode cX4_bringUp 20 = .ok (.getfield 189, 3) := by decide +kernel
theorem dX4_bringUp_23 : decode cX4_bringUp 23 = .ok (.istore_n 3, 1) := by decide +kernel
theorem dX4_bringUp_24 : decode cX4_bringUp 24 = .ok (.aload_n 0, 1) := by decide +kernel
theorem dX4_bringUp_25 : decode cX4_bringUp 25 = .ok (.invokevirtual 192, 3) := by decide +kernel
theorem dX4_bringUp_28 : decode cX4_bringUp 28 = .ok (.aload_n 0, 1) := by decide +kernel
theorem dX4_bringUp_29 : decode cX4_bringUp 29 = .ok (.iload_n 1, 1) := by decide +kernel
theorem dX4_bringUp_30 : decode cX4_bringUp 30 = .ok (.putfield 75, 3) := by decide +kernel
theorem dX4_bringUp_33 : decode cX4_bringUp 33 = .ok (.aload_n 0, 1) := by decide +kernel
theorem dX4_bringUp_34 : decode cX4_bringUp 34 = .ok (.getfield 12, 3) := by decide +kernel
theorem dX4_bringUp_37 : decode cX4_bringUp 37 = .ok (.iload_n 1, 1) := by decide +kernel
theorem dX4_bringUp_38 : decode cX4_bringUp 38 = .ok (.putfield 189, 3) := by decide +kernel
theorem dX4_bringUp_41 : decode cX4_bringUp 41 = .ok (.aload_n 0, 1) := by decide +kernel
theorem dX4_bringUp_42 : decode cX4_bringUp 42 = .ok (.getfield 50, 3) := by decide +kernel
theorem dX4_bringUp_45 : decode cX4_bringUp 45 = .ok (.iload_n 1, 1) := by decide +kernel
theorem dX4_bringUp_46 : decode cX4_bringUp 46 = .ok (.invokevirtual 195, 3) := by decide +kernel
theorem dX4_bringUp_49 : decode cX4_bringUp 49 = .ok (.aload_n 0, 1) := by decide +kernel
theorem dX4_bringUp_50 : decode cX4_bringUp 50 = .ok (.invokevirtual 198, 3) := by decide +kernel
theorem dX4_bringUp_53 : decode cX4_bringUp 53 = .ok (.ifCond .ne 5, 3) := by decide +kernel
theorem dX4_bringUp_56 : decode cX4_bringUp 56 = .ok (.iconst 0, 1) := by decide +kernel
theorem dX4_bringUp_57 : decode cX4_bringUp 57 = .ok (.ireturn, 1) := by decide +kernel
theorem dX4_bringUp_58 : decode cX4_bringUp 58 = .ok (.aload_n 0, 1) := by decide +kernel
theorem dX4_bringUp_59 : decode cX4_bringUp 59 = .ok (.getfield 12, 3) := by decide +kernel
theorem dX4_bringUp_62 : decode cX4_bringUp 62 = .ok (.iload_n 1, 1) := by decide +kernel
theorem dX4_bringUp_63 : decode cX4_bringUp 63 = .ok (.iload_n 3, 1) := by decide +kernel
theorem dX4_bringUp_64 : decode cX4_bringUp 64 = .ok (.aload_n 0, 1) := by decide +kernel
theorem dX4_bringUp_65 : decode cX4_bringUp 65 = .ok (.getfield 65, 3) := by decide +kernel
theorem dX4_bringUp_68 : decode cX4_bringUp 68 = .ok (.invokevirtual 201, 3) := by decide +kernel
theorem dX4_bringUp_71 : decode cX4_bringUp 71 = .ok (.aload_n 0, 1) := by decide +kernel
theorem dX4_bringUp_72 : decode cX4_bringUp 72 = .ok (.getfield 21, 3) := by decide +kernel
theorem dX4_bringUp_75 : decode cX4_bringUp 75 = .ok (.bipush 7, 2) := by decide +kernel
theorem dX4_bringUp_77 : decode cX4_bringUp 77 = .ok (.iload_n 1, 1) := by decide +kernel
theorem dX4_bringUp_78 : decode cX4_bringUp 78 = .ok (.aload_n 0, 1) := by decide +kernel
theorem dX4_bringUp_79 : decode cX4_bringUp 79 = .ok (.getfield 65, 3) := by decide +kernel
theorem dX4_bringUp_82 : decode cX4_bringUp 82 = .ok (.invokevirtual 160, 3) := by decide +kernel
theorem dX4_bringUp_85 : decode cX4_bringUp 85 = .ok (.iload_n 2, 1) := by decide +kernel
theorem dX4_bringUp_86 : decode cX4_bringUp 86 = .ok (.aload_n 0, 1) := by decide +kernel
theorem dX4_bringUp_87 : decode cX4_bringUp 87 = .ok (.getfield 57, 3) := by decide +kernel
theorem dX4_bringUp_90 : decode cX4_bringUp 90 = .ok (.getfield 164, 3) := by decide +kernel
theorem dX4_bringUp_93 : decode cX4_bringUp 93 = .ok (.iload_n 1, 1) := by decide +kernel
theorem dX4_bringUp_94 : decode cX4_bringUp 94 = .ok (.aaload, 1) := by decide +kernel
theorem dX4_bringUp_95 : decode cX4_bringUp 95 = .ok (.bipush 6, 2) := by decide +kernel
theorem dX4_bringUp_97 : decode cX4_bringUp 97 = .ok (.iaload, 1) := by decide +kernel
theorem dX4_bringUp_98 : decode cX4_bringUp 98 = .ok (.if_icmp .le 8, 3) := by decide +kernel
theorem dX4_bringUp_101 : decode cX4_bringUp 101 = .ok (.aload_n 0, 1) := by decide +kernel
theorem dX4_bringUp_102 : decode cX4_bringUp 102 = .ok (.iload_n 1, 1) := by decide +kernel
theorem dX4_bringUp_103 : decode cX4_bringUp 103 = .ok (.invokevirtual 204, 3) := by decide +kernel
theorem dX4_bringUp_106 : decode cX4_bringUp 106 = .ok (.iconst 1, 1) := by decide +kernel
theorem dX4_bringUp_107 : decode cX4_bringUp 107 = .ok (.ireturn, 1) := by decide +kernel
theorem dX4_complain_0 : decode cX4_complain 0 = .ok (.aload_n 0, 1) := by decide +kernel
theorem dX4_complain_1 : decode cX4_complain 1 = .ok (.getfield 29, 3) := by decide +kernel
theorem dX4_complain_4 : decode cX4_complain 4 = .ok (.iload_n 1, 1) := by decide +kernel
theorem dX4_complain_5 : decode cX4_complain 5 = .ok (.dup2, 1) := by decide +kernel
theorem dX4_complain_6 : decode cX4_complain 6 = .ok (.iaload, 1) := by decide +kernel
theorem dX4_complain_7 : decode cX4_complain 7 = .ok (.iconst 1, 1) := by decide +kernel
theorem dX4_complain_8 : decode cX4_complain 8 = .ok (.iadd, 1) := by decide +kernel
theorem dX4_complain_9 : decode cX4_complain 9 = .ok (.iastore, 1) := by decide +kernel
theorem dX4_complain_10 : decode cX4_complain 10 = .ok (.aload_n 0, 1) := by decide +kernel
theorem dX4_complain_11 : decode cX4_complain 11 = .ok (.getfield 32, 3) := by decide +kernel
theorem dX4_complain_14 : decode cX4_complain 14 = .ok (.iload_n 1, 1) := by decide +kernel
theorem dX4_complain_15 : decode cX4_complain 15 = .ok (.aload_n 0, 1) := by decide +kernel
theorem dX4_complain_16 : decode cX4_complain 16 = .ok (.getfield 65, 3) := by decide +kernel
theorem dX4_complain_19 : decode cX4_complain 19 = .ok (.iastore, 1) := by decide +kernel
theorem dX4_complain_20 : decode cX4_complain 20 = .ok (.aload_n 0, 1) := by decide +kernel
theorem dX4_complain_21 : decode cX4_complain 21 = .ok (.getfield 21, 3) := by decide +kernel
theorem dX4_complain_24 : decode cX4_complain 24 = .ok (.bipush 8, 2) := by decide +kernel
theorem dX4_complain_26 : decode cX4_complain 26 = .ok (.iload_n 1, 1) := by decide +kernel
theorem dX4_complain_27 : decode cX4_complain 27 = .ok (.aload_n 0, 1) := by decide +kernel
theorem dX4_complain_28 : decode cX4_complain 28 = .ok (.getfield 65, 3) := by decide +kernel
theorem dX4_complain_31 : decode cX4_complain 31 = .ok (.invokevirtual 160, 3) := by decide +kernel
theorem dX4_complain_34 : decode cX4_complain 34 = .ok (.return_, 1) := by decide +kernel
theorem dX4_letShownRest_0 : decode cX4_letShownRest 0 = .ok (.aload_n 0, 1) := by decide +kernel
theorem dX4_letShownRest_1 : decode cX4_letShownRest 1 = .ok (.getfield 75, 3) := by decide +kernel
theorem dX4_letShownRest_4 : decode cX4_letShownRest 4 = .ok (.ifCond .lt 37, 3) := by decide +kernel
theorem dX4_letShownRest_7 : decode cX4_letShownRest 7 = .ok (.aload_n 0, 1) := by decide +kernel
theorem dX4_letShownRest_8 : decode cX4_letShownRest 8 = .ok (.getfield 50, 3) := by decide +kernel
theorem dX4_letShownRest_11 : decode cX4_letShownRest 11 = .ok (.getfield 168, 3) := by decide +kernel
theorem dX4_letShownRest_14 : decode cX4_letShownRest 14 = .ok (.aload_n 0, 1) := by decide +kernel
theorem dX4_letShownRest_15 : decode cX4_letShownRest 15 = .ok (.getfield 75, 3) := by decide +kernel
theorem dX4_letShownRest_18 : decode cX4_letShownRest 18 = .ok (.iconst 2, 1) := by decide +kernel
theorem dX4_letShownRest_19 : decode cX4_letShownRest 19 = .ok (.iastore, 1) := by decide +kernel
theorem dX4_letShownRest_20 : decode cX4_letShownRest 20 = .ok (.aload_n 0, 1) := by decide +kernel
theorem dX4_letShownRest_21 : decode cX4_letShownRest 21 = .ok (.getfield 12, 3) := by decide +kernel
theorem dX4_letShownRest_24 : decode cX4_letShownRest 24 = .ok (.getfield 125, 3) := by decide +kernel
theorem dX4_letShownRest_27 : decode cX4_letShownRest 27 = .ok (.aload_n 0, 1) := by decide +kernel
theorem dX4_letShownRest_28 : decode cX4_letShownRest 28 = .ok (.getfield 75, 3) := by decide +kernel
theorem dX4_letShownRest_31 : decode cX4_letShownRest 31 = .ok (.aload_n 0, 1) := by decide +kernel
theorem dX4_letShownRest_32 : decode cX4_letShownRest 32 = .ok (.getfield 65, 3) := by decide +kernel
theorem dX4_letShownRest_35 : decode cX4_letShownRest 35 = .ok (.iastore, 1) := by decide +kernel
theorem dX4_letShownRest_36 : decode cX4_letShownRest 36 = .ok (.aload_n 0, 1) := by decide +kernel
theorem dX4_letShownRest_37 : decode cX4_letShownRest 37 = .ok (.iconst (-1), 1) := by decide +kernel
theorem dX4_letShownRest_38 : decode cX4_letShownRest 38 = .ok (.putfield 75, 3) := by decide +kernel
theorem dX4_letShownRest_41 : decode cX4_letShownRest 41 = .ok (.return_, 1) := by decide +kernel
theorem dX4_shut_0 : decode cX4_shut 0 = .ok (.iload_n 1, 1) := by decide +kernel
theorem dX4_shut_1 : decode cX4_shut 1 = .ok (.aload_n 0, 1) := by decide +kernel
theorem dX4_shut_2 : decode cX4_shut 2 = .ok (.getfield 75, 3) := by decide +kernel
theorem dX4_shut_5 : decode cX4_shut 5 = .ok (.if_icmp .ne 7, 3) := by decide +kernel
theorem dX4_shut_8 : decode cX4_shut 8 = .ok (.aload_n 0, 1) := by decide +kernel
theorem dX4_shut_9 : decode cX4_shut 9 = .ok (.invokevirtual 192, 3) := by decide +kernel
theorem dX4_shut_12 : decode cX4_shut 12 = .ok (.aload_n 0, 1) := by decide +kernel
theorem dX4_shut_13 : decode cX4_shut 13 = .ok (.getfield 50, 3) := by decide +kernel
theorem dX4_shut_16 : decode cX4_shut 16 = .ok (.iload_n 1, 1) := by decide +kernel
theorem dX4_shut_17 : decode cX4_shut 17 = .ok (.invokevirtual 207, 3) := by decide +kernel
theorem dX4_shut_20 : decode cX4_shut 20 = .ok (.aload_n 0, 1) := by decide +kernel
theorem dX4_shut_21 : decode cX4_shut 21 = .ok (.iload_n 1, 1) := by decide +kernel
theorem dX4_shut_22 : decode cX4_shut 22 = .ok (.invokevirtual 156, 3) := by decide +kernel
theorem dX4_shut_25 : decode cX4_shut 25 = .ok (.return_, 1) := by decide +kernel
theorem dX4_passMinute_0 : decode cX4_passMinute 0 = .ok (.aload_n 0, 1) := by decide +kernel
theorem dX4_passMinute_1 : decode cX4_passMinute 1 = .ok (.dup, 1) := by decide +kernel
theorem dX4_passMinute_2 : decode cX4_passMinute 2 = .ok (.getfield 65, 3) := by decide +kernel
theorem dX4_passMinute_5 : decode cX4_passMinute 5 = .ok (.iconst 1, 1) := by decide +kernel
theorem dX4_passMinute_6 : decode cX4_passMinute 6 = .ok (.iadd, 1) := by decide +kernel
theorem dX4_passMinute_7 : decode cX4_passMinute 7 = .ok (.putfield 65, 3) := by decide +kernel
theorem dX4_passMinute_10 : decode cX4_passMinute 10 = .ok (.aload_n 0, 1) := by decide +kernel
theorem dX4_passMinute_11 : decode cX4_passMinute 11 = .ok (.getfield 75, 3) := by decide +kernel
theorem dX4_passMinute_14 : decode cX4_passMinute 14 = .ok (.ifCond .lt 25, 3) := by decide +kernel
theorem dX4_passMinute_17 : decode cX4_passMinute 17 = .ok (.aload_n 0, 1) := by decide +kernel
theorem dX4_passMinute_18 : decode cX4_passMinute 18 = .ok (.aload_n 0, 1) := by decide +kernel
theorem dX4_passMinute_19 : decode cX4_passMinute 19 = .ok (.getfield 75, 3) := by decide +kernel
theorem dX4_passMinute_22 : decode cX4_passMinute 22 = .ok (.aload_n 0, 1) := by decide +kernel
theorem dX4_passMinute_23 : decode cX4_passMinute 23 = .ok (.getfield 57, 3) := by decide +kernel
theorem dX4_passMinute_26 : decode cX4_passMinute 26 = .ok (.getfield 164, 3) := by decide +kernel
theorem dX4_passMinute_29 : decode cX4_passMinute 29 = .ok (.aload_n 0, 1) := by decide +kernel
theorem dX4_passMinute_30 : decode cX4_passMinute 30 = .ok (.getfield 75, 3) := by decide +kernel
theorem dX4_passMinute_33 : decode cX4_passMinute 33 = .ok (.aaload, 1) := by decide +kernel
theorem dX4_passMinute_34 : decode cX4_passMinute 34 = .ok (.iconst 2, 1) := by decide +kernel
theorem dX4_passMinute_35 : decode cX4_passMinute 35 = .ok (.iaload, 1) := by decide +kernel
theorem dX4_passMinute_36 : decode cX4_passMinute 36 = .ok (.invokevirtual 210, 3) := by decide +kernel
theorem dX4_passMinute_39 : decode cX4_passMinute 39 = .ok (.iconst 0, 1) := by decide +kernel
theorem dX4_passMinute_40 : decode cX4_passMinute 40 = .ok (.istore_n 1, 1) := by decide +kernel
theorem dX4_passMinute_41 : decode cX4_passMinute 41 = .ok (.iload_n 1, 1) := by decide +kernel
theorem dX4_passMinute_42 : decode cX4_passMinute 42 = .ok (.aload_n 0, 1) := by decide +kernel
theorem dX4_passMinute_43 : decode cX4_passMinute 43 = .ok (.getfield 57, 3) := by decide +kernel
theorem dX4_passMinute_46 : decode cX4_passMinute 46 = .ok (.getfield 100, 3) := by decide +kernel
theorem dX4_passMinute_49 : decode cX4_passMinute 49 = .ok (.if_icmp .ge 23, 3) := by decide +kernel
theorem dX4_passMinute_52 : decode cX4_passMinute 52 = .ok (.aload_n 0, 1) := by decide +kernel
theorem dX4_passMinute_53 : decode cX4_passMinute 53 = .ok (.iload_n 1, 1) := by decide +kernel
theorem dX4_passMinute_54 : decode cX4_passMinute 54 = .ok (.invokevirtual 213, 3) := by decide +kernel
theorem dX4_passMinute_57 : decode cX4_passMinute 57 = .ok (.ifCond .eq 9, 3) := by decide +kernel
theorem dX4_passMinute_60 : decode cX4_passMinute 60 = .ok (.aload_n 0, 1) := by decide +kernel
theorem dX4_passMinute_61 : decode cX4_passMinute 61 = .ok (.iload_n 1, 1) := by decide +kernel
theorem dX4_passMinute_62 : decode cX4_passMinute 62 = .ok (.iconst 1, 1) := by decide +kernel
theorem dX4_passMinute_63 : decode cX4_passMinute 63 = .ok (.invokevirtual 210, 3) := by decide +kernel
theorem dX4_passMinute_66 : decode cX4_passMinute 66 = .ok (.iinc 1 1, 3) := by decide +kernel
theorem dX4_passMinute_69 : decode cX4_passMinute 69 = .ok (.goto (-28), 3) := by decide +kernel
theorem dX4_passMinute_72 : decode cX4_passMinute 72 = .ok (.return_, 1) := by decide +kernel
theorem dX4_isWorkDue_0 : decode cX4_isWorkDue 0 = .ok (.aload_n 0, 1) := by decide +kernel
theorem dX4_isWorkDue_1 : decode cX4_isWorkDue 1 = .ok (.getfield 57, 3) := by decide +kernel
theorem dX4_isWorkDue_4 : decode cX4_isWorkDue 4 = .ok (.getfield 164, 3) := by decide +kernel
theorem dX4_isWorkDue_7 : decode cX4_isWorkDue 7 = .ok (.iload_n 1, 1) := by decide +kernel
theorem dX4_isWorkDue_8 : decode cX4_isWorkDue 8 = .ok (.aaload, 1) := by decide +kernel
theorem dX4_isWorkDue_9 : decode cX4_isWorkDue 9 = .ok (.bipush 7, 2) := by decide +kernel
theorem dX4_isWorkDue_11 : decode cX4_isWorkDue 11 = .ok (.iaload, 1) := by decide +kernel
theorem dX4_isWorkDue_12 : decode cX4_isWorkDue 12 = .ok (.istore_n 2, 1) := by decide +kernel
theorem dX4_isWorkDue_13 : decode cX4_isWorkDue 13 = .ok (.aload_n 0, 1) := by decide +kernel
theorem dX4_isWorkDue_14 : decode cX4_isWorkDue 14 = .ok (.getfield 50, 3) := by decide +kernel
theorem dX4_isWorkDue_17 : decode cX4_isWorkDue 17 = .ok (.getfield 168, 3) := by decide +kernel
theorem dX4_isWorkDue_20 : decode cX4_isWorkDue 20 = .ok (.iload_n 1, 1) := by decide +kernel
theorem dX4_isWorkDue_21 : decode cX4_isWorkDue 21 = .ok (.iaload, 1) := by decide +kernel
theorem dX4_isWorkDue_22 : decode cX4_isWorkDue 22 = .ok (.iconst 2, 1) := by decide +kernel
theorem dX4_isWorkDue_23 : decode cX4_isWorkDue 23 = .ok (.if_icmp .ne 30, 3) := by decide +kernel
theorem dX4_isWorkDue_26 : decode cX4_isWorkDue 26 = .ok (.iload_n 2, 1) := by decide +kernel
theorem dX4_isWorkDue_27 : decode cX4_isWorkDue 27 = .ok (.ifCond .le 26, 3) := by decide +kernel
theorem dX4_isWorkDue_30 : decode cX4_isWorkDue 30 = .ok (.aload_n 0, 1) := by decide +kernel
theorem dX4_isWorkDue_31 : decode cX4_isWorkDue 31 = .ok (.getfield 65, 3) := by decide +kernel
theorem dX4_isWorkDue_34 : decode cX4_isWorkDue 34 = .ok (.aload_n 0, 1) := by decide +kernel
theorem dX4_isWorkDue_35 : decode cX4_isWorkDue 35 = .ok (.getfield 12, 3) := by decide +kernel
theorem dX4_isWorkDue_38 : decode cX4_isWorkDue 38 = .ok (.getfield 125, 3) := by decide +kernel
theorem dX4_isWorkDue_41 : decode cX4_isWorkDue 41 = .ok (.iload_n 1, 1) := by decide +kernel
theorem dX4_isWorkDue_42 : decode cX4_isWorkDue 42 = .ok (.iaload, 1) := by decide +kernel
theorem dX4_isWorkDue_43 : decode cX4_isWorkDue 43 = .ok (.isub, 1) := by decide +kernel
theorem dX4_isWorkDue_44 : decode cX4_isWorkDue 44 = .ok (.iload_n 2, 1) := by decide +kernel
theorem dX4_isWorkDue_45 : decode cX4_isWorkDue 45 = .ok (.irem, 1) := by decide +kernel
theorem dX4_isWorkDue_46 : decode cX4_isWorkDue 46 = .ok (.ifCond .ne 7, 3) := by decide +kernel
theorem dX4_isWorkDue_49 : decode cX4_isWorkDue 49 = .ok (.iconst 1, 1) := by decide +kernel
theorem dX4_isWorkDue_50 : decode cX4_isWorkDue 50 = .ok (.goto 4, 3) := by decide +kernel
theorem dX4_isWorkDue_53 : decode cX4_isWorkDue 53 = .ok (.iconst 0, 1) := by decide +kernel
theorem dX4_isWorkDue_54 : decode cX4_isWorkDue 54 = .ok (.ireturn, 1) := by decide +kernel
theorem dX4_givePages_0 : decode cX4_givePages 0 = .ok (.iload_n 2, 1) := by decide +kernel
theorem dX4_givePages_1 : decode cX4_givePages 1 = .ok (.aload_n 0, 1) := by decide +kernel
theorem dX4_givePages_2 : decode cX4_givePages 2 = .ok (.getfield 57, 3) := by decide +kernel
theorem dX4_givePages_5 : decode cX4_givePages 5 = .ok (.getfield 164, 3) := by decide +kernel
theorem dX4_givePages_8 : decode cX4_givePages 8 = .ok (.iload_n 1, 1) := by decide +kernel
theorem dX4_givePages_9 : decode cX4_givePages 9 = .ok (.aaload, 1) := by decide +kernel
theorem dX4_givePages_10 : decode cX4_givePages 10 = .ok (.iconst 3, 1) := by decide +kernel
theorem dX4_givePages_11 : decode cX4_givePages 11 = .ok (.iaload, 1) := by decide +kernel
theorem dX4_givePages_12 : decode cX4_givePages 12 = .ok (.aload_n 0, 1) := by decide +kernel
theorem dX4_givePages_13 : decode cX4_givePages 13 = .ok (.getfield 50, 3) := by decide +kernel
theorem dX4_givePages_16 : decode cX4_givePages 16 = .ok (.getfield 177, 3) := by decide +kernel
theorem dX4_givePages_19 : decode cX4_givePages 19 = .ok (.iload_n 1, 1) := by decide +kernel
theorem dX4_givePages_20 : decode cX4_givePages 20 = .ok (.iaload, 1) := by decide +kernel
theorem dX4_givePages_21 : decode cX4_givePages 21 = .ok (.isub, 1) := by decide +kernel
theorem dX4_givePages_22 : decode cX4_givePages 22 = .ok (.invokestatic 216, 3) := by decide +kernel
theorem dX4_givePages_25 : decode cX4_givePages 25 = .ok (.istore_n 3, 1) := by decide +kernel
theorem dX4_givePages_26 : decode cX4_givePages 26 = .ok (.aload_n 0, 1) := by decide +kernel
theorem dX4_givePages_27 : decode cX4_givePages 27 = .ok (.getfield 50, 3) := by decide +kernel
theorem dX4_givePages_30 : decode cX4_givePages 30 = .ok (.getfield 177, 3) := by decide +kernel
theorem dX4_givePages_33 : decode cX4_givePages 33 = .ok (.iload_n 1, 1) := by decide +kernel
theorem dX4_givePages_34 : decode cX4_givePages 34 = .ok (.dup2, 1) := by decide +kernel
theorem dX4_givePages_35 : decode cX4_givePages 35 = .ok (.iaload, 1) := by decide +kernel
theorem dX4_givePages_36 : decode cX4_givePages 36 = .ok (.iload_n 3, 1) := by decide +kernel
theorem dX4_givePages_37 : decode cX4_givePages 37 = .ok (.iadd, 1) := by decide +kernel
theorem dX4_givePages_38 : decode cX4_givePages 38 = .ok (.iastore, 1) := by decide +kernel
theorem dX4_givePages_39 : decode cX4_givePages 39 = .ok (.aload_n 0, 1) := by decide +kernel
theorem dX4_givePages_40 : decode cX4_givePages 40 = .ok (.invokevirtual 198, 3) := by decide +kernel
theorem dX4_givePages_43 : decode cX4_givePages 43 = .ok (.ifCond .ne 30, 3) := by decide +kernel
theorem dX4_givePages_46 : decode cX4_givePages 46 = .ok (.aload_n 0, 1) := by decide +kernel
theorem dX4_givePages_47 : decode cX4_givePages 47 = .ok (.getfield 50, 3) := by decide +kernel
theorem dX4_givePages_50 : decode cX4_givePages 50 = .ok (.getfield 177, 3) := by decide +kernel
theorem dX4_givePages_53 : decode cX4_givePages 53 = .ok (.iload_n 1, 1) := by decide +kernel
theorem dX4_givePages_54 : decode cX4_givePages 54 = .ok (.dup2, 1) := by decide +kernel
theorem dX4_givePages_55 : decode cX4_givePages 55 = .ok (.iaload, 1) := by decide +kernel
theorem dX4_givePages_56 : decode cX4_givePages 56 = .ok (.iload_n 3, 1) := by decide +kernel
theorem dX4_givePages_57 : decode cX4_givePages 57 = .ok (.isub, 1) := by decide +kernel
theorem dX4_givePages_58 : decode cX4_givePages 58 = .ok (.iastore, 1) := by decide +kernel
theorem dX4_givePages_59 : decode cX4_givePages 59 = .ok (.aload_n 0, 1) := by decide +kernel
theorem dX4_givePages_60 : decode cX4_givePages 60 = .ok (.getfield 21, 3) := by decide +kernel
theorem dX4_givePages_63 : decode cX4_givePages 63 = .ok (.bipush 9, 2) := by decide +kernel
theorem dX4_givePages_65 : decode cX4_givePages 65 = .ok (.iload_n 1, 1) := by decide +kernel
theorem dX4_givePages_66 : decode cX4_givePages 66 = .ok (.aload_n 0, 1) := by decide +kernel
theorem dX4_givePages_67 : decode cX4_givePages 67 = .ok (.getfield 65, 3) := by decide +kernel
theorem dX4_givePages_70 : decode cX4_givePages 70 = .ok (.invokevirtual 160, 3) := by decide +kernel
theorem dX4_givePages_73 : decode cX4_givePages 73 = .ok (.return_, 1) := by decide +kernel
theorem dX4_waitingNotice_0 : decode cX4_waitingNotice 0 = .ok (.iload_n 2, 1) := by decide +kernel
theorem dX4_waitingNotice_1 : decode cX4_waitingNotice 1 = .ok (.ifCond .lt 13, 3) := by decide +kernel
theorem dX4_waitingNotice_4 : decode cX4_waitingNotice 4 = .ok (.iload_n 2, 1) := by decide +kernel
theorem dX4_waitingNotice_5 : decode cX4_waitingNotice 5 = .ok (.aload_n 0, 1) := by decide +kernel
theorem dX4_waitingNotice_6 : decode cX4_waitingNotice 6 = .ok (.getfield 35, 3) := by decide +kernel
theorem dX4_waitingNotice_9 : decode cX4_waitingNotice 9 = .ok (.iload_n 1, 1) := by decide +kernel
theorem dX4_waitingNotice_10 : decode cX4_waitingNotice 10 = .ok (.iaload, 1) := by decide +kernel
theorem dX4_waitingNotice_11 : decode cX4_waitingNotice 11 = .ok (.if_icmp .lt 7, 3) := by decide +kernel
theorem dX4_waitingNotice_14 : decode cX4_waitingNotice 14 = .ok (.iconst (-1), 1) := by decide +kernel
theorem dX4_waitingNotice_15 : decode cX4_waitingNotice 15 = .ok (.goto 13, 3) := by decide +kernel
theorem dX4_waitingNotice_18 : decode cX4_waitingNotice 18 = .ok (.aload_n 0, 1) := by decide +kernel
theorem dX4_waitingNotice_19 : decode cX4_waitingNotice 19 = .ok (.getfield 38, 3) := by decide +kernel
theorem dX4_waitingNotice_22 : decode cX4_waitingNotice 22 = .ok (.iload_n 1, 1) := by decide +kernel
theorem dX4_waitingNotice_23 : decode cX4_waitingNotice 23 = .ok (.iconst 5, 1) := by decide +kernel
theorem dX4_waitingNotice_24 : decode cX4_waitingNotice 24 = .ok (.imul, 1) := by decide +kernel
theorem dX4_waitingNotice_25 : decode cX4_waitingNotice 25 = .ok (.iload_n 2, 1) := by decide +kernel
theorem dX4_waitingNotice_26 : decode cX4_waitingNotice 26 = .ok (.iadd, 1) := by decide +kernel
theorem dX4_waitingNotice_27 : decode cX4_waitingNotice 27 = .ok (.iaload, 1) := by decide +kernel
theorem dX4_waitingNotice_28 : decode cX4_waitingNotice 28 = .ok (.ireturn, 1) := by decide +kernel
theorem dX4_takeIn_0 : decode cX4_takeIn 0 = .ok (.aload_n 0, 1) := by decide +kernel
theorem dX4_takeIn_1 : decode cX4_takeIn 1 = .ok (.getfield 25, 3) := by decide +kernel
theorem dX4_takeIn_4 : decode cX4_takeIn 4 = .ok (.iload_n 1, 1) := by decide +kernel
theorem dX4_takeIn_5 : decode cX4_takeIn 5 = .ok (.bipush 31, 2) := by decide +kernel
theorem dX4_takeIn_7 : decode cX4_takeIn 7 = .ok (.aload_n 0, 1) := by decide +kernel
theorem dX4_takeIn_8 : decode cX4_takeIn 8 = .ok (.getfield 25, 3) := by decide +kernel
theorem dX4_takeIn_11 : decode cX4_takeIn 11 = .ok (.iload_n 1, 1) := by decide +kernel
theorem dX4_takeIn_12 : decode cX4_takeIn 12 = .ok (.iaload, 1) := by decide +kernel
theorem dX4_takeIn_13 : decode cX4_takeIn 13 = .ok (.imul, 1) := by decide +kernel
theorem dX4_takeIn_14 : decode cX4_takeIn 14 = .ok (.iload_n 2, 1) := by decide +kernel
theorem dX4_takeIn_15 : decode cX4_takeIn 15 = .ok (.iadd, 1) := by decide +kernel
theorem dX4_takeIn_16 : decode cX4_takeIn 16 = .ok (.iastore, 1) := by decide +kernel
theorem dX4_takeIn_17 : decode cX4_takeIn 17 = .ok (.return_, 1) := by decide +kernel
theorem dX4_deliver_0 : decode cX4_deliver 0 = .ok (.aload_n 0, 1) := by decide +kernel
theorem dX4_deliver_1 : decode cX4_deliver 1 = .ok (.getfield 50, 3) := by decide +kernel
theorem dX4_deliver_4 : decode cX4_deliver 4 = .ok (.getfield 168, 3) := by decide +kernel
theorem dX4_deliver_7 : decode cX4_deliver 7 = .ok (.iload_n 1, 1) := by decide +kernel
theorem dX4_deliver_8 : decode cX4_deliver 8 = .ok (.iaload, 1) := by decide +kernel
theorem dX4_deliver_9 : decode cX4_deliver 9 = .ok (.iconst 1, 1) := by decide +kernel
theorem dX4_deliver_10 : decode cX4_deliver 10 = .ok (.if_icmp .ne 12, 3) := by decide +kernel
theorem dX4_deliver_13 : decode cX4_deliver 13 = .ok (.aload_n 0, 1) := by decide +kernel
theorem dX4_deliver_14 : decode cX4_deliver 14 = .ok (.iload_n 1, 1) := by decide +kernel
theorem dX4_deliver_15 : decode cX4_deliver 15 = .ok (.iload_n 2, 1) := by decide +kernel
theorem dX4_deliver_16 : decode cX4_deliver 16 = .ok (.invokevirtual 222, 3) := by decide +kernel
theorem dX4_deliver_19 : decode cX4_deliver 19 = .ok (.goto 56, 3) := by decide +kernel
theorem dX4_deliver_22 : decode cX4_deliver 22 = .ok (.aload_n 0, 1) := by decide +kernel
theorem dX4_deliver_23 : decode cX4_deliver 23 = .ok (.getfield 50, 3) := by decide +kernel
theorem dX4_deliver_26 : decode cX4_deliver 26 = .ok (.getfield 168, 3) := by decide +kernel
theorem dX4_deliver_29 : decode cX4_deliver 29 = .ok (.iload_n 1, 1) := by decide +kernel
theorem dX4_deliver_30 : decode cX4_deliver 30 = .ok (.iaload, 1) := by decide +kernel
theorem dX4_deliver_31 : decode cX4_deliver 31 = .ok (.ifCond .eq 44, 3) := by decide +kernel
theorem dX4_deliver_34 : decode cX4_deliver 34 = .ok (.aload_n 0, 1) := by decide +kernel
theorem dX4_deliver_35 : decode cX4_deliver 35 = .ok (.getfield 35, 3) := by decide +kernel
theorem dX4_deliver_38 : decode cX4_deliver 38 = .ok (.iload_n 1, 1) := by decide +kernel
theorem dX4_deliver_39 : decode cX4_deliver 39 = .ok (.iaload, 1) := by decide +kernel
theorem dX4_deliver_40 : decode cX4_deliver 40 = .ok (.iconst 5, 1) := by decide +kernel
theorem dX4_deliver_41 : decode cX4_deliver 41 = .ok (.if_icmp .lt 8, 3) := by decide +kernel
theorem dX4_deliver_44 : decode cX4_deliver 44 = .ok (.aload_n 0, 1) := by decide +kernel
theorem dX4_deliver_45 : decode cX4_deliver 45 = .ok (.iload_n 1, 1) := by decide +kernel
theorem dX4_deliver_46 : decode cX4_deliver 46 = .ok (.invokevirtual 225, 3) := by decide +kernel
theorem dX4_deliver_49 : decode cX4_deliver 49 = .ok (.aload_n 0, 1) := by decide +kernel
theorem dX4_deliver_50 : decode cX4_deliver 50 = .ok (.getfield 38, 3) := by decide +kernel
theorem dX4_deliver_53 : decode cX4_deliver 53 = .ok (.iload_n 1, 1) := by decide +kernel
theorem dX4_deliver_54 : decode cX4_deliver 54 = .ok (.iconst 5, 1) := by decide +kernel
theorem dX4_deliver_55 : decode cX4_deliver 55 = .ok (.imul, 1) := by decide +kernel
theorem dX4_deliver_56 : decode cX4_deliver 56 = .ok (.aload_n 0, 1) := by decide +kernel
theorem dX4_deliver_57 : decode cX4_deliver 57 = .ok (.getfield 35, 3) := by decide +kernel
theorem dX4_deliver_60 : decode cX4_deliver 60 = .ok (.iload_n 1, 1) := by decide +kernel
theorem dX4_deliver_61 : decode cX4_deliver 61 = .ok (.iaload, 1) := by decide +kernel
theorem dX4_deliver_62 : decode cX4_deliver 62 = .ok (.iadd, 1) := by decide +kernel
theorem dX4_deliver_63 : decode cX4_deliver 63 = .ok (.iload_n 2, 1) := by decide +kernel
theorem dX4_deliver_64 : decode cX4_deliver 64 = .ok (.iastore, 1) := by decide +kernel
theorem dX4_deliver_65 : decode cX4_deliver 65 = .ok (.aload_n 0, 1) := by decide +kernel
theorem dX4_deliver_66 : decode cX4_deliver 66 = .ok (.getfield 35, 3) := by decide +kernel
theorem dX4_deliver_69 : decode cX4_deliver 69 = .ok (.iload_n 1, 1) := by decide +kernel
theorem dX4_deliver_70 : decode cX4_deliver 70 = .ok (.dup2, 1) := by decide +kernel
theorem dX4_deliver_71 : decode cX4_deliver 71 = .ok (.iaload, 1) := by decide +kernel
theorem dX4_deliver_72 : decode cX4_deliver 72 = .ok (.iconst 1, 1) := by decide +kernel
theorem dX4_deliver_73 : decode cX4_deliver 73 = .ok (.iadd, 1) := by decide +kernel
theorem dX4_deliver_74 : decode cX4_deliver 74 = .ok (.iastore, 1) := by decide +kernel
theorem dX4_deliver_75 : decode cX4_deliver 75 = .ok (.return_, 1) := by decide +kernel
theorem dX4_takeInFirst_0 : decode cX4_takeInFirst 0 = .ok (.aload_n 0, 1) := by decide +kernel
theorem dX4_takeInFirst_1 : decode cX4_takeInFirst 1 = .ok (.iload_n 1, 1) := by decide +kernel
theorem dX4_takeInFirst_2 : decode cX4_takeInFirst 2 = .ok (.aload_n 0, 1) := by decide +kernel
theorem dX4_takeInFirst_3 : decode cX4_takeInFirst 3 = .ok (.getfield 38, 3) := by decide +kernel
theorem dX4_takeInFirst_6 : decode cX4_takeInFirst 6 = .ok (.iload_n 1, 1) := by decide +kernel
theorem dX4_takeInFirst_7 : decode cX4_takeInFirst 7 = .ok (.iconst 5, 1) := by decide +kernel
theorem dX4_takeInFirst_8 : decode cX4_takeInFirst 8 = .ok (.imul, 1) := by decide +kernel
theorem dX4_takeInFirst_9 : decode cX4_takeInFirst 9 = .ok (.iaload, 1) := by decide +kernel
theorem dX4_takeInFirst_10 : decode cX4_takeInFirst 10 = .ok (.invokevirtual 222, 3) := by decide +kernel
theorem dX4_takeInFirst_13 : decode cX4_takeInFirst 13 = .ok (.aload_n 0, 1) := by decide +kernel
theorem dX4_takeInFirst_14 : decode cX4_takeInFirst 14 = .ok (.iload_n 1, 1) := by decide +kernel
theorem dX4_takeInFirst_15 : decode cX4_takeInFirst 15 = .ok (.invokevirtual 225, 3) := by decide +kernel
theorem dX4_takeInFirst_18 : decode cX4_takeInFirst 18 = .ok (.return_, 1) := by decide +kernel
theorem dX4_dropFirst_0 : decode cX4_dropFirst 0 = .ok (.iload_n 1, 1) := by decide +kernel
theorem dX4_dropFirst_1 : decode cX4_dropFirst 1 = .ok (.iconst 5, 1) := by decide +kernel
theorem dX4_dropFirst_2 : decode cX4_dropFirst 2 = .ok (.imul, 1) := by decide +kernel
theorem dX4_dropFirst_3 : decode cX4_dropFirst 3 = .ok (.istore_n 2, 1) := by decide +kernel
theorem dX4_dropFirst_4 : decode cX4_dropFirst 4 = .ok (.aload_n 0, 1) := by decide +kernel
theorem dX4_dropFirst_5 : decode cX4_dropFirst 5 = .ok (.getfield 38, 3) := by decide +kernel
theorem dX4_dropFirst_8 : decode cX4_dropFirst 8 = .ok (.iload_n 2, 1) := by decide +kernel
theorem dX4_dropFirst_9 : decode cX4_dropFirst 9 = .ok (.iconst 1, 1) := by decide +kernel
theorem dX4_dropFirst_10 : decode cX4_dropFirst 10 = .ok (.iadd, 1) := by decide +kernel
theorem dX4_dropFirst_11 : decode cX4_dropFirst 11 = .ok (.aload_n 0, 1) := by decide +kernel
theorem dX4_dropFirst_12 : decode cX4_dropFirst 12 = .ok (.getfield 38, 3) := by decide +kernel
theorem dX4_dropFirst_15 : decode cX4_dropFirst 15 = .ok (.iload_n 2, 1) := by decide +kernel
theorem dX4_dropFirst_16 : decode cX4_dropFirst 16 = .ok (.iconst 4, 1) := by decide +kernel
theorem dX4_dropFirst_17 : decode cX4_dropFirst 17 = .ok (.invokestatic 94, 3) := by decide +kernel
theorem dX4_dropFirst_20 : decode cX4_dropFirst 20 = .ok (.aload_n 0, 1) := by decide +kernel
theorem dX4_dropFirst_21 : decode cX4_dropFirst 21 = .ok (.getfield 35, 3) := by decide +kernel
theorem dX4_dropFirst_24 : decode cX4_dropFirst 24 = .ok (.iload_n 1, 1) := by decide +kernel
theorem dX4_dropFirst_25 : decode cX4_dropFirst 25 = .ok (.dup2, 1) := by decide +kernel
theorem dX4_dropFirst_26 : decode cX4_dropFirst 26 = .ok (.iaload, 1) := by decide +kernel
theorem dX4_dropFirst_27 : decode cX4_dropFirst 27 = .ok (.iconst 1, 1) := by decide +kernel
theorem dX4_dropFirst_28 : decode cX4_dropFirst 28 = .ok (.isub, 1) := by decide +kernel
theorem dX4_dropFirst_29 : decode cX4_dropFirst 29 = .ok (.iastore, 1) := by decide +kernel
theorem dX4_dropFirst_30 : decode cX4_dropFirst 30 = .ok (.return_, 1) := by decide +kernel
theorem dX6_init_0 : decode cX6_init 0 = .ok (.aload_n 0, 1) := by decide +kernel
theorem dX6_init_1 : decode cX6_init 1 = .ok (.invokespecial 3, 3) := by decide +kernel
theorem dX6_init_4 : decode cX6_init 4 = .ok (.aload_n 0, 1) := by decide +kernel
theorem dX6_init_5 : decode cX6_init 5 = .ok (.bipush 10, 2) := by decide +kernel
theorem dX6_init_7 : decode cX6_init 7 = .ok (.newarray .int, 2) := by decide +kernel
theorem dX6_init_9 : decode cX6_init 9 = .ok (.putfield 9, 3) := by decide +kernel
theorem dX6_init_12 : decode cX6_init 12 = .ok (.aload_n 0, 1) := by decide +kernel
theorem dX6_init_13 : decode cX6_init 13 = .ok (.bipush 10, 2) := by decide +kernel
theorem dX6_init_15 : decode cX6_init 15 = .ok (.newarray .int, 2) := by decide +kernel
theorem dX6_init_17 : decode cX6_init 17 = .ok (.putfield 15, 3) := by decide +kernel
theorem dX6_init_20 : decode cX6_init 20 = .ok (.aload_n 0, 1) := by decide +kernel
theorem dX6_init_21 : decode cX6_init 21 = .ok (.bipush 10, 2) := by decide +kernel
theorem dX6_init_23 : decode cX6_init 23 = .ok (.newarray .int, 2) := by decide +kernel
theorem dX6_init_25 : decode cX6_init 25 = .ok (.putfield 18, 3) := by decide +kernel
theorem dX6_init_28 : decode cX6_init 28 = .ok (.aload_n 0, 1) := by decide +kernel
theorem dX6_init_29 : decode cX6_init 29 = .ok (.bipush 10, 2) := by decide +kernel
theorem dX6_init_31 : decode cX6_init 31 = .ok (.newarray .boolean, 2) := by decide +kernel
theorem dX6_init_33 : decode cX6_init 33 = .ok (.putfield 21, 3) := by decide +kernel
theorem dX6_init_36 : decode cX6_init 36 = .ok (.aload_n 0, 1) := by decide +kernel
theorem dX6_init_37 : decode cX6_init 37 = .ok (.aload_n 1, 1) := by decide +kernel
theorem dX6_init_38 : decode cX6_init 38 = .ok (.invokevirtual 25, 3) := by decide +kernel
theorem dX6_init_41 : decode cX6_init 41 = .ok (.return_, 1) := by decide +kernel
theorem dX6_begin_0 : decode cX6_begin 0 = .ok (.aload_n 0, 1) := by decide +kernel
theorem dX6_begin_1 : decode cX6_begin 1 = .ok (.aload_n 1, 1) := by decide +kernel
theorem dX6_begin_2 : decode cX6_begin 2 = .ok (.putfield 29, 3) := by decide +kernel
theorem dX6_begin_5 : decode cX6_begin 5 = .ok (.aload_n 0, 1) := by decide +kernel
theorem dX6_begin_6 : decode cX6_begin 6 = .ok (.aload_n 1, 1) := by decide +kernel
theorem dX6_begin_7 : decode cX6_begin 7 = .ok (.getfield 33, 3) := by decide +kernel
theorem dX6_begin_10 : decode cX6_begin 10 = .ok (.putfield 39, 3) := by decide +kernel
theorem dX6_begin_13 : decode cX6_begin 13 = .ok (.aload_n 0, 1) := by decide +kernel
theorem dX6_begin_14 : decode cX6_begin 14 = .ok (.getfield 9, 3) := by decide +kernel
theorem dX6_begin_17 : decode cX6_begin 17 = .ok (.iconst 0, 1) := by decide +kernel
theorem dX6_begin_18 : decode cX6_begin 18 = .ok (.invokestatic 40, 3) := by decide +kernel
theorem dX6_begin_21 : decode cX6_begin 21 = .ok (.aload_n 0, 1) := by decide +kernel
theorem dX6_begin_22 : decode cX6_begin 22 = .ok (.getfield 15, 3) := by decide +kernel
theorem dX6_begin_25 : decode cX6_begin 25 = .ok (.iconst 0, 1) := by decide +kernel
theorem dX6_begin_26 : decode cX6_begin 26 = .ok (.invokestatic 40, 3) := by decide +kernel
theorem dX6_begin_29 : decode cX6_begin 29 = .ok (.aload_n 0, 1) := by decide +kernel
theorem dX6_begin_30 : decode cX6_begin 30 = .ok (.getfield 18, 3) := by decide +kernel
theorem dX6_begin_33 : decode cX6_begin 33 = .ok (.iconst 0, 1) := by decide +kernel
theorem dX6_begin_34 : decode cX6_begin 34 = .ok (.invokestatic 40, 3) := by decide +kernel
theorem dX6_begin_37 : decode cX6_begin 37 = .ok (.iconst 0, 1) := by decide +kernel
theorem dX6_begin_38 : decode cX6_begin 38 = .ok (.istore_n 2, 1) := by decide +kernel
theorem dX6_begin_39 : decode cX6_begin 39 = .ok (.iload_n 2, 1) := by decide +kernel
theorem dX6_begin_40 : decode cX6_begin 40 = .ok (.bipush 10, 2) := by decide +kernel
theorem dX6_begin_42 : decode cX6_begin 42 = .ok (.if_icmp .ge 16, 3) := by decide +kernel
theorem dX6_begin_45 : decode cX6_begin 45 = .ok (.aload_n 0, 1) := by decide +kernel
theorem dX6_begin_46 : decode cX6_begin 46 = .ok (.getfield 21, 3) := by decide +kernel
theorem dX6_begin_49 : decode cX6_begin 49 = .ok (.iload_n 2, 1) := by decide +kernel
theorem dX6_begin_50 : decode cX6_begin 50 = .ok (.iconst 0, 1) := by decide +kernel
theorem dX6_begin_51 : decode cX6_begin 51 = .ok (.bastore, 1) := by decide +kernel
theorem dX6_begin_52 : decode cX6_begin 52 = .ok (.iinc 2 1, 3) := by decide +kernel
theorem dX6_begin_55 : decode cX6_begin 55 = .ok (.goto (-16), 3) := by decide +kernel
theorem dX6_begin_58 : decode cX6_begin 58 = .ok (.return_, 1) := by decide +kernel
theorem dX6_copyFrom_0 : decode cX6_copyFrom 0 = .ok (.aload_n 0, 1) := by decide +kernel
theorem dX6_copyFrom_1 : decode cX6_copyFrom 1 = .ok (.aload_n 1, 1) := by decide +kernel
theorem dX6_copyFrom_2 : decode cX6_copyFrom 2 = .ok (.getfield 29, 3) := by decide +kernel
theorem dX6_copyFrom_5 : decode cX6_copyFrom 5 = .ok (.putfield 29, 3) := by decide +kernel
theorem dX6_copyFrom_8 : decode cX6_copyFrom 8 = .ok (.aload_n 0, 1) := by decide +kernel
theorem dX6_copyFrom_9 : decode cX6_copyFrom 9 = .ok (.aload_n 1, 1) := by decide +kernel
theorem dX6_copyFrom_10 : decode cX6_copyFrom 10 = .ok (.getfield 39, 3) := by decide +kernel
theorem dX6_copyFrom_13 : decode cX6_copyFrom 13 = .ok (.putfield 39, 3) := by decide +kernel
theorem dX6_copyFrom_16 : decode cX6_copyFrom 16 = .ok (.aload_n 1, 1) := by decide +kernel
theorem dX6_copyFrom_17 : decode cX6_copyFrom 17 = .ok (.getfield 9, 3) := by decide +kernel
theorem dX6_copyFrom_20 : decode cX6_copyFrom 20 = .ok (.iconst 0, 1) := by decide +kernel
theorem dX6_copyFrom_21 : decode cX6_copyFrom 21 = .ok (.aload_n 0, 1) := by decide +kernel
theorem dX6_copyFrom_22 : decode cX6_copyFrom 22 = .ok (.getfield 9, 3) := by decide +kernel
theorem dX6_copyFrom_25 : decode cX6_copyFrom 25 = .ok (.iconst 0, 1) := by decide +kernel
theorem dX6_copyFrom_26 : decode cX6_copyFrom 26 = .ok (.bipush 10, 2) := by decide +kernel
theorem dX6_copyFrom_28 : decode cX6_copyFrom 28 = .ok (.invokestatic 46, 3) := by decide +kernel
theorem dX6_copyFrom_31 : decode cX6_copyFrom 31 = .ok (.aload_n 1, 1) := by decide +kernel
theorem dX6_copyFrom_32 : decode cX6_copyFrom 32 = .ok (.getfield 15, 3) := by decide +kernel
theorem dX6_copyFrom_35 : decode cX6_copyFrom 35 = .ok (.iconst 0, 1) := by decide +kernel
theorem dX6_copyFrom_36 : decode cX6_copyFrom 36 = .ok (.aload_n 0, 1) := by decide +kernel
theorem dX6_copyFrom_37 : decode cX6_copyFrom 37 = .ok (.getfield 15, 3) := by decide +kernel
theorem dX6_copyFrom_40 : decode cX6_copyFrom 40 = .ok (.iconst 0, 1) := by decide +kernel
theorem dX6_copyFrom_41 : decode cX6_copyFrom 41 = .ok (.bipush 10, 2) := by decide +kernel
theorem dX6_copyFrom_43 : decode cX6_copyFrom 43 = .ok (.invokestatic 46, 3) := by decide +kernel
theorem dX6_copyFrom_46 : decode cX6_copyFrom 46 = .ok (.aload_n 1, 1) := by decide +kernel
theorem dX6_copyFrom_47 : decode cX6_copyFrom 47 = .ok (.getfield 18, 3) := by decide +kernel
theorem dX6_copyFrom_50 : decode cX6_copyFrom 50 = .ok (.iconst 0, 1) := by decide +kernel
theorem dX6_copyFrom_51 : decode cX6_copyFrom 51 = .ok (.aload_n 0, 1) := by decide +kernel
theorem dX6_copyFrom_52 : decode cX6_copyFrom 52 = .ok (.getfield 18, 3) := by decide +kernel
theorem dX6_copyFrom_55 : decode cX6_copyFrom 55 = .ok (.iconst 0, 1) := by decide +kernel
theorem dX6_copyFrom_56 : decode cX6_copyFrom 56 = .ok (.bipush 10, 2) := by decide +kernel
theorem dX6_copyFrom_58 : decode cX6_copyFrom 58 = .ok (.invokestatic 46, 3) := by decide +kernel
theorem dX6_copyFrom_61 : decode cX6_copyFrom 61 = .ok (.iconst 0, 1) := by decide +kernel
theorem dX6_copyFrom_62 : decode cX6_copyFrom 62 = .ok (.istore_n 2, 1) := by decide +kernel
theorem dX6_copyFrom_63 : decode cX6_copyFrom 63 = .ok (.iload_n 2, 1) := by decide +kernel
theorem dX6_copyFrom_64 : decode cX6_copyFrom 64 = .ok (.bipush 10, 2) := by decide +kernel
theorem dX6_copyFrom_66 : decode cX6_copyFrom 66 = .ok (.if_icmp .ge 21, 3) := by decide +kernel
theorem dX6_copyFrom_69 : decode cX6_copyFrom 69 = .ok (.aload_n 0, 1) := by decide +kernel
theorem dX6_copyFrom_70 : decode cX6_copyFrom 70 = .ok (.getfield 21, 3) := by decide +kernel
theorem dX6_copyFrom_73 : decode cX6_copyFrom 73 = .ok (.iload_n 2, 1) := by decide +kernel
theorem dX6_copyFrom_74 : decode cX6_copyFrom 74 = .ok (.aload_n 1, 1) := by decide +kernel
theorem dX6_copyFrom_75 : decode cX6_copyFrom 75 = .ok (.getfield 21, 3) := by decide +kernel
theorem dX6_copyFrom_78 : decode cX6_copyFrom 78 = .ok (.iload_n 2, 1) := by decide +kernel
theorem dX6_copyFrom_79 : decode cX6_copyFrom 79 = .ok (.baload, 1) := by decide +kernel
theorem dX6_copyFrom_80 : decode cX6_copyFrom 80 = .ok (.bastore, 1) := by decide +kernel
theorem dX6_copyFrom_81 : decode cX6_copyFrom 81 = .ok (.iinc 2 1, 3) := by decide +kernel
theorem dX6_copyFrom_84 : decode cX6_copyFrom 84 = .ok (.goto (-21), 3) := by decide +kernel
theorem dX6_copyFrom_87 : decode cX6_copyFrom 87 = .ok (.return_, 1) := by decide +kernel
theorem dX6_count_0 : decode cX6_count 0 = .ok (.aload_n 0, 1) := by decide +kernel
theorem dX6_count_1 : decode cX6_count 1 = .ok (.getfield 29, 3) := by decide +kernel
theorem dX6_count_4 : decode cX6_count 4 = .ok (.getfield 52, 3) := by decide +kernel
theorem dX6_count_7 : decode cX6_count 7 = .ok (.ireturn, 1) := by decide +kernel
theorem dX6_usedBy_0 : decode cX6_usedBy 0 = .ok (.aload_n 0, 1) := by decide +kernel
theorem dX6_usedBy_1 : decode cX6_usedBy 1 = .ok (.getfield 9, 3) := by decide +kernel
theorem dX6_usedBy_4 : decode cX6_usedBy 4 = .ok (.iload_n 1, 1) := by decide +kernel
theorem dX6_usedBy_5 : decode cX6_usedBy 5 = .ok (.iaload, 1) := by decide +kernel
theorem dX6_usedBy_6 : decode cX6_usedBy 6 = .ok (.tableswitch 85 1 5 #[34, 34, 34, 48, 73], 34) := by decide +kernel
theorem dX6_usedBy_40 : decode cX6_usedBy 40 = .ok (.aload_n 0, 1) := by decide +kernel
theorem dX6_usedBy_41 : decode cX6_usedBy 41 = .ok (.getfield 15, 3) := by decide +kernel
theorem dX6_usedBy_44 : decode cX6_usedBy 44 = .ok (.iload_n 1, 1) := by decide +kernel
theorem dX6_usedBy_45 : decode cX6_usedBy 45 = .ok (.iaload, 1) := by decide +kernel
theorem dX6_usedBy_46 : decode cX6_usedBy 46 = .ok (.aload_n 0, 1) := by decide +kernel
theorem dX6_usedBy_47 : decode cX6_usedBy 47 = .ok (.getfield 18, 3) := by decide +kernel
theorem dX6_usedBy_50 : decode cX6_usedBy 50 = .ok (.iload_n 1, 1) := by decide +kernel
theorem dX6_usedBy_51 : decode cX6_usedBy 51 = .ok (.iaload, 1) := by decide +kernel
theorem dX6_usedBy_52 : decode cX6_usedBy 52 = .ok (.iadd, 1) := by decide +kernel
theorem dX6_usedBy_53 : decode cX6_usedBy 53 = .ok (.ireturn, 1) := by decide +kernel
theorem dX6_usedBy_54 : decode cX6_usedBy 54 = .ok (.aload_n 0, 1) := by decide +kernel
theorem dX6_usedBy_55 : decode cX6_usedBy 55 = .ok (.getfield 15, 3) := by decide +kernel
theorem dX6_usedBy_58 : decode cX6_usedBy 58 = .ok (.iload_n 1, 1) := by decide +kernel
theorem dX6_usedBy_59 : decode cX6_usedBy 59 = .ok (.iaload, 1) := by decide +kernel
theorem dX6_usedBy_60 : decode cX6_usedBy 60 = .ok (.aload_n 0, 1) := by decide +kernel
theorem dX6_usedBy_61 : decode cX6_usedBy 61 = .ok (.getfield 29, 3) := by decide +kernel
theorem dX6_usedBy_64 : decode cX6_usedBy 64 = .ok (.getfield 55, 3) := by decide +kernel
theorem dX6_usedBy_67 : decode cX6_usedBy 67 = .ok (.iload_n 1, 1) := by decide +kernel
theorem dX6_usedBy_68 : decode cX6_usedBy 68 = .ok (.aaload, 1) := by decide +kernel
theorem dX6_usedBy_69 : decode cX6_usedBy 69 = .ok (.iconst 4, 1) := by decide +kernel
theorem dX6_usedBy_70 : decode cX6_usedBy 70 = .ok (.iaload, 1) := by decide +kernel
theorem dX6_usedBy_71 : decode cX6_usedBy 71 = .ok (.imul, 1) := by decide +kernel
theorem dX6_usedBy_72 : decode cX6_usedBy 72 = .ok (.bipush 99, 2) := by decide +kernel
theorem dX6_usedBy_74 : decode cX6_usedBy 74 = .ok (.iadd, 1) := by decide +kernel
theorem dX6_usedBy_75 : decode cX6_usedBy 75 = .ok (.bipush 100, 2) := by decide +kernel
theorem dX6_usedBy_77 : decode cX6_usedBy 77 = .ok (.idiv, 1) := by decide +kernel
theorem dX6_usedBy_78 : decode cX6_usedBy 78 = .ok (.ireturn, 1) := by decide +kernel
theorem dX6_usedBy_79 : decode cX6_usedBy 79 = .ok (.aload_n 0, 1) := by decide +kernel
theorem dX6_usedBy_80 : decode cX6_usedBy 80 = .ok (.getfield 29, 3) := by decide +kernel
theorem dX6_usedBy_83 : decode cX6_usedBy 83 = .ok (.getfield 55, 3) := by decide +kernel
theorem dX6_usedBy_86 : decode cX6_usedBy 86 = .ok (.iload_n 1, 1) := by decide +kernel
theorem dX6_usedBy_87 : decode cX6_usedBy 87 = .ok (.aaload, 1) := by decide +kernel
theorem dX6_usedBy_88 : decode cX6_usedBy 88 = .ok (.iconst 5, 1) := by decide +kernel
theorem dX6_usedBy_89 : decode cX6_usedBy 89 = .ok (.iaload, 1) := by decide +kernel
theorem dX6_usedBy_90 : decode cX6_usedBy 90 = .ok (.ireturn, 1) := by decide +kernel
theorem dX6_usedBy_91 : decode cX6_usedBy 91 = .ok (.iconst 0, 1) := by decide +kernel
theorem dX6_usedBy_92 : decode cX6_usedBy 92 = .ok (.ireturn, 1) := by decide +kernel
theorem dX6_usedByAll_0 : decode cX6_usedByAll 0 = .ok (.iconst 0, 1) := by decide +kernel
theorem dX6_usedByAll_1 : decode cX6_usedByAll 1 = .ok (.istore_n 1, 1) := by decide +kernel
theorem dX6_usedByAll_2 : decode cX6_usedByAll 2 = .ok (.iconst 0, 1) := by decide +kernel
theorem dX6_usedByAll_3 : decode cX6_usedByAll 3 = .ok (.istore_n 2, 1) := by decide +kernel
theorem dX6_usedByAll_4 : decode cX6_usedByAll 4 = .ok (.iload_n 2, 1) := by decide +kernel
theorem dX6_usedByAll_5 : decode cX6_usedByAll 5 = .ok (.aload_n 0, 1) := by decide +kernel
theorem dX6_usedByAll_6 : decode cX6_usedByAll 6 = .ok (.getfield 29, 3) := by decide +kernel
theorem dX6_usedByAll_9 : decode cX6_usedByAll 9 = .ok (.getfield 52, 3) := by decide +kernel
theorem dX6_usedByAll_12 : decode cX6_usedByAll 12 = .ok (.if_icmp .ge 17, 3) := by decide +kernel
theorem dX6_usedByAll_15 : decode cX6_usedByAll 15 = .ok (.iload_n 1, 1) := by decide +kernel
theorem dX6_usedByAll_16 : decode cX6_usedByAll 16 = .ok (.aload_n 0, 1) := by decide +kernel
theorem dX6_usedByAll_17 : decode cX6_usedByAll 17 = .ok (.iload_n 2, 1) := by decide +kernel
theorem dX6_usedByAll_18 : decode cX6_usedByAll 18 = .ok (.invokevirtual 59, 3) := by decide +kernel
theorem dX6_usedByAll_21 : decode cX6_usedByAll 21 = .ok (.iadd, 1) := by decide +kernel
theorem dX6_usedByAll_22 : decode cX6_usedByAll 22 = .ok (.istore_n 1, 1) := by decide +kernel
theorem dX6_usedByAll_23 : decode cX6_usedByAll 23 = .ok (.iinc 2 1, 3) := by decide +kernel
theorem dX6_usedByAll_26 : decode cX6_usedByAll 26 = .ok (.goto (-22), 3) := by decide +kernel
theorem dX6_usedByAll_29 : decode cX6_usedByAll 29 = .ok (.iload_n 1, 1) := by decide +kernel
theorem dX6_usedByAll_30 : decode cX6_usedByAll 30 = .ok (.ireturn, 1) := by decide +kernel
theorem dX6_isOverLimit_0 : decode cX6_isOverLimit 0 = .ok (.aload_n 0, 1) := by decide +kernel
theorem dX6_isOverLimit_1 : decode cX6_isOverLimit 1 = .ok (.invokevirtual 63, 3) := by decide +kernel
theorem dX6_isOverLimit_4 : decode cX6_isOverLimit 4 = .ok (.aload_n 0, 1) := by decide +kernel
theorem dX6_isOverLimit_5 : decode cX6_isOverLimit 5 = .ok (.getfield 39, 3) := by decide +kernel
theorem dX6_isOverLimit_8 : decode cX6_isOverLimit 8 = .ok (.if_icmp .le 7, 3) := by decide +kernel
theorem dX6_isOverLimit_11 : decode cX6_isOverLimit 11 = .ok (.iconst 1, 1) := by decide +kernel
theorem dX6_isOverLimit_12 : decode cX6_isOverLimit 12 = .ok (.goto 4, 3) := by decide +kernel
theorem dX6_isOverLimit_15 : decode cX6_isOverLimit 15 = .ok (.iconst 0, 1) := by decide +kernel
theorem dX6_isOverLimit_16 : decode cX6_isOverLimit 16 = .ok (.ireturn, 1) := by decide +kernel
theorem dX6_hasPages_0 : decode cX6_hasPages 0 = .ok (.aload_n 0, 1) := by decide +kernel
theorem dX6_hasPages_1 : decode cX6_hasPages 1 = .ok (.getfield 9, 3) := by decide +kernel
theorem dX6_hasPages_4 : decode cX6_hasPages 4 = .ok (.iload_n 1, 1) := by decide +kernel
theorem dX6_hasPages_5 : decode cX6_hasPages 5 = .ok (.iaload, 1) := by decide +kernel
theorem dX6_hasPages_6 : decode cX6_hasPages 6 = .ok (.ifCond .eq 17, 3) := by decide +kernel
theorem dX6_hasPages_9 : decode cX6_hasPages 9 = .ok (.aload_n 0, 1) := by decide +kernel
theorem dX6_hasPages_10 : decode cX6_hasPages 10 = .ok (.getfield 9, 3) := by decide +kernel
theorem dX6_hasPages_13 : decode cX6_hasPages 13 = .ok (.iload_n 1, 1) := by decide +kernel
theorem dX6_hasPages_14 : decode cX6_hasPages 14 = .ok (.iaload, 1) := by decide +kernel
theorem dX6_hasPages_15 : decode cX6_hasPages 15 = .ok (.iconst 5, 1) := by decide +kernel
theorem dX6_hasPages_16 : decode cX6_hasPages 16 = .ok (.if_icmp .eq 7, 3) := by decide +kernel
theorem dX6_hasPages_19 : decode cX6_hasPages 19 = .ok (.iconst 1, 1) := by decide +kernel
theorem dX6_hasPages_20 : decode cX6_hasPages 20 = .ok (.goto 4, 3) := by decide +kernel
theorem dX6_hasPages_23 : decode cX6_hasPages 23 = .ok (.iconst 0, 1) := by decide +kernel
theorem dX6_hasPages_24 : decode cX6_hasPages 24 = .ok (.ireturn, 1) := by decide +kernel
theorem dX6_pagesWhenShown_0 : decode cX6_pagesWhenShown 0 = .ok (.aload_n 0, 1) := by decide +kernel
theorem dX6_pagesWhenShown_1 : decode cX6_pagesWhenShown 1 = .ok (.iload_n 1, 1) := by decide +kernel
theorem dX6_pagesWhenShown_2 : decode cX6_pagesWhenShown 2 = .ok (.invokevirtual 67, 3) := by decide +kernel
theorem dX6_pagesWhenShown_5 : decode cX6_pagesWhenShown 5 = .ok (.ifCond .eq 12, 3) := by decide +kernel
theorem dX6_pagesWhenShown_8 : decode cX6_pagesWhenShown 8 = .ok (.aload_n 0, 1) := by decide +kernel
theorem dX6_pagesWhenShown_9 : decode cX6_pagesWhenShown 9 = .ok (.getfield 15, 3) := by decide +kernel
theorem dX6_pagesWhenShown_12 : decode cX6_pagesWhenShown 12 = .ok (.iload_n 1, 1) := by decide +kernel
theorem dX6_pagesWhenShown_13 : decode cX6_pagesWhenShown 13 = .ok (.iaload, 1) := by decide +kernel
theorem dX6_pagesWhenShown_14 : decode cX6_pagesWhenShown 14 = .ok (.goto 14, 3) := by decide +kernel
theorem dX6_pagesWhenShown_17 : decode cX6_pagesWhenShown 17 = .ok (.aload_n 0, 1) := by decide +kernel
theorem dX6_pagesWhenShown_18 : decode cX6_pagesWhenShown 18 = .ok (.getfield 29, 3) := by decide +kernel
theorem dX6_pagesWhenShown_21 : decode cX6_pagesWhenShown 21 = .ok (.getfield 55, 3) := by decide +kernel
theorem dX6_pagesWhenShown_24 : decode cX6_pagesWhenShown 24 = .ok (.iload_n 1, 1) := by decide +kernel
theorem dX6_pagesWhenShown_25 : decode cX6_pagesWhenShown 25 = .ok (.aaload, 1) := by decide +kernel
theorem dX6_pagesWhenShown_26 : decode cX6_pagesWhenShown 26 = .ok (.iconst 0, 1) := by decide +kernel
theorem dX6_pagesWhenShown_27 : decode cX6_pagesWhenShown 27 = .ok (.iaload, 1) := by decide +kernel
theorem dX6_pagesWhenShown_28 : decode cX6_pagesWhenShown 28 = .ok (.ireturn, 1) := by decide +kernel
theorem dX6_bringUp_0 : decode cX6_bringUp 0 = .ok (.aload_n 0, 1) := by decide +kernel
theorem dX6_bringUp_1 : decode cX6_bringUp 1 = .ok (.iload_n 1, 1) := by decide +kernel
theorem dX6_bringUp_2 : decode cX6_bringUp 2 = .ok (.invokevirtual 67, 3) := by decide +kernel
theorem dX6_bringUp_5 : decode cX6_bringUp 5 = .ok (.ifCond .ne 37, 3) := by decide +kernel
theorem dX6_bringUp_8 : decode cX6_bringUp 8 = .ok (.aload_n 0, 1) := by decide +kernel
theorem dX6_bringUp_9 : decode cX6_bringUp 9 = .ok (.getfield 15, 3) := by decide +kernel
theorem dX6_bringUp_12 : decode cX6_bringUp 12 = .ok (.iload_n 1, 1) := by decide +kernel
theorem dX6_bringUp_13 : decode cX6_bringUp 13 = .ok (.aload_n 0, 1) := by decide +kernel
theorem dX6_bringUp_14 : decode cX6_bringUp 14 = .ok (.getfield 29, 3) := by decide +kernel
theorem dX6_bringUp_17 : decode cX6_bringUp 17 = .ok (.getfield 55, 3) := by decide +kernel
theorem dX6_bringUp_20 : decode cX6_bringUp 20 = .ok (.iload_n 1, 1) := by decide +kernel
theorem dX6_bringUp_21 : decode cX6_bringUp 21 = .ok (.aaload, 1) := by decide +kernel
theorem dX6_bringUp_22 : decode cX6_bringUp 22 = .ok (.iconst 0, 1) := by decide +kernel
theorem dX6_bringUp_23 : decode cX6_bringUp 23 = .ok (.iaload, 1) := by decide +kernel
theorem dX6_bringUp_24 : decode cX6_bringUp 24 = .ok (.iastore, 1) := by decide +kernel
theorem dX6_bringUp_25 : decode cX6_bringUp 25 = .ok (.aload_n 0, 1) := by decide +kernel
theorem dX6_bringUp_26 : decode cX6_bringUp 26 = .ok (.getfield 18, 3) := by decide +kernel
theorem dX6_bringUp_29 : decode cX6_bringUp 29 = .ok (.iload_n 1, 1) := by decide +kernel
theorem dX6_bringUp_30 : decode cX6_bringUp 30 = .ok (.aload_n 0, 1) := by decide +kernel
theorem dX6_bringUp_31 : decode cX6_bringUp 31 = .ok (.getfield 29, 3) := by decide +kernel
theorem dX6_bringUp_34 : decode cX6_bringUp 34 = .ok (.getfield 55, 3) := by decide +kernel
theorem dX6_bringUp_37 : decode cX6_bringUp 37 = .ok (.iload_n 1, 1) := by decide +kernel
theorem dX6_bringUp_38 : decode cX6_bringUp 38 = .ok (.aaload, 1) := by decide +kernel
theorem dX6_bringUp_39 : decode cX6_bringUp 39 = .ok (.iconst 1, 1) := by decide +kernel
theorem dX6_bringUp_40 : decode cX6_bringUp 40 = .ok (.iaload, 1) := by decide +kernel
theorem dX6_bringUp_41 : decode cX6_bringUp 41 = .ok (.iastore, 1) := by decide +kernel
theorem dX6_bringUp_42 : decode cX6_bringUp 42 = .ok (.aload_n 0, 1) := by decide +kernel
theorem dX6_bringUp_43 : decode cX6_bringUp 43 = .ok (.getfield 9, 3) := by decide +kernel
theorem dX6_bringUp_46 : decode cX6_bringUp 46 = .ok (.iload_n 1, 1) := by decide +kernel
theorem dX6_bringUp_47 : decode cX6_bringUp 47 = .ok (.iconst 1, 1) := by decide +kernel
theorem dX6_bringUp_48 : decode cX6_bringUp 48 = .ok (.iastore, 1) := by decide +kernel
theorem dX6_bringUp_49 : decode cX6_bringUp 49 = .ok (.return_, 1) := by decide +kernel
theorem dX6_canHave_0 : decode cX6_canHave 0 = .ok (.iload_n 1, 1) := by decide +kernel
theorem dX6_canHave_1 : decode cX6_canHave 1 = .ok (.tableswitch 199 1 6 #[39, 74, 99, 124, 149, 174], 39) := by decide +kernel
theorem dX6_canHave_40 : decode cX6_canHave 40 = .ok (.aload_n 0, 1) := by decide +kernel
theorem dX6_canHave_41 : decode cX6_canHave 41 = .ok (.getfield 9, 3) := by decide +kernel
theorem dX6_canHave_44 : decode cX6_canHave 44 = .ok (.iload_n 2, 1) := by decide +kernel
theorem dX6_canHave_45 : decode cX6_canHave 45 = .ok (.iaload, 1) := by decide +kernel
theorem dX6_canHave_46 : decode cX6_canHave 46 = .ok (.iconst 2, 1) := by decide +kernel
theorem dX6_canHave_47 : decode cX6_canHave 47 = .ok (.if_icmp .eq 13, 3) := by decide +kernel
theorem dX6_canHave_50 : decode cX6_canHave 50 = .ok (.aload_n 0, 1) := by decide +kernel
theorem dX6_canHave_51 : decode cX6_canHave 51 = .ok (.getfield 9, 3) := by decide +kernel
theorem dX6_canHave_54 : decode cX6_canHave 54 = .ok (.iload_n 2, 1) := by decide +kernel
theorem dX6_canHave_55 : decode cX6_canHave 55 = .ok (.iaload, 1) := by decide +kernel
theorem dX6_canHave_56 : decode cX6_canHave 56 = .ok (.iconst 3, 1) := by decide +kernel
theorem dX6_canHave_57 : decode cX6_canHave 57 = .ok (.if_icmp .ne 16, 3) := by decide +kernel
theorem dX6_canHave_60 : decode cX6_canHave 60 = .ok (.aload_n 0, 1) := by decide +kernel
theorem dX6_canHave_61 : decode cX6_canHave 61 = .ok (.getfield 18, 3) := by decide +kernel
theorem dX6_canHave_64 : decode cX6_canHave 64 = .ok (.iload_n 2, 1) := by decide +kernel
theorem dX6_canHave_65 : decode cX6_canHave 65 = .ok (.iaload, 1) := by decide +kernel
theorem dX6_canHave_66 : decode cX6_canHave 66 = .ok (.ifCond .le 7, 3) := by decide +kernel
theorem dX6_canHave_69 : decode cX6_canHave 69 = .ok (.iconst 1, 1) := by decide +kernel
theorem dX6_canHave_70 : decode cX6_canHave 70 = .ok (.goto 4, 3) := by decide +kernel
theorem dX6_canHave_73 : decode cX6_canHave 73 = .ok (.iconst 0, 1) := by decide +kernel
theorem dX6_canHave_74 : decode cX6_canHave 74 = .ok (.ireturn, 1) := by decide +kernel
theorem dX6_canHave_75 : decode cX6_canHave 75 = .ok (.aload_n 0, 1) := by decide +kernel
theorem dX6_canHave_76 : decode cX6_canHave 76 = .ok (.getfield 9, 3) := by decide +kernel
theorem dX6_canHave_79 : decode cX6_canHave 79 = .ok (.iload_n 2, 1) := by decide +kernel
theorem dX6_canHave_80 : decode cX6_canHave 80 = .ok (.iaload, 1) := by decide +kernel
theorem dX6_canHave_81 : decode cX6_canHave 81 = .ok (.iconst 3, 1) := by decide +kernel
theorem dX6_canHave_82 : decode cX6_canHave 82 = .ok (.if_icmp .ne 16, 3) := by decide +kernel
theorem dX6_canHave_85 : decode cX6_canHave 85 = .ok (.aload_n 0, 1) := by decide +kernel
theorem dX6_canHave_86 : decode cX6_canHave 86 = .ok (.getfield 21, 3) := by decide +kernel
theorem dX6_canHave_89 : decode cX6_canHave 89 = .ok (.iload_n 2, 1) := by decide +kernel
theorem dX6_canHave_90 : decode cX6_canHave 90 = .ok (.baload, 1) := by decide +kernel
theorem dX6_canHave_91 : decode cX6_canHave 91 = .ok (.ifCond .ne 7, 3) := by decide +kernel
theorem dX6_canHave_94 : decode cX6_canHave 94 = .ok (.iconst 1, 1) := by decide +kernel
theorem dX6_canHave_95 : decode cX6_canHave 95 = .ok (.goto 4, 3) := by decide +kernel
theorem dX6_canHave_98 : decode cX6_canHave 98 = .ok (.iconst 0, 1) := by decide +kernel
theorem dX6_canHave_99 : decode cX6_canHave 99 = .ok (.ireturn, 1) := by decide +kernel
theorem dX6_canHave_100 : decode cX6_canHave 100 = .ok (.aload_n 0, 1) := by decide +kernel
theorem dX6_canHave_101 : decode cX6_canHave 101 = .ok (.getfield 9, 3) := by decide +kernel
theorem dX6_canHave_104 : decode cX6_canHave 104 = .ok (.iload_n 2, 1) := by decide +kernel
theorem dX6_canHave_105 : decode cX6_canHave 105 = .ok (.iaload, 1) := by decide +kernel
theorem dX6_canHave_106 : decode cX6_canHave 106 = .ok (.iconst 2, 1) := by decide +kernel
theorem dX6_canHave_107 : decode cX6_canHave 107 = .ok (.if_icmp .ne 16, 3) := by decide +kernel
theorem dX6_canHave_110 : decode cX6_canHave 110 = .ok (.aload_n 0, 1) := by decide +kernel
theorem dX6_canHave_111 : decode cX6_canHave 111 = .ok (.getfield 21, 3) := by decide +kernel
theorem dX6_canHave_114 : decode cX6_canHave 114 = .ok (.iload_n 2, 1) := by decide +kernel
theorem dX6_canHave_115 : decode cX6_canHave 115 = .ok (.baload, 1) := by decide +kernel
theorem dX6_canHave_116 : decode cX6_canHave 116 = .ok (.ifCond .ne 7, 3) := by decide +kernel
theorem dX6_canHave_119 : decode cX6_canHave 119 = .ok (.iconst 1, 1) := by decide +kernel
theorem dX6_canHave_120 : decode cX6_canHave 120 = .ok (.goto 4, 3) := by decide +kernel
theorem dX6_canHave_123 : decode cX6_canHave 123 = .ok (.iconst 0, 1) := by decide +kernel
theorem dX6_canHave_124 : decode cX6_canHave 124 = .ok (.ireturn, 1) := by decide +kernel
theorem dX6_canHave_125 : decode cX6_canHave 125 = .ok (.aload_n 0, 1) := by decide +kernel
theorem dX6_canHave_126 : decode cX6_canHave 126 = .ok (.getfield 9, 3) := by decide +kernel
theorem dX6_canHave_129 : decode cX6_canHave 129 = .ok (.iload_n 2, 1) := by decide +kernel
theorem dX6_canHave_130 : decode cX6_canHave 130 = .ok (.iaload, 1) := by decide +kernel
theorem dX6_canHave_131 : decode cX6_canHave 131 = .ok (.iconst 4, 1) := by decide +kernel
theorem dX6_canHave_132 : decode cX6_canHave 132 = .ok (.if_icmp .ne 16, 3) := by decide +kernel
theorem dX6_canHave_135 : decode cX6_canHave 135 = .ok (.aload_n 0, 1) := by decide +kernel
theorem dX6_canHave_136 : decode cX6_canHave 136 = .ok (.getfield 21, 3) := by decide +kernel
theorem dX6_canHave_139 : decode cX6_canHave 139 = .ok (.iload_n 2, 1) := by decide +kernel
theorem dX6_canHave_140 : decode cX6_canHave 140 = .ok (.baload, 1) := by decide +kernel
theorem dX6_canHave_141 : decode cX6_canHave 141 = .ok (.ifCond .ne 7, 3) := by decide +kernel
theorem dX6_canHave_144 : decode cX6_canHave 144 = .ok (.iconst 1, 1) := by decide +kernel
theorem dX6_canHave_145 : decode cX6_canHave 145 = .ok (.goto 4, 3) := by decide +kernel
theorem dX6_canHave_148 : decode cX6_canHave 148 = .ok (.iconst 0, 1) := by decide +kernel
theorem dX6_canHave_149 : decode cX6_canHave 149 = .ok (.ireturn, 1) := by decide +kernel
theorem dX6_canHave_150 : decode cX6_canHave 150 = .ok (.aload_n 0, 1) := by decide +kernel
theorem dX6_canHave_151 : decode cX6_canHave 151 = .ok (.getfield 9, 3) := by decide +kernel
theorem dX6_canHave_154 : decode cX6_canHave 154 = .ok (.iload_n 2, 1) := by decide +kernel
theorem dX6_canHave_155 : decode cX6_canHave 155 = .ok (.iaload, 1) := by decide +kernel
theorem dX6_canHave_156 : decode cX6_canHave 156 = .ok (.iconst 5, 1) := by decide +kernel
theorem dX6_canHave_157 : decode cX6_canHave 157 = .ok (.if_icmp .ne 16, 3) := by decide +kernel
theorem dX6_canHave_160 : decode cX6_canHave 160 = .ok (.aload_n 0, 1) := by decide +kernel
theorem dX6_canHave_161 : decode cX6_canHave 161 = .ok (.getfield 21, 3) := by decide +kernel
theorem dX6_canHave_164 : decode cX6_canHave 164 = .ok (.iload_n 2, 1) := by decide +kernel
theorem dX6_canHave_165 : decode cX6_canHave 165 = .ok (.baload, 1) := by decide +kernel
theorem dX6_canHave_166 : decode cX6_canHave 166 = .ok (.ifCond .ne 7, 3) := by decide +kernel
theorem dX6_canHave_169 : decode cX6_canHave 169 = .ok (.iconst 1, 1) := by decide +kernel
theorem dX6_canHave_170 : decode cX6_canHave 170 = .ok (.goto 4, 3) := by decide +kernel
theorem dX6_canHave_173 : decode cX6_canHave 173 = .ok (.iconst 0, 1) := by decide +kernel
theorem dX6_canHave_174 : decode cX6_canHave 174 = .ok (.ireturn, 1) := by decide +kernel
theorem dX6_canHave_175 : decode cX6_canHave 175 = .ok (.aload_n 0, 1) := by decide +kernel
theorem dX6_canHave_176 : decode cX6_canHave 176 = .ok (.getfield 9, 3) := by decide +kernel
theorem dX6_canHave_179 : decode cX6_canHave 179 = .ok (.iload_n 2, 1) := by decide +kernel
theorem dX6_canHave_180 : decode cX6_canHave 180 = .ok (.iaload, 1) := by decide +kernel
theorem dX6_canHave_181 : decode cX6_canHave 181 = .ok (.iconst 1, 1) := by decide +kernel
theorem dX6_canHave_182 : decode cX6_canHave 182 = .ok (.if_icmp .ne 16, 3) := by decide +kernel
theorem dX6_canHave_185 : decode cX6_canHave 185 = .ok (.aload_n 0, 1) := by decide +kernel
theorem dX6_canHave_186 : decode cX6_canHave 186 = .ok (.getfield 18, 3) := by decide +kernel
theorem dX6_canHave_189 : decode cX6_canHave 189 = .ok (.iload_n 2, 1) := by decide +kernel
theorem dX6_canHave_190 : decode cX6_canHave 190 = .ok (.iaload, 1) := by decide +kernel
theorem dX6_canHave_191 : decode cX6_canHave 191 = .ok (.ifCond .le 7, 3) := by decide +kernel
theorem dX6_canHave_194 : decode cX6_canHave 194 = .ok (.iconst 1, 1) := by decide +kernel
theorem dX6_canHave_195 : decode cX6_canHave 195 = .ok (.goto 4, 3) := by decide +kernel
theorem dX6_canHave_198 : decode cX6_canHave 198 = .ok (.iconst 0, 1) := by decide +kernel
theorem dX6_canHave_199 : decode cX6_canHave 199 = .ok (.ireturn, 1) := by decide +kernel
theorem dX6_canHave_200 : decode cX6_canHave 200 = .ok (.iconst 0, 1) := by decide +kernel
theorem dX6_canHave_201 : decode cX6_canHave 201 = .ok (.ireturn, 1) := by decide +kernel
theorem dX6_doStep_0 : decode cX6_doStep 0 = .ok (.iload_n 1, 1) := by decide +kernel
theorem dX6_doStep_1 : decode cX6_doStep 1 = .ok (.tableswitch 103 1 6 #[39, 49, 66, 76, 93, 39], 39) := by decide +kernel
theorem dX6_doStep_40 : decode cX6_doStep 40 = .ok (.aload_n 0, 1) := by decide +kernel
theorem dX6_doStep_41 : decode cX6_doStep 41 = .ok (.getfield 18, 3) := by decide +kernel
theorem dX6_doStep_44 : decode cX6_doStep 44 = .ok (.iload_n 2, 1) := by decide +kernel
theorem dX6_doStep_45 : decode cX6_doStep 45 = .ok (.iconst 0, 1) := by decide +kernel
theorem dX6_doStep_46 : decode cX6_doStep 46 = .ok (.iastore, 1) := by decide +kernel
theorem dX6_doStep_47 : decode cX6_doStep 47 = .ok (.goto 57, 3) := by decide +kernel
theorem dX6_doStep_50 : decode cX6_doStep 50 = .ok (.aload_n 0, 1) := by decide +kernel
theorem dX6_doStep_51 : decode cX6_doStep 51 = .ok (.getfield 18, 3) := by decide +kernel
theorem dX6_doStep_54 : decode cX6_doStep 54 = .ok (.iload_n 2, 1) := by decide +kernel
theorem dX6_doStep_55 : decode cX6_doStep 55 = .ok (.iconst 0, 1) := by decide +kernel
theorem dX6_doStep_56 : decode cX6_doStep 56 = .ok (.iastore, 1) := by decide +kernel
theorem dX6_doStep_57 : decode cX6_doStep 57 = .ok (.aload_n 0, 1) := by decide +kernel
theorem dX6_doStep_58 : decode cX6_doStep 58 = .ok (.getfield 9, 3) := by decide +kernel
theorem dX6_doStep_61 : decode cX6_doStep 61 = .ok (.iload_n 2, 1) := by decide +kernel
theorem dX6_doStep_62 : decode cX6_doStep 62 = .ok (.iconst 4, 1) := by decide +kernel
theorem dX6_doStep_63 : decode cX6_doStep 63 = .ok (.iastore, 1) := by decide +kernel
theorem dX6_doStep_64 : decode cX6_doStep 64 = .ok (.goto 40, 3) := by decide +kernel
theorem dX6_doStep_67 : decode cX6_doStep 67 = .ok (.aload_n 0, 1) := by decide +kernel
theorem dX6_doStep_68 : decode cX6_doStep 68 = .ok (.getfield 9, 3) := by decide +kernel
theorem dX6_doStep_71 : decode cX6_doStep 71 = .ok (.iload_n 2, 1) := by decide +kernel
theorem dX6_doStep_72 : decode cX6_doStep 72 = .ok (.iconst 3, 1) := by decide +kernel
theorem dX6_doStep_73 : decode cX6_doStep 73 = .ok (.iastore, 1) := by decide +kernel
theorem dX6_doStep_74 : decode cX6_doStep 74 = .ok (.goto 30, 3) := by decide +kernel
theorem dX6_doStep_77 : decode cX6_doStep 77 = .ok (.aload_n 0, 1) := by decide +kernel
theorem dX6_doStep_78 : decode cX6_doStep 78 = .ok (.getfield 15, 3) := by decide +kernel
theorem dX6_doStep_81 : decode cX6_doStep 81 = .ok (.iload_n 2, 1) := by decide +kernel
theorem dX6_doStep_82 : decode cX6_doStep 82 = .ok (.iconst 0, 1) := by decide +kernel
theorem dX6_doStep_83 : decode cX6_doStep 83 = .ok (.iastore, 1) := by decide +kernel
theorem dX6_doStep_84 : decode cX6_doStep 84 = .ok (.aload_n 0, 1) := by decide +kernel
theorem dX6_doStep_85 : decode cX6_doStep 85 = .ok (.getfield 9, 3) := by decide +kernel
theorem dX6_doStep_88 : decode cX6_doStep 88 = .ok (.iload_n 2, 1) := by decide +kernel
theorem dX6_doStep_89 : decode cX6_doStep 89 = .ok (.iconst 5, 1) := by decide +kernel
theorem dX6_doStep_90 : decode cX6_doStep 90 = .ok (.iastore, 1) := by decide +kernel
theorem dX6_doStep_91 : decode cX6_doStep 91 = .ok (.goto 13, 3) := by decide +kernel
theorem dX6_doStep_94 : decode cX6_doStep 94 = .ok (.aload_n 0, 1) := by decide +kernel
theorem dX6_doStep_95 : decode cX6_doStep 95 = .ok (.getfield 9, 3) := by decide +kernel
theorem dX6_doStep_98 : decode cX6_doStep 98 = .ok (.iload_n 2, 1) := by decide +kernel
theorem dX6_doStep_99 : decode cX6_doStep 99 = .ok (.iconst 0, 1) := by decide +kernel
theorem dX6_doStep_100 : decode cX6_doStep 100 = .ok (.iastore, 1) := by decide +kernel
theorem dX6_doStep_101 : decode cX6_doStep 101 = .ok (.goto 3, 3) := by decide +kernel
theorem dX6_doStep_104 : decode cX6_doStep 104 = .ok (.return_, 1) := by decide +kernel
theorem dX6_empty_0 : decode cX6_empty 0 = .ok (.aload_n 0, 1) := by decide +kernel
theorem dX6_empty_1 : decode cX6_empty 1 = .ok (.getfield 15, 3) := by decide +kernel
theorem dX6_empty_4 : decode cX6_empty 4 = .ok (.iload_n 1, 1) := by decide +kernel
theorem dX6_empty_5 : decode cX6_empty 5 = .ok (.iconst 0, 1) := by decide +kernel
theorem dX6_empty_6 : decode cX6_empty 6 = .ok (.iastore, 1) := by decide +kernel
theorem dX6_empty_7 : decode cX6_empty 7 = .ok (.aload_n 0, 1) := by decide +kernel
theorem dX6_empty_8 : decode cX6_empty 8 = .ok (.getfield 18, 3) := by decide +kernel
theorem dX6_empty_11 : decode cX6_empty 11 = .ok (.iload_n 1, 1) := by decide +kernel
theorem dX6_empty_12 : decode cX6_empty 12 = .ok (.iconst 0, 1) := by decide +kernel
theorem dX6_empty_13 : decode cX6_empty 13 = .ok (.iastore, 1) := by decide +kernel
theorem dX6_empty_14 : decode cX6_empty 14 = .ok (.aload_n 0, 1) := by decide +kernel
theorem dX6_empty_15 : decode cX6_empty 15 = .ok (.getfield 9, 3) := by decide +kernel
theorem dX6_empty_18 : decode cX6_empty 18 = .ok (.iload_n 1, 1) := by decide +kernel
theorem dX6_empty_19 : decode cX6_empty 19 = .ok (.iconst 0, 1) := by decide +kernel
theorem dX6_empty_20 : decode cX6_empty 20 = .ok (.iastore, 1) := by decide +kernel
theorem dX6_empty_21 : decode cX6_empty 21 = .ok (.return_, 1) := by decide +kernel
theorem dX7_init_0 : decode cX7_init 0 = .ok (.aload_n 0, 1) := by decide +kernel
theorem dX7_init_1 : decode cX7_init 1 = .ok (.invokespecial 3, 3) := by decide +kernel
theorem dX7_init_4 : decode cX7_init 4 = .ok (.aload_n 0, 1) := by decide +kernel
theorem dX7_init_5 : decode cX7_init 5 = .ok (.new 9, 3) := by decide +kernel
theorem dX7_init_8 : decode cX7_init 8 = .ok (.dup, 1) := by decide +kernel
theorem dX7_init_9 : decode cX7_init 9 = .ok (.new 11, 3) := by decide +kernel
theorem dX7_init_12 : decode cX7_init 12 = .ok (.dup, 1) := by decide +kernel
theorem dX7_init_13 : decode cX7_init 13 = .ok (.invokespecial 13, 3) := by decide +kernel
theorem dX7_init_16 : decode cX7_init 16 = .ok (.invokespecial 14, 3) := by decide +kernel
theorem dX7_init_19 : decode cX7_init 19 = .ok (.putfield 17, 3) := by decide +kernel
theorem dX7_init_22 : decode cX7_init 22 = .ok (.aload_n 0, 1) := by decide +kernel
theorem dX7_init_23 : decode cX7_init 23 = .ok (.bipush 10, 2) := by decide +kernel
theorem dX7_init_25 : decode cX7_init 25 = .ok (.newarray .int, 2) := by decide +kernel
theorem dX7_init_27 : decode cX7_init 27 = .ok (.putfield 23, 3) := by decide +kernel
theorem dX7_init_30 : decode cX7_init 30 = .ok (.aload_n 0, 1) := by decide +kernel
theorem dX7_init_31 : decode cX7_init 31 = .ok (.bipush 10, 2) := by decide +kernel
theorem dX7_init_33 : decode cX7_init 33 = .ok (.newarray .boolean, 2) := by decide +kernel
theorem dX7_init_35 : decode cX7_init 35 = .ok (.putfield 27, 3) := by decide +kernel
theorem dX7_init_38 : decode cX7_init 38 = .ok (.aload_n 0, 1) := by decide +kernel
theorem dX7_init_39 : decode cX7_init 39 = .ok (.iconst 0, 1) := by decide +kernel
theorem dX7_init_40 : decode cX7_init 40 = .ok (.putfield 31, 3) := by decide +kernel
theorem dX7_init_43 : decode cX7_init 43 = .ok (.aload_n 0, 1) := by decide +kernel
theorem dX7_init_44 : decode cX7_init 44 = .ok (.iconst 0, 1) := by decide +kernel
theorem dX7_init_45 : decode cX7_init 45 = .ok (.putfield 35, 3) := by decide +kernel
theorem dX7_init_48 : decode cX7_init 48 = .ok (.aload_n 0, 1) := by decide +kernel
theorem dX7_init_49 : decode cX7_init 49 = .ok (.bipush 50, 2) := by decide +kernel
theorem dX7_init_51 : decode cX7_init 51 = .ok (.newarray .int, 2) := by decide +kernel
theorem dX7_init_53 : decode cX7_init 53 = .ok (.putfield 39, 3) := by decide +kernel
theorem dX7_init_56 : decode cX7_init 56 = .ok (.aload_n 0, 1) := by decide +kernel
theorem dX7_init_57 : decode cX7_init 57 = .ok (.bipush 50, 2) := by decide +kernel
theorem dX7_init_59 : decode cX7_init 59 = .ok (.newarray .int, 2) := by decide +kernel
theorem dX7_init_61 : decode cX7_init 61 = .ok (.putfield 42, 3) := by decide +kernel
theorem dX7_init_64 : decode cX7_init 64 = .ok (.return_, 1) := by decide +kernel
theorem dX7_victimOf_0 : decode cX7_victimOf 0 = .ok (.iconst (-1), 1) := by decide +kernel
theorem dX7_victimOf_1 : decode cX7_victimOf 1 = .ok (.istore_n 2, 1) := by decide +kernel
theorem dX7_victimOf_2 : decode cX7_victimOf 2 = .ok (.iconst 0, 1) := by decide +kernel
theorem dX7_victimOf_3 : decode cX7_victimOf 3 = .ok (.istore_n 3, 1) := by decide +kernel
theorem dX7_victimOf_4 : decode cX7_victimOf 4 = .ok (.iload_n 3, 1) := by decide +kernel
theorem dX7_victimOf_5 : decode cX7_victimOf 5 = .ok (.aload_n 0, 1) := by decide +kernel
theorem dX7_victimOf_6 : decode cX7_victimOf 6 = .ok (.getfield 17, 3) := by decide +kernel
theorem dX7_victimOf_9 : decode cX7_victimOf 9 = .ok (.invokevirtual 45, 3) := by decide +kernel
theorem dX7_victimOf_12 : decode cX7_victimOf 12 = .ok (.if_icmp .ge 37, 3) := by decide +kernel
theorem dX7_victimOf_15 : decode cX7_victimOf 15 = .ok (.aload_n 0, 1) := by decide +kernel
theorem dX7_victimOf_16 : decode cX7_victimOf 16 = .ok (.getfield 17, 3) := by decide +kernel
theorem dX7_victimOf_19 : decode cX7_victimOf 19 = .ok (.iload_n 1, 1) := by decide +kernel
theorem dX7_victimOf_20 : decode cX7_victimOf 20 = .ok (.iload_n 3, 1) := by decide +kernel
theorem dX7_victimOf_21 : decode cX7_victimOf 21 = .ok (.invokevirtual 49, 3) := by decide +kernel
theorem dX7_victimOf_24 : decode cX7_victimOf 24 = .ok (.ifCond .eq 19, 3) := by decide +kernel
theorem dX7_victimOf_27 : decode cX7_victimOf 27 = .ok (.iload_n 2, 1) := by decide +kernel
theorem dX7_victimOf_28 : decode cX7_victimOf 28 = .ok (.ifCond .lt 13, 3) := by decide +kernel
theorem dX7_victimOf_31 : decode cX7_victimOf 31 = .ok (.aload_n 0, 1) := by decide +kernel
theorem dX7_victimOf_32 : decode cX7_victimOf 32 = .ok (.iload_n 3, 1) := by decide +kernel
theorem dX7_victimOf_33 : decode cX7_victimOf 33 = .ok (.iload_n 2, 1) := by decide +kernel
theorem dX7_victimOf_34 : decode cX7_victimOf 34 = .ok (.iload_n 1, 1) := by decide +kernel
theorem dX7_victimOf_35 : decode cX7_victimOf 35 = .ok (.invokevirtual 53, 3) := by decide +kernel
theorem dX7_victimOf_38 : decode cX7_victimOf 38 = .ok (.ifCond .eq 5, 3) := by decide +kernel
theorem dX7_victimOf_41 : decode cX7_victimOf 41 = .ok (.iload_n 3, 1) := by decide +kernel
theorem dX7_victimOf_42 : decode cX7_victimOf 42 = .ok (.istore_n 2, 1) := by decide +kernel
theorem dX7_victimOf_43 : decode cX7_victimOf 43 = .ok (.iinc 3 1, 3) := by decide +kernel
theorem dX7_victimOf_46 : decode cX7_victimOf 46 = .ok (.goto (-42), 3) := by decide +kernel
theorem dX7_victimOf_49 : decode cX7_victimOf 49 = .ok (.iload_n 2, 1) := by decide +kernel
theorem dX7_victimOf_50 : decode cX7_victimOf 50 = .ok (.ireturn, 1) := by decide +kernel
theorem dX7_comesBefore_0 : decode cX7_comesBefore 0 = .ok (.iload_n 3, 1) := by decide +kernel
theorem dX7_comesBefore_1 : decode cX7_comesBefore 1 = .ok (.iconst 4, 1) := by decide +kernel
theorem dX7_comesBefore_2 : decode cX7_comesBefore 2 = .ok (.if_icmp .eq 8, 3) := by decide +kernel
theorem dX7_comesBefore_5 : decode cX7_comesBefore 5 = .ok (.iload_n 3, 1) := by decide +kernel
theorem dX7_comesBefore_6 : decode cX7_comesBefore 6 = .ok (.iconst 5, 1) := by decide +kernel
theorem dX7_comesBefore_7 : decode cX7_comesBefore 7 = .ok (.if_icmp .ne 25, 3) := by decide +kernel
theorem dX7_comesBefore_10 : decode cX7_comesBefore 10 = .ok (.aload_n 0, 1) := by decide +kernel
theorem dX7_comesBefore_11 : decode cX7_comesBefore 11 = .ok (.getfield 27, 3) := by decide +kernel
theorem dX7_comesBefore_14 : decode cX7_comesBefore 14 = .ok (.iload_n 1, 1) := by decide +kernel
theorem dX7_comesBefore_15 : decode cX7_comesBefore 15 = .ok (.baload, 1) := by decide +kernel
theorem dX7_comesBefore_16 : decode cX7_comesBefore 16 = .ok (.aload_n 0, 1) := by decide +kernel
theorem dX7_comesBefore_17 : decode cX7_comesBefore 17 = .ok (.getfield 27, 3) := by decide +kernel
theorem dX7_comesBefore_20 : decode cX7_comesBefore 20 = .ok (.iload_n 2, 1) := by decide +kernel
theorem dX7_comesBefore_21 : decode cX7_comesBefore 21 = .ok (.baload, 1) := by decide +kernel
theorem dX7_comesBefore_22 : decode cX7_comesBefore 22 = .ok (.if_icmp .eq 10, 3) := by decide +kernel
theorem dX7_comesBefore_25 : decode cX7_comesBefore 25 = .ok (.aload_n 0, 1) := by decide +kernel
theorem dX7_comesBefore_26 : decode cX7_comesBefore 26 = .ok (.getfield 27, 3) := by decide +kernel
theorem dX7_comesBefore_29 : decode cX7_comesBefore 29 = .ok (.iload_n 2, 1) := by decide +kernel
theorem dX7_comesBefore_30 : decode cX7_comesBefore 30 = .ok (.baload, 1) := by decide +kernel
theorem dX7_comesBefore_31 : decode cX7_comesBefore 31 = .ok (.ireturn, 1) := by decide +kernel
theorem dX7_comesBefore_32 : decode cX7_comesBefore 32 = .ok (.aload_n 0, 1) := by decide +kernel
theorem dX7_comesBefore_33 : decode cX7_comesBefore 33 = .ok (.getfield 23, 3) := by decide +kernel
theorem dX7_comesBefore_36 : decode cX7_comesBefore 36 = .ok (.iload_n 1, 1) := by decide +kernel
theorem dX7_comesBefore_37 : decode cX7_comesBefore 37 = .ok (.iaload, 1) := by decide +kernel
theorem dX7_comesBefore_38 : decode cX7_comesBefore 38 = .ok (.aload_n 0, 1) := by decide +kernel
theorem dX7_comesBefore_39 : decode cX7_comesBefore 39 = .ok (.getfield 23, 3) := by decide +kernel
theorem dX7_comesBefore_42 : decode cX7_comesBefore 42 = .ok (.iload_n 2, 1) := by decide +kernel
theorem dX7_comesBefore_43 : decode cX7_comesBefore 43 = .ok (.iaload, 1) := by decide +kernel
theorem dX7_comesBefore_44 : decode cX7_comesBefore 44 = .ok (.if_icmp .le 7, 3) := by decide +kernel
theorem dX7_comesBefore_47 : decode cX7_comesBefore 47 = .ok (.iconst 1, 1) := by decide +kernel
theorem dX7_comesBefore_48 : decode cX7_comesBefore 48 = .ok (.goto 4, 3) := by decide +kernel
theorem dX7_comesBefore_51 : decode cX7_comesBefore 51 = .ok (.iconst 0, 1) := by decide +kernel
theorem dX7_comesBefore_52 : decode cX7_comesBefore 52 = .ok (.ireturn, 1) := by decide +kernel
theorem dX7_tryStep_0 : decode cX7_tryStep 0 = .ok (.aload_n 0, 1) := by decide +kernel
theorem dX7_tryStep_1 : decode cX7_tryStep 1 = .ok (.getfield 17, 3) := by decide +kernel
theorem dX7_tryStep_4 : decode cX7_tryStep 4 = .ok (.iload_n 2, 1) := by decide +kernel
theorem dX7_tryStep_5 : decode cX7_tryStep 5 = .ok (.invokevirtual 57, 3) := by decide +kernel
theorem dX7_tryStep_8 : decode cX7_tryStep 8 = .ok (.istore_n 3, 1) := by decide +kernel
theorem dX7_tryStep_9 : decode cX7_tryStep 9 = .ok (.aload_n 0, 1) := by decide +kernel
theorem dX7_tryStep_10 : decode cX7_tryStep 10 = .ok (.getfield 17, 3) := by decide +kernel
theorem dX7_tryStep_13 : decode cX7_tryStep 13 = .ok (.iload_n 1, 1) := by decide +kernel
theorem dX7_tryStep_14 : decode cX7_tryStep 14 = .ok (.iload_n 2, 1) := by decide +kernel
theorem dX7_tryStep_15 : decode cX7_tryStep 15 = .ok (.invokevirtual 61, 3) := by decide +kernel
theorem dX7_tryStep_18 : decode cX7_tryStep 18 = .ok (.aload_n 0, 1) := by decide +kernel
theorem dX7_tryStep_19 : decode cX7_tryStep 19 = .ok (.getfield 31, 3) := by decide +kernel
theorem dX7_tryStep_22 : decode cX7_tryStep 22 = .ok (.ifCond .eq 17, 3) := by decide +kernel
theorem dX7_tryStep_25 : decode cX7_tryStep 25 = .ok (.aload_n 0, 1) := by decide +kernel
theorem dX7_tryStep_26 : decode cX7_tryStep 26 = .ok (.getfield 23, 3) := by decide +kernel
theorem dX7_tryStep_29 : decode cX7_tryStep 29 = .ok (.iload_n 2, 1) := by decide +kernel
theorem dX7_tryStep_30 : decode cX7_tryStep 30 = .ok (.aload_n 0, 1) := by decide +kernel
theorem dX7_tryStep_31 : decode cX7_tryStep 31 = .ok (.getfield 17, 3) := by decide +kernel
theorem dX7_tryStep_34 : decode cX7_tryStep 34 = .ok (.iload_n 2, 1) := by decide +kernel
theorem dX7_tryStep_35 : decode cX7_tryStep 35 = .ok (.invokevirtual 57, 3) := by decide +kernel
theorem dX7_tryStep_38 : decode cX7_tryStep 38 = .ok (.iastore, 1) := by decide +kernel
theorem dX7_tryStep_39 : decode cX7_tryStep 39 = .ok (.iload_n 3, 1) := by decide +kernel
theorem dX7_tryStep_40 : decode cX7_tryStep 40 = .ok (.aload_n 0, 1) := by decide +kernel
theorem dX7_tryStep_41 : decode cX7_tryStep 41 = .ok (.getfield 17, 3) := by decide +kernel
theorem dX7_tryStep_44 : decode cX7_tryStep 44 = .ok (.iload_n 2, 1) := by decide +kernel
theorem dX7_tryStep_45 : decode cX7_tryStep 45 = .ok (.invokevirtual 57, 3) := by decide +kernel
theorem dX7_tryStep_48 : decode cX7_tryStep 48 = .ok (.isub, 1) := by decide +kernel
theorem dX7_tryStep_49 : decode cX7_tryStep 49 = .ok (.ireturn, 1) := by decide +kernel
theorem dX7_findSteps_0 : decode cX7_findSteps 0 = .ok (.aload_n 0, 1) := by decide +kernel
theorem dX7_findSteps_1 : decode cX7_findSteps 1 = .ok (.getfield 17, 3) := by decide +kernel
theorem dX7_findSteps_4 : decode cX7_findSteps 4 = .ok (.invokevirtual 65, 3) := by decide +kernel
theorem dX7_findSteps_7 : decode cX7_findSteps 7 = .ok (.istore_n 1, 1) := by decide +kernel
theorem dX7_findSteps_8 : decode cX7_findSteps 8 = .ok (.aload_n 0, 1) := by decide +kernel
theorem dX7_findSteps_9 : decode cX7_findSteps 9 = .ok (.iconst 0, 1) := by decide +kernel
theorem dX7_findSteps_10 : decode cX7_findSteps 10 = .ok (.putfield 35, 3) := by decide +kernel
theorem dX7_findSteps_13 : decode cX7_findSteps 13 = .ok (.aload_n 0, 1) := by decide +kernel
theorem dX7_findSteps_14 : decode cX7_findSteps 14 = .ok (.getfield 35, 3) := by decide +kernel
theorem dX7_findSteps_17 : decode cX7_findSteps 17 = .ok (.bipush 50, 2) := by decide +kernel
theorem dX7_findSteps_19 : decode cX7_findSteps 19 = .ok (.if_icmp .ge 94, 3) := by decide +kernel
theorem dX7_findSteps_22 : decode cX7_findSteps 22 = .ok (.iload_n 1, 1) := by decide +kernel
theorem dX7_findSteps_23 : decode cX7_findSteps 23 = .ok (.aload_n 0, 1) := by decide +kernel
theorem dX7_findSteps_24 : decode cX7_findSteps 24 = .ok (.getfield 17, 3) := by decide +kernel
theorem dX7_findSteps_27 : decode cX7_findSteps 27 = .ok (.getfield 68, 3) := by decide +kernel
theorem dX7_findSteps_30 : decode cX7_findSteps 30 = .ok (.if_icmp .le 83, 3) := by decide +kernel
theorem dX7_findSteps_33 : decode cX7_findSteps 33 = .ok (.iconst 1, 1) := by decide +kernel
theorem dX7_findSteps_34 : decode cX7_findSteps 34 = .ok (.istore_n 2, 1) := by decide +kernel
theorem dX7_findSteps_35 : decode cX7_findSteps 35 = .ok (.aload_n 0, 1) := by decide +kernel
theorem dX7_findSteps_36 : decode cX7_findSteps 36 = .ok (.iload_n 2, 1) := by decide +kernel
theorem dX7_findSteps_37 : decode cX7_findSteps 37 = .ok (.invokevirtual 71, 3) := by decide +kernel
theorem dX7_findSteps_40 : decode cX7_findSteps 40 = .ok (.istore_n 3, 1) := by decide +kernel
theorem dX7_findSteps_41 : decode cX7_findSteps 41 = .ok (.iload_n 3, 1) := by decide +kernel
theorem dX7_findSteps_42 : decode cX7_findSteps 42 = .ok (.iconst (-1), 1) := by decide +kernel
theorem dX7_findSteps_43 : decode cX7_findSteps 43 = .ok (.if_icmp .ne 21, 3) := by decide +kernel
theorem dX7_findSteps_46 : decode cX7_findSteps 46 = .ok (.iload_n 2, 1) := by decide +kernel
theorem dX7_findSteps_47 : decode cX7_findSteps 47 = .ok (.bipush 6, 2) := by decide +kernel
theorem dX7_findSteps_49 : decode cX7_findSteps 49 = .ok (.if_icmp .ge 15, 3) := by decide +kernel
theorem dX7_findSteps_52 : decode cX7_findSteps 52 = .ok (.iinc 2 1, 3) := by decide +kernel
theorem dX7_findSteps_55 : decode cX7_findSteps 55 = .ok (.aload_n 0, 1) := by decide +kernel
theorem dX7_findSteps_56 : decode cX7_findSteps 56 = .ok (.iload_n 2, 1) := by decide +kernel
theorem dX7_findSteps_57 : decode cX7_findSteps 57 = .ok (.invokevirtual 71, 3) := by decide +kernel
theorem dX7_findSteps_60 : decode cX7_findSteps 60 = .ok (.istore_n 3, 1) := by decide +kernel
theorem dX7_findSteps_61 : decode cX7_findSteps 61 = .ok (.goto (-20), 3) := by decide +kernel
theorem dX7_findSteps_64 : decode cX7_findSteps 64 = .ok (.iload_n 3, 1) := by decide +kernel
theorem dX7_findSteps_65 : decode cX7_findSteps 65 = .ok (.iconst (-1), 1) := by decide +kernel
theorem dX7_findSteps_66 : decode cX7_findSteps 66 = .ok (.if_icmp .ne 5, 3) := by decide +kernel
theorem dX7_findSteps_69 : decode cX7_findSteps 69 = .ok (.iconst 0, 1) := by decide +kernel
theorem dX7_findSteps_70 : decode cX7_findSteps 70 = .ok (.ireturn, 1) := by decide +kernel
theorem dX7_findSteps_71 : decode cX7_findSteps 71 = .ok (.aload_n 0, 1) := by decide +kernel
theorem dX7_findSteps_72 : decode cX7_findSteps 72 = .ok (.getfield 39, 3) := by decide +kernel
theorem dX7_findSteps_75 : decode cX7_findSteps 75 = .ok (.aload_n 0, 1) := by decide +kernel
theorem dX7_findSteps_76 : decode cX7_findSteps 76 = .ok (.getfield 35, 3) := by decide +kernel
theorem dX7_findSteps_79 : decode cX7_findSteps 79 = .ok (.iload_n 2, 1) := by decide +kernel
theorem dX7_findSteps_80 : decode cX7_findSteps 80 = .ok (.iastore, 1) := by decide +kernel
theorem dX7_findSteps_81 : decode cX7_findSteps 81 = .ok (.aload_n 0, 1) := by decide +kernel
theorem dX7_findSteps_82 : decode cX7_findSteps 82 = .ok (.getfield 42, 3) := by decide +kernel
theorem dX7_findSteps_85 : decode cX7_findSteps 85 = .ok (.aload_n 0, 1) := by decide +kernel
theorem dX7_findSteps_86 : decode cX7_findSteps 86 = .ok (.getfield 35, 3) := by decide +kernel
theorem dX7_findSteps_89 : decode cX7_findSteps 89 = .ok (.iload_n 3, 1) := by decide +kernel
theorem dX7_findSteps_90 : decode cX7_findSteps 90 = .ok (.iastore, 1) := by decide +kernel
theorem dX7_findSteps_91 : decode cX7_findSteps 91 = .ok (.iload_n 1, 1) := by decide +kernel
theorem dX7_findSteps_92 : decode cX7_findSteps 92 = .ok (.aload_n 0, 1) := by decide +kernel
theorem dX7_findSteps_93 : decode cX7_findSteps 93 = .ok (.iload_n 2, 1) := by decide +kernel
theorem dX7_findSteps_94 : decode cX7_findSteps 94 = .ok (.iload_n 3, 1) := by decide +kernel
theorem dX7_findSteps_95 : decode cX7_findSteps 95 = .ok (.invokevirtual 74, 3) := by decide +kernel
theorem dX7_findSteps_98 : decode cX7_findSteps 98 = .ok (.isub, 1) := by decide +kernel
theorem dX7_findSteps_99 : decode cX7_findSteps 99 = .ok (.istore_n 1, 1) := by decide +kernel
theorem dX7_findSteps_100 : decode cX7_findSteps 100 = .ok (.aload_n 0, 1) := by decide +kernel
theorem dX7_findSteps_101 : decode cX7_findSteps 101 = .ok (.dup, 1) := by decide +kernel
theorem dX7_findSteps_102 : decode cX7_findSteps 102 = .ok (.getfield 35, 3) := by decide +kernel
theorem dX7_findSteps_105 : decode cX7_findSteps 105 = .ok (.iconst 1, 1) := by decide +kernel
theorem dX7_findSteps_106 : decode cX7_findSteps 106 = .ok (.iadd, 1) := by decide +kernel
theorem dX7_findSteps_107 : decode cX7_findSteps 107 = .ok (.putfield 35, 3) := by decide +kernel
theorem dX7_findSteps_110 : decode cX7_findSteps 110 = .ok (.goto (-97), 3) := by decide +kernel
theorem dX7_findSteps_113 : decode cX7_findSteps 113 = .ok (.iload_n 1, 1) := by decide +kernel
theorem dX7_findSteps_114 : decode cX7_findSteps 114 = .ok (.aload_n 0, 1) := by decide +kernel
theorem dX7_findSteps_115 : decode cX7_findSteps 115 = .ok (.getfield 17, 3) := by decide +kernel
theorem dX7_findSteps_118 : decode cX7_findSteps 118 = .ok (.getfield 68, 3) := by decide +kernel
theorem dX7_findSteps_121 : decode cX7_findSteps 121 = .ok (.if_icmp .gt 7, 3) := by decide +kernel
theorem dX7_findSteps_124 : decode cX7_findSteps 124 = .ok (.iconst 1, 1) := by decide +kernel
theorem dX7_findSteps_125 : decode cX7_findSteps 125 = .ok (.goto 4, 3) := by decide +kernel
theorem dX7_findSteps_128 : decode cX7_findSteps 128 = .ok (.iconst 0, 1) := by decide +kernel
theorem dX7_findSteps_129 : decode cX7_findSteps 129 = .ok (.ireturn, 1) := by decide +kernel
