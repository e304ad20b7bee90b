theorem dX0_init_0 : decode cX0_init 0 = .ok (.aload_n 0, 1) := by decide +kernel
theorem dX0_init_1 : decode cX0_init 1 = .ok (.invokespecial 3, 3) := by decide +kernel
theorem dX0_init_4 : decode cX0_init 4 = .ok (.aload_n 0, 1) := by decide +kernel
theorem dX0_init_5 : decode cX0_init 5 = .ok (.bipush 10, 2) := by decide +kernel
theorem dX0_init_7 : decode cX0_init 7 = .ok (.newarray .long, 2) := by decide +kernel
theorem dX0_init_9 : decode cX0_init 9 = .ok (.putfield 9, 3) := by decide +kernel
theorem dX0_init_12 : decode cX0_init 12 = .ok (.aload_n 0, 1) := by decide +kernel
theorem dX0_init_13 : decode cX0_init 13 = .ok (.bipush 10, 2) := by decide +kernel
theorem dX0_init_15 : decode cX0_init 15 = .ok (.bipush 8, 2) := by decide +kernel
theorem dX0_init_17 : decode cX0_init 17 = .ok (.multianewarray 15 2, 4) := by decide +kernel
theorem dX0_init_21 : decode cX0_init 21 = .ok (.putfield 17, 3) := by decide +kernel
theorem dX0_init_24 : decode cX0_init 24 = .ok (.aload_n 0, 1) := by decide +kernel
theorem dX0_init_25 : decode cX0_init 25 = .ok (.invokevirtual 20, 3) := by decide +kernel
theorem dX0_init_28 : decode cX0_init 28 = .ok (.return_, 1) := by decide +kernel
theorem dX0_begin_0 : decode cX0_begin 0 = .ok (.aload_n 0, 1) := by decide +kernel
theorem dX0_begin_1 : decode cX0_begin 1 = .ok (.bipush 100, 2) := by decide +kernel
theorem dX0_begin_3 : decode cX0_begin 3 = .ok (.putfield 23, 3) := by decide +kernel
theorem dX0_begin_6 : decode cX0_begin 6 = .ok (.aload_n 0, 1) := by decide +kernel
theorem dX0_begin_7 : decode cX0_begin 7 = .ok (.iconst 0, 1) := by decide +kernel
theorem dX0_begin_8 : decode cX0_begin 8 = .ok (.putfield 27, 3) := by decide +kernel
theorem dX0_begin_11 : decode cX0_begin 11 = .ok (.aload_n 0, 1) := by decide +kernel
theorem dX0_begin_12 : decode cX0_begin 12 = .ok (.bipush 10, 2) := by decide +kernel
theorem dX0_begin_14 : decode cX0_begin 14 = .ok (.putfield 30, 3) := by decide +kernel
theorem dX0_begin_17 : decode cX0_begin 17 = .ok (.aload_n 0, 1) := by decide +kernel
theorem dX0_begin_18 : decode cX0_begin 18 = .ok (.iconst 2, 1) := by decide +kernel
theorem dX0_begin_19 : decode cX0_begin 19 = .ok (.putfield 33, 3) := by decide +kernel
theorem dX0_begin_22 : decode cX0_begin 22 = .ok (.aload_n 0, 1) := by decide +kernel
theorem dX0_begin_23 : decode cX0_begin 23 = .ok (.iconst 5, 1) := by decide +kernel
theorem dX0_begin_24 : decode cX0_begin 24 = .ok (.putfield 36, 3) := by decide +kernel
theorem dX0_begin_27 : decode cX0_begin 27 = .ok (.aload_n 0, 1) := by decide +kernel
theorem dX0_begin_28 : decode cX0_begin 28 = .ok (.bipush 20, 2) := by decide +kernel
theorem dX0_begin_30 : decode cX0_begin 30 = .ok (.putfield 39, 3) := by decide +kernel
theorem dX0_begin_33 : decode cX0_begin 33 = .ok (.aload_n 0, 1) := by decide +kernel
theorem dX0_begin_34 : decode cX0_begin 34 = .ok (.iconst 0, 1) := by decide +kernel
theorem dX0_begin_35 : decode cX0_begin 35 = .ok (.putfield 42, 3) := by decide +kernel
theorem dX0_begin_38 : decode cX0_begin 38 = .ok (.return_, 1) := by decide +kernel
theorem dX0_withName_0 : decode cX0_withName 0 = .ok (.iconst 0, 1) := by decide +kernel
theorem dX0_withName_1 : decode cX0_withName 1 = .ok (.istore_n 3, 1) := by decide +kernel
theorem dX0_withName_2 : decode cX0_withName 2 = .ok (.iload_n 3, 1) := by decide +kernel
theorem dX0_withName_3 : decode cX0_withName 3 = .ok (.aload_n 0, 1) := by decide +kernel
theorem dX0_withName_4 : decode cX0_withName 4 = .ok (.getfield 42, 3) := by decide +kernel
theorem dX0_withName_7 : decode cX0_withName 7 = .ok (.if_icmp .ge 22, 3) := by decide +kernel
theorem dX0_withName_10 : decode cX0_withName 10 = .ok (.aload_n 0, 1) := by decide +kernel
theorem dX0_withName_11 : decode cX0_withName 11 = .ok (.getfield 9, 3) := by decide +kernel
theorem dX0_withName_14 : decode cX0_withName 14 = .ok (.iload_n 3, 1) := by decide +kernel
theorem dX0_withName_15 : decode cX0_withName 15 = .ok (.laload, 1) := by decide +kernel
theorem dX0_withName_16 : decode cX0_withName 16 = .ok (.lload_n 1, 1) := by decide +kernel
theorem dX0_withName_17 : decode cX0_withName 17 = .ok (.lcmp, 1) := by decide +kernel
theorem dX0_withName_18 : decode cX0_withName 18 = .ok (.ifCond .ne 5, 3) := by decide +kernel
theorem dX0_withName_21 : decode cX0_withName 21 = .ok (.iload_n 3, 1) := by decide +kernel
theorem dX0_withName_22 : decode cX0_withName 22 = .ok (.ireturn, 1) := by decide +kernel
theorem dX0_withName_23 : decode cX0_withName 23 = .ok (.iinc 3 1, 3) := by decide +kernel
theorem dX0_withName_26 : decode cX0_withName 26 = .ok (.goto (-24), 3) := by decide +kernel
theorem dX0_withName_29 : decode cX0_withName 29 = .ok (.iconst (-1), 1) := by decide +kernel
theorem dX0_withName_30 : decode cX0_withName 30 = .ok (.ireturn, 1) := by decide +kernel
theorem dX1_init_0 : decode cX1_init 0 = .ok (.aload_n 0, 1) := by decide +kernel
theorem dX1_init_1 : decode cX1_init 1 = .ok (.invokespecial 3, 3) := by decide +kernel
theorem dX1_init_4 : decode cX1_init 4 = .ok (.aload_n 0, 1) := by decide +kernel
theorem dX1_init_5 : decode cX1_init 5 = .ok (.bipush 10, 2) := by decide +kernel
theorem dX1_init_7 : decode cX1_init 7 = .ok (.newarray .int, 2) := by decide +kernel
theorem dX1_init_9 : decode cX1_init 9 = .ok (.putfield 9, 3) := by decide +kernel
theorem dX1_init_12 : decode cX1_init 12 = .ok (.aload_n 0, 1) := by decide +kernel
theorem dX1_init_13 : decode cX1_init 13 = .ok (.bipush 10, 2) := by decide +kernel
theorem dX1_init_15 : decode cX1_init 15 = .ok (.newarray .int, 2) := by decide +kernel
theorem dX1_init_17 : decode cX1_init 17 = .ok (.putfield 15, 3) := by decide +kernel
theorem dX1_init_20 : decode cX1_init 20 = .ok (.aload_n 0, 1) := by decide +kernel
theorem dX1_init_21 : decode cX1_init 21 = .ok (.bipush 40, 2) := by decide +kernel
theorem dX1_init_23 : decode cX1_init 23 = .ok (.newarray .int, 2) := by decide +kernel
theorem dX1_init_25 : decode cX1_init 25 = .ok (.putfield 18, 3) := by decide +kernel
theorem dX1_init_28 : decode cX1_init 28 = .ok (.aload_n 0, 1) := by decide +kernel
theorem dX1_init_29 : decode cX1_init 29 = .ok (.bipush 100, 2) := by decide +kernel
theorem dX1_init_31 : decode cX1_init 31 = .ok (.newarray .int, 2) := by decide +kernel
theorem dX1_init_33 : decode cX1_init 33 = .ok (.putfield 21, 3) := by decide +kernel
theorem dX1_init_36 : decode cX1_init 36 = .ok (.return_, 1) := by decide +kernel
theorem dX1_begin_0 : decode cX1_begin 0 = .ok (.aload_n 0, 1) := by decide +kernel
theorem dX1_begin_1 : decode cX1_begin 1 = .ok (.aload_n 1, 1) := by decide +kernel
theorem dX1_begin_2 : decode cX1_begin 2 = .ok (.getfield 24, 3) := by decide +kernel
theorem dX1_begin_5 : decode cX1_begin 5 = .ok (.putfield 30, 3) := by decide +kernel
theorem dX1_begin_8 : decode cX1_begin 8 = .ok (.aload_n 0, 1) := by decide +kernel
theorem dX1_begin_9 : decode cX1_begin 9 = .ok (.iconst (-1), 1) := by decide +kernel
theorem dX1_begin_10 : decode cX1_begin 10 = .ok (.putfield 31, 3) := by decide +kernel
theorem dX1_begin_13 : decode cX1_begin 13 = .ok (.aload_n 0, 1) := by decide +kernel
theorem dX1_begin_14 : decode cX1_begin 14 = .ok (.getfield 9, 3) := by decide +kernel
theorem dX1_begin_17 : decode cX1_begin 17 = .ok (.iconst (-1), 1) := by decide +kernel
theorem dX1_begin_18 : decode cX1_begin 18 = .ok (.invokestatic 34, 3) := by decide +kernel
theorem dX1_begin_21 : decode cX1_begin 21 = .ok (.aload_n 0, 1) := by decide +kernel
theorem dX1_begin_22 : decode cX1_begin 22 = .ok (.getfield 15, 3) := by decide +kernel
theorem dX1_begin_25 : decode cX1_begin 25 = .ok (.iconst 0, 1) := by decide +kernel
theorem dX1_begin_26 : decode cX1_begin 26 = .ok (.invokestatic 34, 3) := by decide +kernel
theorem dX1_begin_29 : decode cX1_begin 29 = .ok (.aload_n 0, 1) := by decide +kernel
theorem dX1_begin_30 : decode cX1_begin 30 = .ok (.getfield 21, 3) := by decide +kernel
theorem dX1_begin_33 : decode cX1_begin 33 = .ok (.iconst 0, 1) := by decide +kernel
theorem dX1_begin_34 : decode cX1_begin 34 = .ok (.invokestatic 34, 3) := by decide +kernel
theorem dX1_begin_37 : decode cX1_begin 37 = .ok (.return_, 1) := by decide +kernel
theorem dX1_copyFrom_0 : decode cX1_copyFrom 0 = .ok (.aload_n 0, 1) := by decide +kernel
theorem dX1_copyFrom_1 : decode cX1_copyFrom 1 = .ok (.aload_n 1, 1) := by decide +kernel
theorem dX1_copyFrom_2 : decode cX1_copyFrom 2 = .ok (.getfield 30, 3) := by decide +kernel
theorem dX1_copyFrom_5 : decode cX1_copyFrom 5 = .ok (.putfield 30, 3) := by decide +kernel
theorem dX1_copyFrom_8 : decode cX1_copyFrom 8 = .ok (.aload_n 0, 1) := by decide +kernel
theorem dX1_copyFrom_9 : decode cX1_copyFrom 9 = .ok (.aload_n 1, 1) := by decide +kernel
theorem dX1_copyFrom_10 : decode cX1_copyFrom 10 = .ok (.getfield 31, 3) := by decide +kernel
theorem dX1_copyFrom_13 : decode cX1_copyFrom 13 = .ok (.putfield 31, 3) := by decide +kernel
theorem dX1_copyFrom_16 : decode cX1_copyFrom 16 = .ok (.aload_n 1, 1) := by decide +kernel
theorem dX1_copyFrom_17 : decode cX1_copyFrom 17 = .ok (.getfield 9, 3) := by decide +kernel
theorem dX1_copyFrom_20 : decode cX1_copyFrom 20 = .ok (.iconst 0, 1) := by decide +kernel
theorem dX1_copyFrom_21 : decode cX1_copyFrom 21 = .ok (.aload_n 0, 1) := by decide +kernel
theorem dX1_copyFrom_22 : decode cX1_copyFrom 22 = .ok (.getfield 9, 3) := by decide +kernel
theorem dX1_copyFrom_25 : decode cX1_copyFrom 25 = .ok (.iconst 0, 1) := by decide +kernel
theorem dX1_copyFrom_26 : decode cX1_copyFrom 26 = .ok (.aload_n 0, 1) := by decide +kernel
theorem dX1_copyFrom_27 : decode cX1_copyFrom 27 = .ok (.getfield 9, 3) := by decide +kernel
theorem dX1_copyFrom_30 : decode cX1_copyFrom 30 = .ok (.arraylength, 1) := by decide +kernel
theorem dX1_copyFrom_31 : decode cX1_copyFrom 31 = .ok (.invokestatic 40, 3) := by decide +kernel
theorem dX1_copyFrom_34 : decode cX1_copyFrom 34 = .ok (.aload_n 1, 1) := by decide +kernel
theorem dX1_copyFrom_35 : decode cX1_copyFrom 35 = .ok (.getfield 15, 3) := by decide +kernel
theorem dX1_copyFrom_38 : decode cX1_copyFrom 38 = .ok (.iconst 0, 1) := by decide +kernel
theorem dX1_copyFrom_39 : decode cX1_copyFrom 39 = .ok (.aload_n 0, 1) := by decide +kernel
theorem dX1_copyFrom_40 : decode cX1_copyFrom 40 = .ok (.getfield 15, 3) := by decide +kernel
theorem dX1_copyFrom_43 : decode cX1_copyFrom 43 = .ok (.iconst 0, 1) := by decide +kernel
theorem dX1_copyFrom_44 : decode cX1_copyFrom 44 = .ok (.aload_n 0, 1) := by decide +kernel
theorem dX1_copyFrom_45 : decode cX1_copyFrom 45 = .ok (.getfield 15, 3) := by decide +kernel
theorem dX1_copyFrom_48 : decode cX1_copyFrom 48 = .ok (.arraylength, 1) := by decide +kernel
theorem dX1_copyFrom_49 : decode cX1_copyFrom 49 = .ok (.invokestatic 40, 3) := by decide +kernel
theorem dX1_copyFrom_52 : decode cX1_copyFrom 52 = .ok (.aload_n 1, 1) := by decide +kernel
theorem dX1_copyFrom_53 : decode cX1_copyFrom 53 = .ok (.getfield 18, 3) := by decide +kernel
theorem dX1_copyFrom_56 : decode cX1_copyFrom 56 = .ok (.iconst 0, 1) := by decide +kernel
theorem dX1_copyFrom_57 : decode cX1_copyFrom 57 = .ok (.aload_n 0, 1) := by decide +kernel
theorem dX1_copyFrom_58 : decode cX1_copyFrom 58 = .ok (.getfield 18, 3) := by decide +kernel
theorem dX1_copyFrom_61 : decode cX1_copyFrom 61 = .ok (.iconst 0, 1) := by decide +kernel
theorem dX1_copyFrom_62 : decode cX1_copyFrom 62 = .ok (.aload_n 0, 1) := by decide +kernel
theorem dX1_copyFrom_63 : decode cX1_copyFrom 63 = .ok (.getfield 18, 3) := by decide +kernel
theorem dX1_copyFrom_66 : decode cX1_copyFrom 66 = .ok (.arraylength, 1) := by decide +kernel
theorem dX1_copyFrom_67 : decode cX1_copyFrom 67 = .ok (.invokestatic 40, 3) := by decide +kernel
theorem dX1_copyFrom_70 : decode cX1_copyFrom 70 = .ok (.aload_n 1, 1) := by decide +kernel
theorem dX1_copyFrom_71 : decode cX1_copyFrom 71 = .ok (.getfield 21, 3) := by decide +kernel
theorem dX1_copyFrom_74 : decode cX1_copyFrom 74 = .ok (.iconst 0, 1) := by decide +kernel
theorem dX1_copyFrom_75 : decode cX1_copyFrom 75 = .ok (.aload_n 0, 1) := by decide +kernel
theorem dX1_copyFrom_76 : decode cX1_copyFrom 76 = .ok (.getfield 21, 3) := by decide +kernel
theorem dX1_copyFrom_79 : decode cX1_copyFrom 79 = .ok (.iconst 0, 1) := by decide +kernel
theorem dX1_copyFrom_80 : decode cX1_copyFrom 80 = .ok (.aload_n 0, 1) := by decide +kernel
theorem dX1_copyFrom_81 : decode cX1_copyFrom 81 = .ok (.getfield 21, 3) := by decide +kernel
theorem dX1_copyFrom_84 : decode cX1_copyFrom 84 = .ok (.arraylength, 1) := by decide +kernel
theorem dX1_copyFrom_85 : decode cX1_copyFrom 85 = .ok (.invokestatic 40, 3) := by decide +kernel
theorem dX1_copyFrom_88 : decode cX1_copyFrom 88 = .ok (.return_, 1) := by decide +kernel
theorem dX1_habitOf_0 : decode cX1_habitOf 0 = .ok (.aload_n 0, 1) := by decide +kernel
theorem dX1_habitOf_1 : decode cX1_habitOf 1 = .ok (.getfield 15, 3) := by decide +kernel
theorem dX1_habitOf_4 : decode cX1_habitOf 4 = .ok (.iload_n 1, 1) := by decide +kernel
theorem dX1_habitOf_5 : decode cX1_habitOf 5 = .ok (.iaload, 1) := by decide +kernel
theorem dX1_habitOf_6 : decode cX1_habitOf 6 = .ok (.istore_n 2, 1) := by decide +kernel
theorem dX1_habitOf_7 : decode cX1_habitOf 7 = .ok (.iload_n 2, 1) := by decide +kernel
theorem dX1_habitOf_8 : decode cX1_habitOf 8 = .ok (.iconst 1, 1) := by decide +kernel
theorem dX1_habitOf_9 : decode cX1_habitOf 9 = .ok (.if_icmp .ge 7, 3) := by decide +kernel
theorem dX1_habitOf_12 : decode cX1_habitOf 12 = .ok (.sipush 600, 3) := by decide +kernel
theorem dX1_habitOf_15 : decode cX1_habitOf 15 = .ok (.ireturn, 1) := by decide +kernel
theorem dX1_habitOf_16 : decode cX1_habitOf 16 = .ok (.iconst 0, 1) := by decide +kernel
theorem dX1_habitOf_17 : decode cX1_habitOf 17 = .ok (.istore_n 3, 1) := by decide +kernel
theorem dX1_habitOf_18 : decode cX1_habitOf 18 = .ok (.iconst 0, 1) := by decide +kernel
theorem dX1_habitOf_19 : decode cX1_habitOf 19 = .ok (.istore 4, 2) := by decide +kernel
theorem dX1_habitOf_21 : decode cX1_habitOf 21 = .ok (.iload 4, 2) := by decide +kernel
theorem dX1_habitOf_23 : decode cX1_habitOf 23 = .ok (.iload_n 2, 1) := by decide +kernel
theorem dX1_habitOf_24 : decode cX1_habitOf 24 = .ok (.if_icmp .ge 29, 3) := by decide +kernel
theorem dX1_habitOf_27 : decode cX1_habitOf 27 = .ok (.iload 4, 2) := by decide +kernel
theorem dX1_habitOf_29 : decode cX1_habitOf 29 = .ok (.iconst 4, 1) := by decide +kernel
theorem dX1_habitOf_30 : decode cX1_habitOf 30 = .ok (.if_icmp .ge 23, 3) := by decide +kernel
theorem dX1_habitOf_33 : decode cX1_habitOf 33 = .ok (.iload_n 3, 1) := by decide +kernel
theorem dX1_habitOf_34 : decode cX1_habitOf 34 = .ok (.aload_n 0, 1) := by decide +kernel
theorem dX1_habitOf_35 : decode cX1_habitOf 35 = .ok (.getfield 18, 3) := by decide +kernel
theorem dX1_habitOf_38 : decode cX1_habitOf 38 = .ok (.iload_n 1, 1) := by decide +kernel
theorem dX1_habitOf_39 : decode cX1_habitOf 39 = .ok (.iconst 4, 1) := by decide +kernel
theorem dX1_habitOf_40 : decode cX1_habitOf 40 = .ok (.imul, 1) := by decide +kernel
theorem dX1_habitOf_41 : decode cX1_habitOf 41 = .ok (.iload 4, 2) := by decide +kernel
theorem dX1_habitOf_43 : decode cX1_habitOf 43 = .ok (.iadd, 1) := by decide +kernel
theorem dX1_habitOf_44 : decode cX1_habitOf 44 = .ok (.iaload, 1) := by decide +kernel
theorem dX1_habitOf_45 : decode cX1_habitOf 45 = .ok (.iadd, 1) := by decide +kernel
theorem dX1_habitOf_46 : decode cX1_habitOf 46 = .ok (.istore_n 3, 1) := by decide +kernel
theorem dX1_habitOf_47 : decode cX1_habitOf 47 = .ok (.iinc 4 1, 3) := by decide +kernel
theorem dX1_habitOf_50 : decode cX1_habitOf 50 = .ok (.goto (-29), 3) := by decide +kernel
theorem dX1_habitOf_53 : decode cX1_habitOf 53 = .ok (.iload_n 3, 1) := by decide +kernel
theorem dX1_habitOf_54 : decode cX1_habitOf 54 = .ok (.iload_n 2, 1) := by decide +kernel
theorem dX1_habitOf_55 : decode cX1_habitOf 55 = .ok (.idiv, 1) := by decide +kernel
theorem dX1_habitOf_56 : decode cX1_habitOf 56 = .ok (.ireturn, 1) := by decide +kernel
theorem dX1_promiseOf_0 : decode cX1_promiseOf 0 = .ok (.iload_n 1, 1) := by decide +kernel
theorem dX1_promiseOf_1 : decode cX1_promiseOf 1 = .ok (.iload_n 2, 1) := by decide +kernel
theorem dX1_promiseOf_2 : decode cX1_promiseOf 2 = .ok (.if_icmp .eq 11, 3) := by decide +kernel
theorem dX1_promiseOf_5 : decode cX1_promiseOf 5 = .ok (.aload_n 0, 1) := by decide +kernel
theorem dX1_promiseOf_6 : decode cX1_promiseOf 6 = .ok (.iload_n 1, 1) := by decide +kernel
theorem dX1_promiseOf_7 : decode cX1_promiseOf 7 = .ok (.invokevirtual 46, 3) := by decide +kernel
theorem dX1_promiseOf_10 : decode cX1_promiseOf 10 = .ok (.ifCond .eq 5, 3) := by decide +kernel
theorem dX1_promiseOf_13 : decode cX1_promiseOf 13 = .ok (.iconst 0, 1) := by decide +kernel
theorem dX1_promiseOf_14 : decode cX1_promiseOf 14 = .ok (.ireturn, 1) := by decide +kernel
theorem dX1_promiseOf_15 : decode cX1_promiseOf 15 = .ok (.aload_n 0, 1) := by decide +kernel
theorem dX1_promiseOf_16 : decode cX1_promiseOf 16 = .ok (.getfield 9, 3) := by decide +kernel
theorem dX1_promiseOf_19 : decode cX1_promiseOf 19 = .ok (.iload_n 1, 1) := by decide +kernel
theorem dX1_promiseOf_20 : decode cX1_promiseOf 20 = .ok (.iaload, 1) := by decide +kernel
theorem dX1_promiseOf_21 : decode cX1_promiseOf 21 = .ok (.iconst (-1), 1) := by decide +kernel
theorem dX1_promiseOf_22 : decode cX1_promiseOf 22 = .ok (.if_icmp .ne 7, 3) := by decide +kernel
theorem dX1_promiseOf_25 : decode cX1_promiseOf 25 = .ok (.sipush 600, 3) := by decide +kernel
theorem dX1_promiseOf_28 : decode cX1_promiseOf 28 = .ok (.ireturn, 1) := by decide +kernel
theorem dX1_promiseOf_29 : decode cX1_promiseOf 29 = .ok (.iconst 0, 1) := by decide +kernel
theorem dX1_promiseOf_30 : decode cX1_promiseOf 30 = .ok (.aload_n 0, 1) := by decide +kernel
theorem dX1_promiseOf_31 : decode cX1_promiseOf 31 = .ok (.iload_n 1, 1) := by decide +kernel
theorem dX1_promiseOf_32 : decode cX1_promiseOf 32 = .ok (.invokevirtual 50, 3) := by decide +kernel
theorem dX1_promiseOf_35 : decode cX1_promiseOf 35 = .ok (.iload_n 3, 1) := by decide +kernel
theorem dX1_promiseOf_36 : decode cX1_promiseOf 36 = .ok (.aload_n 0, 1) := by decide +kernel
theorem dX1_promiseOf_37 : decode cX1_promiseOf 37 = .ok (.getfield 9, 3) := by decide +kernel
theorem dX1_promiseOf_40 : decode cX1_promiseOf 40 = .ok (.iload_n 1, 1) := by decide +kernel
theorem dX1_promiseOf_41 : decode cX1_promiseOf 41 = .ok (.iaload, 1) := by decide +kernel
theorem dX1_promiseOf_42 : decode cX1_promiseOf 42 = .ok (.isub, 1) := by decide +kernel
theorem dX1_promiseOf_43 : decode cX1_promiseOf 43 = .ok (.isub, 1) := by decide +kernel
theorem dX1_promiseOf_44 : decode cX1_promiseOf 44 = .ok (.invokestatic 54, 3) := by decide +kernel
theorem dX1_promiseOf_47 : decode cX1_promiseOf 47 = .ok (.ireturn, 1) := by decide +kernel
theorem dX1_oftenFollowsLast_0 : decode cX1_oftenFollowsLast 0 = .ok (.aload_n 0, 1) := by decide +kernel
theorem dX1_oftenFollowsLast_1 : decode cX1_oftenFollowsLast 1 = .ok (.getfield 31, 3) := by decide +kernel
theorem dX1_oftenFollowsLast_4 : decode cX1_oftenFollowsLast 4 = .ok (.ifCond .ge 5, 3) := by decide +kernel
theorem dX1_oftenFollowsLast_7 : decode cX1_oftenFollowsLast 7 = .ok (.iconst 0, 1) := by decide +kernel
theorem dX1_oftenFollowsLast_8 : decode cX1_oftenFollowsLast 8 = .ok (.ireturn, 1) := by decide +kernel
theorem dX1_oftenFollowsLast_9 : decode cX1_oftenFollowsLast 9 = .ok (.aload_n 0, 1) := by decide +kernel
theorem dX1_oftenFollowsLast_10 : decode cX1_oftenFollowsLast 10 = .ok (.getfield 31, 3) := by decide +kernel
theorem dX1_oftenFollowsLast_13 : decode cX1_oftenFollowsLast 13 = .ok (.bipush 10, 2) := by decide +kernel
theorem dX1_oftenFollowsLast_15 : decode cX1_oftenFollowsLast 15 = .ok (.imul, 1) := by decide +kernel
theorem dX1_oftenFollowsLast_16 : decode cX1_oftenFollowsLast 16 = .ok (.istore_n 2, 1) := by decide +kernel
theorem dX1_oftenFollowsLast_17 : decode cX1_oftenFollowsLast 17 = .ok (.iconst 0, 1) := by decide +kernel
theorem dX1_oftenFollowsLast_18 : decode cX1_oftenFollowsLast 18 = .ok (.istore_n 3, 1) := by decide +kernel
theorem dX1_oftenFollowsLast_19 : decode cX1_oftenFollowsLast 19 = .ok (.iconst 0, 1) := by decide +kernel
theorem dX1_oftenFollowsLast_20 : decode cX1_oftenFollowsLast 20 = .ok (.istore 4, 2) := by decide +kernel
theorem dX1_oftenFollowsLast_22 : decode cX1_oftenFollowsLast 22 = .ok (.iload 4, 2) := by decide +kernel
theorem dX1_oftenFollowsLast_24 : decode cX1_oftenFollowsLast 24 = .ok (.aload_n 0, 1) := by decide +kernel
theorem dX1_oftenFollowsLast_25 : decode cX1_oftenFollowsLast 25 = .ok (.getfield 30, 3) := by decide +kernel
theorem dX1_oftenFollowsLast_28 : decode cX1_oftenFollowsLast 28 = .ok (.if_icmp .ge 21, 3) := by decide +kernel
theorem dX1_oftenFollowsLast_31 : decode cX1_oftenFollowsLast 31 = .ok (.iload_n 3, 1) := by decide +kernel
theorem dX1_oftenFollowsLast_32 : decode cX1_oftenFollowsLast 32 = .ok (.aload_n 0, 1) := by decide +kernel
theorem dX1_oftenFollowsLast_33 : decode cX1_oftenFollowsLast 33 = .ok (.getfield 21, 3) := by decide +kernel
theorem dX1_oftenFollowsLast_36 : decode cX1_oftenFollowsLast 36 = .ok (.iload_n 2, 1) := by decide +kernel
theorem dX1_oftenFollowsLast_37 : decode cX1_oftenFollowsLast 37 = .ok (.iload 4, 2) := by decide +kernel
theorem dX1_oftenFollowsLast_39 : decode cX1_oftenFollowsLast 39 = .ok (.iadd, 1) := by decide +kernel
theorem dX1_oftenFollowsLast_40 : decode cX1_oftenFollowsLast 40 = .ok (.iaload, 1) := by decide +kernel
theorem dX1_oftenFollowsLast_41 : decode cX1_oftenFollowsLast 41 = .ok (.iadd, 1) := by decide +kernel
theorem dX1_oftenFollowsLast_42 : decode cX1_oftenFollowsLast 42 = .ok (.istore_n 3, 1) := by decide +kernel
theorem dX1_oftenFollowsLast_43 : decode cX1_oftenFollowsLast 43 = .ok (.iinc 4 1, 3) := by decide +kernel
theorem dX1_oftenFollowsLast_46 : decode cX1_oftenFollowsLast 46 = .ok (.goto (-24), 3) := by decide +kernel
theorem dX1_oftenFollowsLast_49 : decode cX1_oftenFollowsLast 49 = .ok (.aload_n 0, 1) := by decide +kernel
theorem dX1_oftenFollowsLast_50 : decode cX1_oftenFollowsLast 50 = .ok (.getfield 21, 3) := by decide +kernel
theorem dX1_oftenFollowsLast_53 : decode cX1_oftenFollowsLast 53 = .ok (.iload_n 2, 1) := by decide +kernel
theorem dX1_oftenFollowsLast_54 : decode cX1_oftenFollowsLast 54 = .ok (.iload_n 1, 1) := by decide +kernel
theorem dX1_oftenFollowsLast_55 : decode cX1_oftenFollowsLast 55 = .ok (.iadd, 1) := by decide +kernel
theorem dX1_oftenFollowsLast_56 : decode cX1_oftenFollowsLast 56 = .ok (.iaload, 1) := by decide +kernel
theorem dX1_oftenFollowsLast_57 : decode cX1_oftenFollowsLast 57 = .ok (.istore 4, 2) := by decide +kernel
theorem dX1_oftenFollowsLast_59 : decode cX1_oftenFollowsLast 59 = .ok (.iload 4, 2) := by decide +kernel
theorem dX1_oftenFollowsLast_61 : decode cX1_oftenFollowsLast 61 = .ok (.ifCond .le 15, 3) := by decide +kernel
theorem dX1_oftenFollowsLast_64 : decode cX1_oftenFollowsLast 64 = .ok (.iconst 2, 1) := by decide +kernel
theorem dX1_oftenFollowsLast_65 : decode cX1_oftenFollowsLast 65 = .ok (.iload 4, 2) := by decide +kernel
theorem dX1_oftenFollowsLast_67 : decode cX1_oftenFollowsLast 67 = .ok (.imul, 1) := by decide +kernel
theorem dX1_oftenFollowsLast_68 : decode cX1_oftenFollowsLast 68 = .ok (.iload_n 3, 1) := by decide +kernel
theorem dX1_oftenFollowsLast_69 : decode cX1_oftenFollowsLast 69 = .ok (.if_icmp .lt 7, 3) := by decide +kernel
theorem dX1_oftenFollowsLast_72 : decode cX1_oftenFollowsLast 72 = .ok (.iconst 1, 1) := by decide +kernel
theorem dX1_oftenFollowsLast_73 : decode cX1_oftenFollowsLast 73 = .ok (.goto 4, 3) := by decide +kernel
theorem dX1_oftenFollowsLast_76 : decode cX1_oftenFollowsLast 76 = .ok (.iconst 0, 1) := by decide +kernel
theorem dX1_oftenFollowsLast_77 : decode cX1_oftenFollowsLast 77 = .ok (.ireturn, 1) := by decide +kernel
theorem dX1_timesFollowed_0 : decode cX1_timesFollowed 0 = .ok (.aload_n 0, 1) := by decide +kernel
theorem dX1_timesFollowed_1 : decode cX1_timesFollowed 1 = .ok (.getfield 21, 3) := by decide +kernel
theorem dX1_timesFollowed_4 : decode cX1_timesFollowed 4 = .ok (.iload_n 1, 1) := by decide +kernel
theorem dX1_timesFollowed_5 : decode cX1_timesFollowed 5 = .ok (.bipush 10, 2) := by decide +kernel
theorem dX1_timesFollowed_7 : decode cX1_timesFollowed 7 = .ok (.imul, 1) := by decide +kernel
theorem dX1_timesFollowed_8 : decode cX1_timesFollowed 8 = .ok (.iload_n 2, 1) := by decide +kernel
theorem dX1_timesFollowed_9 : decode cX1_timesFollowed 9 = .ok (.iadd, 1) := by decide +kernel
theorem dX1_timesFollowed_10 : decode cX1_timesFollowed 10 = .ok (.iaload, 1) := by decide +kernel
theorem dX1_timesFollowed_11 : decode cX1_timesFollowed 11 = .ok (.ireturn, 1) := by decide +kernel
theorem dX1_likeliestAfter_0 : decode cX1_likeliestAfter 0 = .ok (.iconst (-1), 1) := by decide +kernel
theorem dX1_likeliestAfter_1 : decode cX1_likeliestAfter 1 = .ok (.istore_n 2, 1) := by decide +kernel
theorem dX1_likeliestAfter_2 : decode cX1_likeliestAfter 2 = .ok (.iconst 0, 1) := by decide +kernel
theorem dX1_likeliestAfter_3 : decode cX1_likeliestAfter 3 = .ok (.istore_n 3, 1) := by decide +kernel
theorem dX1_likeliestAfter_4 : decode cX1_likeliestAfter 4 = .ok (.iconst 0, 1) := by decide +kernel
theorem dX1_likeliestAfter_5 : decode cX1_likeliestAfter 5 = .ok (.istore 4, 2) := by decide +kernel
theorem dX1_likeliestAfter_7 : decode cX1_likeliestAfter 7 = .ok (.iload 4, 2) := by decide +kernel
theorem dX1_likeliestAfter_9 : decode cX1_likeliestAfter 9 = .ok (.aload_n 0, 1) := by decide +kernel
theorem dX1_likeliestAfter_10 : decode cX1_likeliestAfter 10 = .ok (.getfield 30, 3) := by decide +kernel
theorem dX1_likeliestAfter_13 : decode cX1_likeliestAfter 13 = .ok (.if_icmp .ge 31, 3) := by decide +kernel
theorem dX1_likeliestAfter_16 : decode cX1_likeliestAfter 16 = .ok (.aload_n 0, 1) := by decide +kernel
theorem dX1_likeliestAfter_17 : decode cX1_likeliestAfter 17 = .ok (.iload_n 1, 1) := by decide +kernel
theorem dX1_likeliestAfter_18 : decode cX1_likeliestAfter 18 = .ok (.iload 4, 2) := by decide +kernel
theorem dX1_likeliestAfter_20 : decode cX1_likeliestAfter 20 = .ok (.invokevirtual 60, 3) := by decide +kernel
theorem dX1_likeliestAfter_23 : decode cX1_likeliestAfter 23 = .ok (.iload_n 3, 1) := by decide +kernel
theorem dX1_likeliestAfter_24 : decode cX1_likeliestAfter 24 = .ok (.if_icmp .le 14, 3) := by decide +kernel
theorem dX1_likeliestAfter_27 : decode cX1_likeliestAfter 27 = .ok (.aload_n 0, 1) := by decide +kernel
theorem dX1_likeliestAfter_28 : decode cX1_likeliestAfter 28 = .ok (.iload_n 1, 1) := by decide +kernel
theorem dX1_likeliestAfter_29 : decode cX1_likeliestAfter 29 = .ok (.iload 4, 2) := by decide +kernel
theorem dX1_likeliestAfter_31 : decode cX1_likeliestAfter 31 = .ok (.invokevirtual 60, 3) := by decide +kernel
theorem dX1_likeliestAfter_34 : decode cX1_likeliestAfter 34 = .ok (.istore_n 3, 1) := by decide +kernel
theorem dX1_likeliestAfter_35 : decode cX1_likeliestAfter 35 = .ok (.iload 4, 2) := by decide +kernel
theorem dX1_likeliestAfter_37 : decode cX1_likeliestAfter 37 = .ok (.istore_n 2, 1) := by decide +kernel
theorem dX1_likeliestAfter_38 : decode cX1_likeliestAfter 38 = .ok (.iinc 4 1, 3) := by decide +kernel
theorem dX1_likeliestAfter_41 : decode cX1_likeliestAfter 41 = .ok (.goto (-34), 3) := by decide +kernel
theorem dX1_likeliestAfter_44 : decode cX1_likeliestAfter 44 = .ok (.iload_n 2, 1) := by decide +kernel
theorem dX1_likeliestAfter_45 : decode cX1_likeliestAfter 45 = .ok (.ireturn, 1) := by decide +kernel
theorem dX1_countShowing_0 : decode cX1_countShowing 0 = .ok (.aload_n 0, 1) := by decide +kernel
theorem dX1_countShowing_1 : decode cX1_countShowing 1 = .ok (.getfield 9, 3) := by decide +kernel
theorem dX1_countShowing_4 : decode cX1_countShowing 4 = .ok (.iload_n 1, 1) := by decide +kernel
theorem dX1_countShowing_5 : decode cX1_countShowing 5 = .ok (.iaload, 1) := by decide +kernel
theorem dX1_countShowing_6 : decode cX1_countShowing 6 = .ok (.iconst (-1), 1) := by decide +kernel
theorem dX1_countShowing_7 : decode cX1_countShowing 7 = .ok (.if_icmp .eq 16, 3) := by decide +kernel
theorem dX1_countShowing_10 : decode cX1_countShowing 10 = .ok (.aload_n 0, 1) := by decide +kernel
theorem dX1_countShowing_11 : decode cX1_countShowing 11 = .ok (.iload_n 1, 1) := by decide +kernel
theorem dX1_countShowing_12 : decode cX1_countShowing 12 = .ok (.iload_n 3, 1) := by decide +kernel
theorem dX1_countShowing_13 : decode cX1_countShowing 13 = .ok (.aload_n 0, 1) := by decide +kernel
theorem dX1_countShowing_14 : decode cX1_countShowing 14 = .ok (.getfield 9, 3) := by decide +kernel
theorem dX1_countShowing_17 : decode cX1_countShowing 17 = .ok (.iload_n 1, 1) := by decide +kernel
theorem dX1_countShowing_18 : decode cX1_countShowing 18 = .ok (.iaload, 1) := by decide +kernel
theorem dX1_countShowing_19 : decode cX1_countShowing 19 = .ok (.isub, 1) := by decide +kernel
theorem dX1_countShowing_20 : decode cX1_countShowing 20 = .ok (.invokevirtual 63, 3) := by decide +kernel
theorem dX1_countShowing_23 : decode cX1_countShowing 23 = .ok (.iload_n 2, 1) := by decide +kernel
theorem dX1_countShowing_24 : decode cX1_countShowing 24 = .ok (.ifCond .lt 23, 3) := by decide +kernel
theorem dX1_countShowing_27 : decode cX1_countShowing 27 = .ok (.iload_n 2, 1) := by decide +kernel
theorem dX1_countShowing_28 : decode cX1_countShowing 28 = .ok (.iload_n 1, 1) := by decide +kernel
theorem dX1_countShowing_29 : decode cX1_countShowing 29 = .ok (.if_icmp .eq 18, 3) := by decide +kernel
theorem dX1_countShowing_32 : decode cX1_countShowing 32 = .ok (.aload_n 0, 1) := by decide +kernel
theorem dX1_countShowing_33 : decode cX1_countShowing 33 = .ok (.getfield 21, 3) := by decide +kernel
theorem dX1_countShowing_36 : decode cX1_countShowing 36 = .ok (.iload_n 2, 1) := by decide +kernel
theorem dX1_countShowing_37 : decode cX1_countShowing 37 = .ok (.bipush 10, 2) := by decide +kernel
theorem dX1_countShowing_39 : decode cX1_countShowing 39 = .ok (.imul, 1) := by decide +kernel
theorem dX1_countShowing_40 : decode cX1_countShowing 40 = .ok (.iload_n 1, 1) := by decide +kernel
theorem dX1_countShowing_41 : decode cX1_countShowing 41 = .ok (.iadd, 1) := by decide +kernel
theorem dX1_countShowing_42 : decode cX1_countShowing 42 = .ok (.dup2, 1) := by decide +kernel
theorem dX1_countShowing_43 : decode cX1_countShowing 43 = .ok (.iaload, 1) := by decide +kernel
theorem dX1_countShowing_44 : decode cX1_countShowing 44 = .ok (.iconst 1, 1) := by decide +kernel
theorem dX1_countShowing_45 : decode cX1_countShowing 45 = .ok (.iadd, 1) := by decide +kernel
theorem dX1_countShowing_46 : decode cX1_countShowing 46 = .ok (.iastore, 1) := by decide +kernel
theorem dX1_countShowing_47 : decode cX1_countShowing 47 = .ok (.return_, 1) := by decide +kernel
theorem dX1_addGap_0 : decode cX1_addGap 0 = .ok (.iload_n 1, 1) := by decide +kernel
theorem dX1_addGap_1 : decode cX1_addGap 1 = .ok (.iconst 4, 1) := by decide +kernel
theorem dX1_addGap_2 : decode cX1_addGap 2 = .ok (.imul, 1) := by decide +kernel
theorem dX1_addGap_3 : decode cX1_addGap 3 = .ok (.istore_n 3, 1) := by decide +kernel
theorem dX1_addGap_4 : decode cX1_addGap 4 = .ok (.aload_n 0, 1) := by decide +kernel
theorem dX1_addGap_5 : decode cX1_addGap 5 = .ok (.getfield 15, 3) := by decide +kernel
theorem dX1_addGap_8 : decode cX1_addGap 8 = .ok (.iload_n 1, 1) := by decide +kernel
theorem dX1_addGap_9 : decode cX1_addGap 9 = .ok (.iaload, 1) := by decide +kernel
theorem dX1_addGap_10 : decode cX1_addGap 10 = .ok (.iconst 4, 1) := by decide +kernel
theorem dX1_addGap_11 : decode cX1_addGap 11 = .ok (.if_icmp .ge 28, 3) := by decide +kernel
theorem dX1_addGap_14 : decode cX1_addGap 14 = .ok (.aload_n 0, 1) := by decide +kernel
theorem dX1_addGap_15 : decode cX1_addGap 15 = .ok (.getfield 18, 3) := by decide +kernel
theorem dX1_addGap_18 : decode cX1_addGap 18 = .ok (.iload_n 3, 1) := by decide +kernel
theorem dX1_addGap_19 : decode cX1_addGap 19 = .ok (.aload_n 0, 1) := by decide +kernel
theorem dX1_addGap_20 : decode cX1_addGap 20 = .ok (.getfield 15, 3) := by decide +kernel
theorem dX1_addGap_23 : decode cX1_addGap 23 = .ok (.iload_n 1, 1) := by decide +kernel
theorem dX1_addGap_24 : decode cX1_addGap 24 = .ok (.iaload, 1) := by decide +kernel
theorem dX1_addGap_25 : decode cX1_addGap 25 = .ok (.iadd, 1) := by decide +kernel
theorem dX1_addGap_26 : decode cX1_addGap 26 = .ok (.iload_n 2, 1) := by decide +kernel
theorem dX1_addGap_27 : decode cX1_addGap 27 = .ok (.iastore, 1) := by decide +kernel
theorem dX1_addGap_28 : decode cX1_addGap 28 = .ok (.aload_n 0, 1) := by decide +kernel
theorem dX1_addGap_29 : decode cX1_addGap 29 = .ok (.getfield 15, 3) := by decide +kernel
theorem dX1_addGap_32 : decode cX1_addGap 32 = .ok (.iload_n 1, 1) := by decide +kernel
theorem dX1_addGap_33 : decode cX1_addGap 33 = .ok (.dup2, 1) := by decide +kernel
theorem dX1_addGap_34 : decode cX1_addGap 34 = .ok (.iaload, 1) := by decide +kernel
theorem dX1_addGap_35 : decode cX1_addGap 35 = .ok (.iconst 1, 1) := by decide +kernel
theorem dX1_addGap_36 : decode cX1_addGap 36 = .ok (.iadd, 1) := by decide +kernel
theorem dX1_addGap_37 : decode cX1_addGap 37 = .ok (.iastore, 1) := by decide +kernel
theorem dX1_addGap_38 : decode cX1_addGap 38 = .ok (.return_, 1) := by decide +kernel
theorem dX1_addGap_39 : decode cX1_addGap 39 = .ok (.aload_n 0, 1) := by decide +kernel
theorem dX1_addGap_40 : decode cX1_addGap 40 = .ok (.getfield 18, 3) := by decide +kernel
theorem dX1_addGap_43 : decode cX1_addGap 43 = .ok (.iload_n 3, 1) := by decide +kernel
theorem dX1_addGap_44 : decode cX1_addGap 44 = .ok (.iconst 1, 1) := by decide +kernel
theorem dX1_addGap_45 : decode cX1_addGap 45 = .ok (.iadd, 1) := by decide +kernel
theorem dX1_addGap_46 : decode cX1_addGap 46 = .ok (.aload_n 0, 1) := by decide +kernel
theorem dX1_addGap_47 : decode cX1_addGap 47 = .ok (.getfield 18, 3) := by decide +kernel
theorem dX1_addGap_50 : decode cX1_addGap 50 = .ok (.iload_n 3, 1) := by decide +kernel
theorem dX1_addGap_51 : decode cX1_addGap 51 = .ok (.iconst 3, 1) := by decide +kernel
theorem dX1_addGap_52 : decode cX1_addGap 52 = .ok (.invokestatic 40, 3) := by decide +kernel
theorem dX1_addGap_55 : decode cX1_addGap 55 = .ok (.aload_n 0, 1) := by decide +kernel
theorem dX1_addGap_56 : decode cX1_addGap 56 = .ok (.getfield 18, 3) := by decide +kernel
theorem dX1_addGap_59 : decode cX1_addGap 59 = .ok (.iload_n 3, 1) := by decide +kernel
theorem dX1_addGap_60 : decode cX1_addGap 60 = .ok (.iconst 4, 1) := by decide +kernel
theorem dX1_addGap_61 : decode cX1_addGap 61 = .ok (.iadd, 1) := by decide +kernel
theorem dX1_addGap_62 : decode cX1_addGap 62 = .ok (.iconst 1, 1) := by decide +kernel
theorem dX1_addGap_63 : decode cX1_addGap 63 = .ok (.isub, 1) := by decide +kernel
theorem dX1_addGap_64 : decode cX1_addGap 64 = .ok (.iload_n 2, 1) := by decide +kernel
theorem dX1_addGap_65 : decode cX1_addGap 65 = .ok (.iastore, 1) := by decide +kernel
theorem dX1_addGap_66 : decode cX1_addGap 66 = .ok (.return_, 1) := by decide +kernel
theorem dX2_init_0 : decode cX2_init 0 = .ok (.aload_n 0, 1) := by decide +kernel
theorem dX2_init_1 : decode cX2_init 1 = .ok (.invokespecial 3, 3) := by decide +kernel
theorem dX2_init_4 : decode cX2_init 4 = .ok (.aload_n 0, 1) := by decide +kernel
theorem dX2_init_5 : decode cX2_init 5 = .ok (.bipush 10, 2) := by decide +kernel
theorem dX2_init_7 : decode cX2_init 7 = .ok (.anewarray 9, 3) := by decide +kernel
theorem dX2_init_10 : decode cX2_init 10 = .ok (.putfield 11, 3) := by decide +kernel
theorem dX2_init_13 : decode cX2_init 13 = .ok (.aload_n 0, 1) := by decide +kernel
theorem dX2_init_14 : decode cX2_init 14 = .ok (.iconst 0, 1) := by decide +kernel
theorem dX2_init_15 : decode cX2_init 15 = .ok (.putfield 17, 3) := by decide +kernel
theorem dX2_init_18 : decode cX2_init 18 = .ok (.aload_n 0, 1) := by decide +kernel
theorem dX2_init_19 : decode cX2_init 19 = .ok (.iconst 0, 1) := by decide +kernel
theorem dX2_init_20 : decode cX2_init 20 = .ok (.putfield 21, 3) := by decide +kernel
theorem dX2_init_23 : decode cX2_init 23 = .ok (.iconst 0, 1) := by decide +kernel
theorem dX2_init_24 : decode cX2_init 24 = .ok (.istore_n 3, 1) := by decide +kernel
theorem dX2_init_25 : decode cX2_init 25 = .ok (.iload_n 3, 1) := by decide +kernel
theorem dX2_init_26 : decode cX2_init 26 = .ok (.bipush 10, 2) := by decide +kernel
theorem dX2_init_28 : decode cX2_init 28 = .ok (.if_icmp .ge 24, 3) := by decide +kernel
theorem dX2_init_31 : decode cX2_init 31 = .ok (.aload_n 0, 1) := by decide +kernel
theorem dX2_init_32 : decode cX2_init 32 = .ok (.getfield 11, 3) := by decide +kernel
theorem dX2_init_35 : decode cX2_init 35 = .ok (.iload_n 3, 1) := by decide +kernel
theorem dX2_init_36 : decode cX2_init 36 = .ok (.new 9, 3) := by decide +kernel
theorem dX2_init_39 : decode cX2_init 39 = .ok (.dup, 1) := by decide +kernel
theorem dX2_init_40 : decode cX2_init 40 = .ok (.aload_n 1, 1) := by decide +kernel
theorem dX2_init_41 : decode cX2_init 41 = .ok (.aload_n 2, 1) := by decide +kernel
theorem dX2_init_42 : decode cX2_init 42 = .ok (.invokespecial 24, 3) := by decide +kernel
theorem dX2_init_45 : decode cX2_init 45 = .ok (.aastore, 1) := by decide +kernel
theorem dX2_init_46 : decode cX2_init 46 = .ok (.iinc 3 1, 3) := by decide +kernel
theorem dX2_init_49 : decode cX2_init 49 = .ok (.goto (-24), 3) := by decide +kernel
theorem dX2_init_52 : decode cX2_init 52 = .ok (.return_, 1) := by decide +kernel
theorem dX2_clear_0 : decode cX2_clear 0 = .ok (.aload_n 0, 1) := by decide +kernel
theorem dX2_clear_1 : decode cX2_clear 1 = .ok (.iconst 0, 1) := by decide +kernel
theorem dX2_clear_2 : decode cX2_clear 2 = .ok (.putfield 21, 3) := by decide +kernel
theorem dX2_clear_5 : decode cX2_clear 5 = .ok (.return_, 1) := by decide +kernel
theorem dX2_keep_0 : decode cX2_keep 0 = .ok (.aload_n 0, 1) := by decide +kernel
theorem dX2_keep_1 : decode cX2_keep 1 = .ok (.getfield 11, 3) := by decide +kernel
theorem dX2_keep_4 : decode cX2_keep 4 = .ok (.aload_n 0, 1) := by decide +kernel
theorem dX2_keep_5 : decode cX2_keep 5 = .ok (.getfield 17, 3) := by decide +kernel
theorem dX2_keep_8 : decode cX2_keep 8 = .ok (.aaload, 1) := by decide +kernel
theorem dX2_keep_9 : decode cX2_keep 9 = .ok (.astore_n 2, 1) := by decide +kernel
theorem dX2_keep_10 : decode cX2_keep 10 = .ok (.aload_n 0, 1) := by decide +kernel
theorem dX2_keep_11 : decode cX2_keep 11 = .ok (.getfield 11, 3) := by decide +kernel
theorem dX2_keep_14 : decode cX2_keep 14 = .ok (.aload_n 0, 1) := by decide +kernel
theorem dX2_keep_15 : decode cX2_keep 15 = .ok (.getfield 17, 3) := by decide +kernel
theorem dX2_keep_18 : decode cX2_keep 18 = .ok (.aload_n 1, 1) := by decide +kernel
theorem dX2_keep_19 : decode cX2_keep 19 = .ok (.aastore, 1) := by decide +kernel
theorem dX2_keep_20 : decode cX2_keep 20 = .ok (.aload_n 0, 1) := by decide +kernel
theorem dX2_keep_21 : decode cX2_keep 21 = .ok (.aload_n 0, 1) := by decide +kernel
theorem dX2_keep_22 : decode cX2_keep 22 = .ok (.getfield 17, 3) := by decide +kernel
theorem dX2_keep_25 : decode cX2_keep 25 = .ok (.iconst 1, 1) := by decide +kernel
theorem dX2_keep_26 : decode cX2_keep 26 = .ok (.iadd, 1) := by decide +kernel
theorem dX2_keep_27 : decode cX2_keep 27 = .ok (.bipush 10, 2) := by decide +kernel
theorem dX2_keep_29 : decode cX2_keep 29 = .ok (.irem, 1) := by decide +kernel
theorem dX2_keep_30 : decode cX2_keep 30 = .ok (.putfield 17, 3) := by decide +kernel
theorem dX2_keep_33 : decode cX2_keep 33 = .ok (.aload_n 0, 1) := by decide +kernel
theorem dX2_keep_34 : decode cX2_keep 34 = .ok (.aload_n 0, 1) := by decide +kernel
theorem dX2_keep_35 : decode cX2_keep 35 = .ok (.getfield 21, 3) := by decide +kernel
theorem dX2_keep_38 : decode cX2_keep 38 = .ok (.iconst 1, 1) := by decide +kernel
theorem dX2_keep_39 : decode cX2_keep 39 = .ok (.iadd, 1) := by decide +kernel
theorem dX2_keep_40 : decode cX2_keep 40 = .ok (.bipush 10, 2) := by decide +kernel
theorem dX2_keep_42 : decode cX2_keep 42 = .ok (.invokestatic 27, 3) := by decide +kernel
theorem dX2_keep_45 : decode cX2_keep 45 = .ok (.putfield 21, 3) := by decide +kernel
theorem dX2_keep_48 : decode cX2_keep 48 = .ok (.aload_n 2, 1) := by decide +kernel
theorem dX2_keep_49 : decode cX2_keep 49 = .ok (.areturn, 1) := by decide +kernel
theorem dX2_takeBack_0 : decode cX2_takeBack 0 = .ok (.aload_n 0, 1) := by decide +kernel
theorem dX2_takeBack_1 : decode cX2_takeBack 1 = .ok (.aload_n 0, 1) := by decide +kernel
theorem dX2_takeBack_2 : decode cX2_takeBack 2 = .ok (.getfield 17, 3) := by decide +kernel
theorem dX2_takeBack_5 : decode cX2_takeBack 5 = .ok (.bipush 10, 2) := by decide +kernel
theorem dX2_takeBack_7 : decode cX2_takeBack 7 = .ok (.iadd, 1) := by decide +kernel
theorem dX2_takeBack_8 : decode cX2_takeBack 8 = .ok (.iconst 1, 1) := by decide +kernel
theorem dX2_takeBack_9 : decode cX2_takeBack 9 = .ok (.isub, 1) := by decide +kernel
theorem dX2_takeBack_10 : decode cX2_takeBack 10 = .ok (.bipush 10, 2) := by decide +kernel
theorem dX2_takeBack_12 : decode cX2_takeBack 12 = .ok (.irem, 1) := by decide +kernel
theorem dX2_takeBack_13 : decode cX2_takeBack 13 = .ok (.putfield 17, 3) := by decide +kernel
theorem dX2_takeBack_16 : decode cX2_takeBack 16 = .ok (.aload_n 0, 1) := by decide +kernel
theorem dX2_takeBack_17 : decode cX2_takeBack 17 = .ok (.dup, 1) := by decide +kernel
theorem dX2_takeBack_18 : decode cX2_takeBack 18 = .ok (.getfield 21, 3) := by decide +kernel
theorem dX2_takeBack_21 : decode cX2_takeBack 21 = .ok (.iconst 1, 1) := by decide +kernel
theorem dX2_takeBack_22 : decode cX2_takeBack 22 = .ok (.isub, 1) := by decide +kernel
theorem dX2_takeBack_23 : decode cX2_takeBack 23 = .ok (.putfield 21, 3) := by decide +kernel
theorem dX2_takeBack_26 : decode cX2_takeBack 26 = .ok (.aload_n 0, 1) := by decide +kernel
theorem dX2_takeBack_27 : decode cX2_takeBack 27 = .ok (.getfield 11, 3) := by decide +kernel
theorem dX2_takeBack_30 : decode cX2_takeBack 30 = .ok (.aload_n 0, 1) := by decide +kernel
theorem dX2_takeBack_31 : decode cX2_takeBack 31 = .ok (.getfield 17, 3) := by decide +kernel
theorem dX2_takeBack_34 : decode cX2_takeBack 34 = .ok (.aaload, 1) := by decide +kernel
theorem dX2_takeBack_35 : decode cX2_takeBack 35 = .ok (.astore_n 2, 1) := by decide +kernel
theorem dX2_takeBack_36 : decode cX2_takeBack 36 = .ok (.aload_n 0, 1) := by decide +kernel
theorem dX2_takeBack_37 : decode cX2_takeBack 37 = .ok (.getfield 11, 3) := by decide +kernel
theorem dX2_takeBack_40 : decode cX2_takeBack 40 = .ok (.aload_n 0, 1) := by decide +kernel
theorem dX2_takeBack_41 : decode cX2_takeBack 41 = .ok (.getfield 17, 3) := by decide +kernel
theorem dX2_takeBack_44 : decode cX2_takeBack 44 = .ok (.aload_n 1, 1) := by decide +kernel
theorem dX2_takeBack_45 : decode cX2_takeBack 45 = .ok (.aastore, 1) := by decide +kernel
theorem dX2_takeBack_46 : decode cX2_takeBack 46 = .ok (.aload_n 2, 1) := by decide +kernel
theorem dX2_takeBack_47 : decode cX2_takeBack 47 = .ok (.areturn, 1) := by decide +kernel
theorem dX3_init_0 : decode cX3_init 0 = .ok (.aload_n 0, 1) := by decide +kernel
theorem dX3_init_1 : decode cX3_init 1 = .ok (.invokespecial 3, 3) := by decide +kernel
theorem dX3_init_4 : decode cX3_init 4 = .ok (.aload_n 0, 1) := by decide +kernel
theorem dX3_init_5 : decode cX3_init 5 = .ok (.iconst 0, 1) := by decide +kernel
theorem dX3_init_6 : decode cX3_init 6 = .ok (.putfield 9, 3) := by decide +kernel
theorem dX3_init_9 : decode cX3_init 9 = .ok (.aload_n 0, 1) := by decide +kernel
theorem dX3_init_10 : decode cX3_init 10 = .ok (.iconst 0, 1) := by decide +kernel
theorem dX3_init_11 : decode cX3_init 11 = .ok (.putfield 15, 3) := by decide +kernel
theorem dX3_init_14 : decode cX3_init 14 = .ok (.aload_n 0, 1) := by decide +kernel
theorem dX3_init_15 : decode cX3_init 15 = .ok (.bipush 72, 2) := by decide +kernel
theorem dX3_init_17 : decode cX3_init 17 = .ok (.newarray .int, 2) := by decide +kernel
theorem dX3_init_19 : decode cX3_init 19 = .ok (.putfield 18, 3) := by decide +kernel
theorem dX3_init_22 : decode cX3_init 22 = .ok (.aload_n 0, 1) := by decide +kernel
theorem dX3_init_23 : decode cX3_init 23 = .ok (.bipush 10, 2) := by decide +kernel
theorem dX3_init_25 : decode cX3_init 25 = .ok (.newarray .int, 2) := by decide +kernel
theorem dX3_init_27 : decode cX3_init 27 = .ok (.putfield 22, 3) := by decide +kernel
theorem dX3_init_30 : decode cX3_init 30 = .ok (.return_, 1) := by decide +kernel
theorem dX3_begin_0 : decode cX3_begin 0 = .ok (.aload_n 0, 1) := by decide +kernel
theorem dX3_begin_1 : decode cX3_begin 1 = .ok (.iconst 0, 1) := by decide +kernel
theorem dX3_begin_2 : decode cX3_begin 2 = .ok (.putfield 9, 3) := by decide +kernel
theorem dX3_begin_5 : decode cX3_begin 5 = .ok (.aload_n 0, 1) := by decide +kernel
theorem dX3_begin_6 : decode cX3_begin 6 = .ok (.iconst 0, 1) := by decide +kernel
theorem dX3_begin_7 : decode cX3_begin 7 = .ok (.putfield 15, 3) := by decide +kernel
theorem dX3_begin_10 : decode cX3_begin 10 = .ok (.aload_n 0, 1) := by decide +kernel
theorem dX3_begin_11 : decode cX3_begin 11 = .ok (.getfield 22, 3) := by decide +kernel
theorem dX3_begin_14 : decode cX3_begin 14 = .ok (.iconst 0, 1) := by decide +kernel
theorem dX3_begin_15 : decode cX3_begin 15 = .ok (.invokestatic 25, 3) := by decide +kernel
theorem dX3_begin_18 : decode cX3_begin 18 = .ok (.return_, 1) := by decide +kernel
theorem dX3_copyFrom_0 : decode cX3_copyFrom 0 = .ok (.aload_n 0, 1) := by decide +kernel
theorem dX3_copyFrom_1 : decode cX3_copyFrom 1 = .ok (.aload_n 1, 1) := by decide +kernel
theorem dX3_copyFrom_2 : decode cX3_copyFrom 2 = .ok (.getfield 9, 3) := by decide +kernel
theorem dX3_copyFrom_5 : decode cX3_copyFrom 5 = .ok (.putfield 9, 3) := by decide +kernel
theorem dX3_copyFrom_8 : decode cX3_copyFrom 8 = .ok (.aload_n 0, 1) := by decide +kernel
theorem dX3_copyFrom_9 : decode cX3_copyFrom 9 = .ok (.aload_n 1, 1) := by decide +kernel
theorem dX3_copyFrom_10 : decode cX3_copyFrom 10 = .ok (.getfield 15, 3) := by decide +kernel
theorem dX3_copyFrom_13 : decode cX3_copyFrom 13 = .ok (.putfield 15, 3) := by decide +kernel
theorem dX3_copyFrom_16 : decode cX3_copyFrom 16 = .ok (.aload_n 1, 1) := by decide +kernel
theorem dX3_copyFrom_17 : decode cX3_copyFrom 17 = .ok (.getfield 18, 3) := by decide +kernel
theorem dX3_copyFrom_20 : decode cX3_copyFrom 20 = .ok (.iconst 0, 1) := by decide +kernel
theorem dX3_copyFrom_21 : decode cX3_copyFrom 21 = .ok (.aload_n 0, 1) := by decide +kernel
theorem dX3_copyFrom_22 : decode cX3_copyFrom 22 = .ok (.getfield 18, 3) := by decide +kernel
theorem dX3_copyFrom_25 : decode cX3_copyFrom 25 = .ok (.iconst 0, 1) := by decide +kernel
theorem dX3_copyFrom_26 : decode cX3_copyFrom 26 = .ok (.aload_n 0, 1) := by decide +kernel
theorem dX3_copyFrom_27 : decode cX3_copyFrom 27 = .ok (.getfield 18, 3) := by decide +kernel
theorem dX3_copyFrom_30 : decode cX3_copyFrom 30 = .ok (.arraylength, 1) := by decide +kernel
theorem dX3_copyFrom_31 : decode cX3_copyFrom 31 = .ok (.invokestatic 31, 3) := by decide +kernel
theorem dX3_copyFrom_34 : decode cX3_copyFrom 34 = .ok (.aload_n 1, 1) := by decide +kernel
theorem dX3_copyFrom_35 : decode cX3_copyFrom 35 = .ok (.getfield 22, 3) := by decide +kernel
theorem dX3_copyFrom_38 : decode cX3_copyFrom 38 = .ok (.iconst 0, 1) := by decide +kernel
theorem dX3_copyFrom_39 : decode cX3_copyFrom 39 = .ok (.aload_n 0, 1) := by decide +kernel
theorem dX3_copyFrom_40 : decode cX3_copyFrom 40 = .ok (.getfield 22, 3) := by decide +kernel
theorem dX3_copyFrom_43 : decode cX3_copyFrom 43 = .ok (.iconst 0, 1) := by decide +kernel
theorem dX3_copyFrom_44 : decode cX3_copyFrom 44 = .ok (.aload_n 0, 1) := by decide +kernel
theorem dX3_copyFrom_45 : decode cX3_copyFrom 45 = .ok (.getfield 22, 3) := by decide +kernel
theorem dX3_copyFrom_48 : decode cX3_copyFrom 48 = .ok (.arraylength, 1) := by decide +kernel
theorem dX3_copyFrom_49 : decode cX3_copyFrom 49 = .ok (.invokestatic 31, 3) := by decide +kernel
theorem dX3_copyFrom_52 : decode cX3_copyFrom 52 = .ok (.return_, 1) := by decide +kernel
theorem dX3_add_0 : decode cX3_add 0 = .ok (.aload_n 0, 1) := by decide +kernel
theorem dX3_add_1 : decode cX3_add 1 = .ok (.getfield 15, 3) := by decide +kernel
theorem dX3_add_4 : decode cX3_add 4 = .ok (.iconst 3, 1) := by decide +kernel
theorem dX3_add_5 : decode cX3_add 5 = .ok (.imul, 1) := by decide +kernel
theorem dX3_add_6 : decode cX3_add 6 = .ok (.istore 4, 2) := by decide +kernel
theorem dX3_add_8 : decode cX3_add 8 = .ok (.aload_n 0, 1) := by decide +kernel
theorem dX3_add_9 : decode cX3_add 9 = .ok (.getfield 18, 3) := by decide +kernel
theorem dX3_add_12 : decode cX3_add 12 = .ok (.iload 4, 2) := by decide +kernel
theorem dX3_add_14 : decode cX3_add 14 = .ok (.iload_n 1, 1) := by decide +kernel
theorem dX3_add_15 : decode cX3_add 15 = .ok (.iastore, 1) := by decide +kernel
theorem dX3_add_16 : decode cX3_add 16 = .ok (.aload_n 0, 1) := by decide +kernel
theorem dX3_add_17 : decode cX3_add 17 = .ok (.getfield 18, 3) := by decide +kernel
theorem dX3_add_20 : decode cX3_add 20 = .ok (.iload 4, 2) := by decide +kernel
theorem dX3_add_22 : decode cX3_add 22 = .ok (.iconst 1, 1) := by decide +kernel
theorem dX3_add_23 : decode cX3_add 23 = .ok (.iadd, 1) := by decide +kernel
theorem dX3_add_24 : decode cX3_add 24 = .ok (.iload_n 2, 1) := by decide +kernel
theorem dX3_add_25 : decode cX3_add 25 = .ok (.iastore, 1) := by decide +kernel
theorem dX3_add_26 : decode cX3_add 26 = .ok (.aload_n 0, 1) := by decide +kernel
theorem dX3_add_27 : decode cX3_add 27 = .ok (.getfield 18, 3) := by decide +kernel
theorem dX3_add_30 : decode cX3_add 30 = .ok (.iload 4, 2) := by decide +kernel
theorem dX3_add_32 : decode cX3_add 32 = .ok (.iconst 2, 1) := by decide +kernel
theorem dX3_add_33 : decode cX3_add 33 = .ok (.iadd, 1) := by decide +kernel
theorem dX3_add_34 : decode cX3_add 34 = .ok (.iload_n 3, 1) := by decide +kernel
theorem dX3_add_35 : decode cX3_add 35 = .ok (.iastore, 1) := by decide +kernel
theorem dX3_add_36 : decode cX3_add 36 = .ok (.aload_n 0, 1) := by decide +kernel
theorem dX3_add_37 : decode cX3_add 37 = .ok (.aload_n 0, 1) := by decide +kernel
theorem dX3_add_38 : decode cX3_add 38 = .ok (.getfield 15, 3) := by decide +kernel
theorem dX3_add_41 : decode cX3_add 41 = .ok (.iconst 1, 1) := by decide +kernel
theorem dX3_add_42 : decode cX3_add 42 = .ok (.iadd, 1) := by decide +kernel
theorem dX3_add_43 : decode cX3_add 43 = .ok (.bipush 24, 2) := by decide +kernel
theorem dX3_add_45 : decode cX3_add 45 = .ok (.irem, 1) := by decide +kernel
theorem dX3_add_46 : decode cX3_add 46 = .ok (.putfield 15, 3) := by decide +kernel
theorem dX3_add_49 : decode cX3_add 49 = .ok (.aload_n 0, 1) := by decide +kernel
theorem dX3_add_50 : decode cX3_add 50 = .ok (.aload_n 0, 1) := by decide +kernel
theorem dX3_add_51 : decode cX3_add 51 = .ok (.getfield 9, 3) := by decide +kernel
theorem dX3_add_54 : decode cX3_add 54 = .ok (.iconst 1, 1) := by decide +kernel
theorem dX3_add_55 : decode cX3_add 55 = .ok (.iadd, 1) := by decide +kernel
theorem dX3_add_56 : decode cX3_add 56 = .ok (.bipush 24, 2) := by decide +kernel
theorem dX3_add_58 : decode cX3_add 58 = .ok (.invokestatic 37, 3) := by decide +kernel
theorem dX3_add_61 : decode cX3_add 61 = .ok (.putfield 9, 3) := by decide +kernel
theorem dX3_add_64 : decode cX3_add 64 = .ok (.aload_n 0, 1) := by decide +kernel
theorem dX3_add_65 : decode cX3_add 65 = .ok (.getfield 22, 3) := by decide +kernel
theorem dX3_add_68 : decode cX3_add 68 = .ok (.iload_n 1, 1) := by decide +kernel
theorem dX3_add_69 : decode cX3_add 69 = .ok (.dup2, 1) := by decide +kernel
theorem dX3_add_70 : decode cX3_add 70 = .ok (.iaload, 1) := by decide +kernel
theorem dX3_add_71 : decode cX3_add 71 = .ok (.iconst 1, 1) := by decide +kernel
theorem dX3_add_72 : decode cX3_add 72 = .ok (.iadd, 1) := by decide +kernel
theorem dX3_add_73 : decode cX3_add 73 = .ok (.iastore, 1) := by decide +kernel
theorem dX3_add_74 : decode cX3_add 74 = .ok (.return_, 1) := by decide +kernel
theorem dX3_partOf_0 : decode cX3_partOf 0 = .ok (.iload_n 1, 1) := by decide +kernel
theorem dX3_partOf_1 : decode cX3_partOf 1 = .ok (.ifCond .lt 11, 3) := by decide +kernel
theorem dX3_partOf_4 : decode cX3_partOf 4 = .ok (.iload_n 1, 1) := by decide +kernel
theorem dX3_partOf_5 : decode cX3_partOf 5 = .ok (.aload_n 0, 1) := by decide +kernel
theorem dX3_partOf_6 : decode cX3_partOf 6 = .ok (.getfield 9, 3) := by decide +kernel
theorem dX3_partOf_9 : decode cX3_partOf 9 = .ok (.if_icmp .lt 5, 3) := by decide +kernel
theorem dX3_partOf_12 : decode cX3_partOf 12 = .ok (.iconst (-1), 1) := by decide +kernel
theorem dX3_partOf_13 : decode cX3_partOf 13 = .ok (.ireturn, 1) := by decide +kernel
theorem dX3_partOf_14 : decode cX3_partOf 14 = .ok (.aload_n 0, 1) := by decide +kernel
theorem dX3_partOf_15 : decode cX3_partOf 15 = .ok (.getfield 15, 3) := by decide +kernel
theorem dX3_partOf_18 : decode cX3_partOf 18 = .ok (.iconst 1, 1) := by decide +kernel
theorem dX3_partOf_19 : decode cX3_partOf 19 = .ok (.isub, 1) := by decide +kernel
theorem dX3_partOf_20 : decode cX3_partOf 20 = .ok (.iload_n 1, 1) := by decide +kernel
theorem dX3_partOf_21 : decode cX3_partOf 21 = .ok (.isub, 1) := by decide +kernel
theorem dX3_partOf_22 : decode cX3_partOf 22 = .ok (.bipush 24, 2) := by decide +kernel
theorem dX3_partOf_24 : decode cX3_partOf 24 = .ok (.iadd, 1) := by decide +kernel
theorem dX3_partOf_25 : decode cX3_partOf 25 = .ok (.bipush 24, 2) := by decide +kernel
theorem dX3_partOf_27 : decode cX3_partOf 27 = .ok (.irem, 1) := by decide +kernel
theorem dX3_partOf_28 : decode cX3_partOf 28 = .ok (.istore_n 3, 1) := by decide +kernel
theorem dX3_partOf_29 : decode cX3_partOf 29 = .ok (.aload_n 0, 1) := by decide +kernel
theorem dX3_partOf_30 : decode cX3_partOf 30 = .ok (.getfield 18, 3) := by decide +kernel
theorem dX3_partOf_33 : decode cX3_partOf 33 = .ok (.iload_n 3, 1) := by decide +kernel
theorem dX3_partOf_34 : decode cX3_partOf 34 = .ok (.iconst 3, 1) := by decide +kernel
theorem dX3_partOf_35 : decode cX3_partOf 35 = .ok (.imul, 1) := by decide +kernel
theorem dX3_partOf_36 : decode cX3_partOf 36 = .ok (.iload_n 2, 1) := by decide +kernel
theorem dX3_partOf_37 : decode cX3_partOf 37 = .ok (.iadd, 1) := by decide +kernel
theorem dX3_partOf_38 : decode cX3_partOf 38 = .ok (.iaload, 1) := by decide +kernel
theorem dX3_partOf_39 : decode cX3_partOf 39 = .ok (.ireturn, 1) := by decide +kernel
theorem dX3_steps_0 : decode cX3_steps 0 = .ok (.iconst 0, 1) := by decide +kernel
theorem dX3_steps_1 : decode cX3_steps 1 = .ok (.istore_n 1, 1) := by decide +kernel
theorem dX3_steps_2 : decode cX3_steps 2 = .ok (.iconst 1, 1) := by decide +kernel
theorem dX3_steps_3 : decode cX3_steps 3 = .ok (.istore_n 2, 1) := by decide +kernel
theorem dX3_steps_4 : decode cX3_steps 4 = .ok (.iload_n 2, 1) := by decide +kernel
theorem dX3_steps_5 : decode cX3_steps 5 = .ok (.bipush 6, 2) := by decide +kernel
theorem dX3_steps_7 : decode cX3_steps 7 = .ok (.if_icmp .gt 18, 3) := by decide +kernel
theorem dX3_steps_10 : decode cX3_steps 10 = .ok (.iload_n 1, 1) := by decide +kernel
theorem dX3_steps_11 : decode cX3_steps 11 = .ok (.aload_n 0, 1) := by decide +kernel
theorem dX3_steps_12 : decode cX3_steps 12 = .ok (.getfield 22, 3) := by decide +kernel
theorem dX3_steps_15 : decode cX3_steps 15 = .ok (.iload_n 2, 1) := by decide +kernel
theorem dX3_steps_16 : decode cX3_steps 16 = .ok (.iaload, 1) := by decide +kernel
theorem dX3_steps_17 : decode cX3_steps 17 = .ok (.iadd, 1) := by decide +kernel
theorem dX3_steps_18 : decode cX3_steps 18 = .ok (.istore_n 1, 1) := by decide +kernel
theorem dX3_steps_19 : decode cX3_steps 19 = .ok (.iinc 2 1, 3) := by decide +kernel
theorem dX3_steps_22 : decode cX3_steps 22 = .ok (.goto (-18), 3) := by decide +kernel
theorem dX3_steps_25 : decode cX3_steps 25 = .ok (.iload_n 1, 1) := by decide +kernel
theorem dX3_steps_26 : decode cX3_steps 26 = .ok (.ireturn, 1) := by decide +kernel
theorem dX4_init_0 : decode cX4_init 0 = .ok (.aload_n 0, 1) := by decide +kernel
theorem dX4_init_1 : decode cX4_init 1 = .ok (.invokespecial 3, 3) := by decide +kernel
theorem dX4_init_4 : decode cX4_init 4 = .ok (.aload_n 0, 1) := by decide +kernel
theorem dX4_init_5 : decode cX4_init 5 = .ok (.new 9, 3) := by decide +kernel
theorem dX4_init_8 : decode cX4_init 8 = .ok (.dup, 1) := by decide +kernel
theorem dX4_init_9 : decode cX4_init 9 = .ok (.invokespecial 11, 3) := by decide +kernel
theorem dX4_init_12 : decode cX4_init 12 = .ok (.putfield 12, 3) := by decide +kernel
theorem dX4_init_15 : decode cX4_init 15 = .ok (.aload_n 0, 1) := by decide +kernel
theorem dX4_init_16 : decode cX4_init 16 = .ok (.new 18, 3) := by decide +kernel
theorem dX4_init_19 : decode cX4_init 19 = .ok (.dup, 1) := by decide +kernel
theorem dX4_init_20 : decode cX4_init 20 = .ok (.invokespecial 20, 3) := by decide +kernel
theorem dX4_init_23 : decode cX4_init 23 = .ok (.putfield 21, 3) := by decide +kernel
theorem dX4_init_26 : decode cX4_init 26 = .ok (.aload_n 0, 1) := by decide +kernel
theorem dX4_init_27 : decode cX4_init 27 = .ok (.bipush 10, 2) := by decide +kernel
theorem dX4_init_29 : decode cX4_init 29 = .ok (.newarray .int, 2) := by decide +kernel
theorem dX4_init_31 : decode cX4_init 31 = .ok (.putfield 25, 3) := by decide +kernel
theorem dX4_init_34 : decode cX4_init 34 = .ok (.aload_n 0, 1) := by decide +kernel
theorem dX4_init_35 : decode cX4_init 35 = .ok (.bipush 10, 2) := by decide +kernel
theorem dX4_init_37 : decode cX4_init 37 = .ok (.newarray .int, 2) := by decide +kernel
theorem dX4_init_39 : decode cX4_init 39 = .ok (.putfield 29, 3) := by decide +kernel
theorem dX4_init_42 : decode cX4_init 42 = .ok (.aload_n 0, 1) := by decide +kernel
theorem dX4_init_43 : decode cX4_init 43 = .ok (.bipush 10, 2) := by decide +kernel
theorem dX4_init_45 : decode cX4_init 45 = .ok (.newarray .int, 2) := by decide +kernel
theorem dX4_init_47 : decode cX4_init 47 = .ok (.putfield 32, 3) := by decide +kernel
theorem dX4_init_50 : decode cX4_init 50 = .ok (.aload_n 0, 1) := by decide +kernel
theorem dX4_init_51 : decode cX4_init 51 = .ok (.bipush 10, 2) := by decide +kernel
theorem dX4_init_53 : decode cX4_init 53 = .ok (.newarray .int, 2) := by decide +kernel
theorem dX4_init_55 : decode cX4_init 55 = .ok (.putfield 35, 3) := by decide +kernel
theorem dX4_init_58 : decode cX4_init 58 = .ok (.aload_n 0, 1) := by decide +kernel
theorem dX4_init_59 : decode cX4_init 59 = .ok (.bipush 50, 2) := by decide +kernel
theorem dX4_init_61 : decode cX4_init 61 = .ok (.newarray .int, 2) := by decide +kernel
theorem dX4_init_63 : decode cX4_init 63 = .ok (.putfield 38, 3) := by decide +kernel
theorem dX4_init_66 : decode cX4_init 66 = .ok (.aload_n 0, 1) := by decide +kernel
theorem dX4_init_67 : decode cX4_init 67 = .ok (.aload_n 1, 1) := by decide +kernel
theorem dX4_init_68 : decode cX4_init 68 = .ok (.putfield 41, 3) := by decide +kernel
theorem dX4_init_71 : decode cX4_init 71 = .ok (.aload_n 0, 1) := by decide +kernel
theorem dX4_init_72 : decode cX4_init 72 = .ok (.new 45, 3) := by decide +kernel
theorem dX4_init_75 : decode cX4_init 75 = .ok (.dup, 1) := by decide +kernel
theorem dX4_init_76 : decode cX4_init 76 = .ok (.aload_n 2, 1) := by decide +kernel
theorem dX4_init_77 : decode cX4_init 77 = .ok (.invokespecial 47, 3) := by decide +kernel
theorem dX4_init_80 : decode cX4_init 80 = .ok (.putfield 50, 3) := by decide +kernel
theorem dX4_init_83 : decode cX4_init 83 = .ok (.aload_n 0, 1) := by decide +kernel
theorem dX4_init_84 : decode cX4_init 84 = .ok (.aload_n 2, 1) := by decide +kernel
theorem dX4_init_85 : decode cX4_init 85 = .ok (.invokevirtual 54, 3) := by decide +kernel
theorem dX4_init_88 : decode cX4_init 88 = .ok (.return_, 1) := by decide +kernel
theorem dX4_begin_0 : decode cX4_begin 0 = .ok (.aload_n 0, 1) := by decide +kernel
theorem dX4_begin_1 : decode cX4_begin 1 = .ok (.aload_n 1, 1) := by decide +kernel
theorem dX4_begin_2 : decode cX4_begin 2 = .ok (.putfield 57, 3) := by decide +kernel
theorem dX4_begin_5 : decode cX4_begin 5 = .ok (.aload_n 0, 1) := by decide +kernel
theorem dX4_begin_6 : decode cX4_begin 6 = .ok (.getfield 50, 3) := by decide +kernel
theorem dX4_begin_9 : decode cX4_begin 9 = .ok (.aload_n 1, 1) := by decide +kernel
theorem dX4_begin_10 : decode cX4_begin 10 = .ok (.invokevirtual 61, 3) := by decide +kernel
theorem dX4_begin_13 : decode cX4_begin 13 = .ok (.aload_n 0, 1) := by decide +kernel
theorem dX4_begin_14 : decode cX4_begin 14 = .ok (.getfield 12, 3) := by decide +kernel
theorem dX4_begin_17 : decode cX4_begin 17 = .ok (.aload_n 1, 1) := by decide +kernel
theorem dX4_begin_18 : decode cX4_begin 18 = .ok (.invokevirtual 62, 3) := by decide +kernel
theorem dX4_begin_21 : decode cX4_begin 21 = .ok (.aload_n 0, 1) := by decide +kernel
theorem dX4_begin_22 : decode cX4_begin 22 = .ok (.getfield 21, 3) := by decide +kernel
theorem dX4_begin_25 : decode cX4_begin 25 = .ok (.invokevirtual 63, 3) := by decide +kernel
theorem dX4_begin_28 : decode cX4_begin 28 = .ok (.aload_n 0, 1) := by decide +kernel
theorem dX4_begin_29 : decode cX4_begin 29 = .ok (.iconst 0, 1) := by decide +kernel
theorem dX4_begin_30 : decode cX4_begin 30 = .ok (.putfield 65, 3) := by decide +kernel
theorem dX4_begin_33 : decode cX4_begin 33 = .ok (.aload_n 0, 1) := by decide +kernel
theorem dX4_begin_34 : decode cX4_begin 34 = .ok (.aload_n 1, 1) := by decide +kernel
theorem dX4_begin_35 : decode cX4_begin 35 = .ok (.getfield 69, 3) := by decide +kernel
theorem dX4_begin_38 : decode cX4_begin 38 = .ok (.putfield 74, 3) := by decide +kernel
theorem dX4_begin_41 : decode cX4_begin 41 = .ok (.aload_n 0, 1) := by decide +kernel
theorem dX4_begin_42 : decode cX4_begin 42 = .ok (.iconst (-1), 1) := by decide +kernel
theorem dX4_begin_43 : decode cX4_begin 43 = .ok (.putfield 75, 3) := by decide +kernel
theorem dX4_begin_46 : decode cX4_begin 46 = .ok (.aload_n 0, 1) := by decide +kernel
theorem dX4_begin_47 : decode cX4_begin 47 = .ok (.getfield 25, 3) := by decide +kernel
theorem dX4_begin_50 : decode cX4_begin 50 = .ok (.iconst 0, 1) := by decide +kernel
theorem dX4_begin_51 : decode cX4_begin 51 = .ok (.invokestatic 78, 3) := by decide +kernel
theorem dX4_begin_54 : decode cX4_begin 54 = .ok (.aload_n 0, 1) := by decide +kernel
theorem dX4_begin_55 : decode cX4_begin 55 = .ok (.getfield 29, 3) := by decide +kernel
theorem dX4_begin_58 : decode cX4_begin 58 = .ok (.iconst 0, 1) := by decide +kernel
theorem dX4_begin_59 : decode cX4_begin 59 = .ok (.invokestatic 78, 3) := by decide +kernel
theorem dX4_begin_62 : decode cX4_begin 62 = .ok (.aload_n 0, 1) := by decide +kernel
theorem dX4_begin_63 : decode cX4_begin 63 = .ok (.getfield 35, 3) := by decide +kernel
theorem dX4_begin_66 : decode cX4_begin 66 = .ok (.iconst 0, 1) := by decide +kernel
theorem dX4_begin_67 : decode cX4_begin 67 = .ok (.invokestatic 78, 3) := by decide +kernel
theorem dX4_begin_70 : decode cX4_begin 70 = .ok (.return_, 1) := by decide +kernel
theorem dX4_copyFrom_0 : decode cX4_copyFrom 0 = .ok (.aload_n 0, 1) := by decide +kernel
theorem dX4_copyFrom_1 : decode cX4_copyFrom 1 = .ok (.aload_n 1, 1) := by decide +kernel
theorem dX4_copyFrom_2 : decode cX4_copyFrom 2 = .ok (.getfield 57, 3) := by decide +kernel
theorem dX4_copyFrom_5 : decode cX4_copyFrom 5 = .ok (.putfield 57, 3) := by decide +kernel
theorem dX4_copyFrom_8 : decode cX4_copyFrom 8 = .ok (.aload_n 0, 1) := by decide +kernel
theorem dX4_copyFrom_9 : decode cX4_copyFrom 9 = .ok (.getfield 50, 3) := by decide +kernel
theorem dX4_copyFrom_12 : decode cX4_copyFrom 12 = .ok (.aload_n 1, 1) := by decide +kernel
theorem dX4_copyFrom_13 : decode cX4_copyFrom 13 = .ok (.getfield 50, 3) := by decide +kernel
theorem dX4_copyFrom_16 : decode cX4_copyFrom 16 = .ok (.invokevirtual 84, 3) := by decide +kernel
theorem dX4_copyFrom_19 : decode cX4_copyFrom 19 = .ok (.aload_n 0, 1) := by decide +kernel
theorem dX4_copyFrom_20 : decode cX4_copyFrom 20 = .ok (.getfield 12, 3) := by decide +kernel
theorem dX4_copyFrom_23 : decode cX4_copyFrom 23 = .ok (.aload_n 1, 1) := by decide +kernel
theorem dX4_copyFrom_24 : decode cX4_copyFrom 24 = .ok (.getfield 12, 3) := by decide +kernel
theorem dX4_copyFrom_27 : decode cX4_copyFrom 27 = .ok (.invokevirtual 88, 3) := by decide +kernel
theorem dX4_copyFrom_30 : decode cX4_copyFrom 30 = .ok (.aload_n 0, 1) := by decide +kernel
theorem dX4_copyFrom_31 : decode cX4_copyFrom 31 = .ok (.getfield 21, 3) := by decide +kernel
theorem dX4_copyFrom_34 : decode cX4_copyFrom 34 = .ok (.aload_n 1, 1) := by decide +kernel
theorem dX4_copyFrom_35 : decode cX4_copyFrom 35 = .ok (.getfield 21, 3) := by decide +kernel
theorem dX4_copyFrom_38 : decode cX4_copyFrom 38 = .ok (.invokevirtual 91, 3) := by decide +kernel
theorem dX4_copyFrom_41 : decode cX4_copyFrom 41 = .ok (.aload_n 0, 1) := by decide +kernel
theorem dX4_copyFrom_42 : decode cX4_copyFrom 42 = .ok (.aload_n 1, 1) := by decide +kernel
theorem dX4_copyFrom_43 : decode cX4_copyFrom 43 = .ok (.getfield 65, 3) := by decide +kernel
theorem dX4_copyFrom_46 : decode cX4_copyFrom 46 = .ok (.putfield 65, 3) := by decide +kernel
theorem dX4_copyFrom_49 : decode cX4_copyFrom 49 = .ok (.aload_n 0, 1) := by decide +kernel
theorem dX4_copyFrom_50 : decode cX4_copyFrom 50 = .ok (.aload_n 1, 1) := by decide +kernel
theorem dX4_copyFrom_51 : decode cX4_copyFrom 51 = .ok (.getfield 74, 3) := by decide +kernel
theorem dX4_copyFrom_54 : decode cX4_copyFrom 54 = .ok (.putfield 74, 3) := by decide +kernel
theorem dX4_copyFrom_57 : decode cX4_copyFrom 57 = .ok (.aload_n 0, 1) := by decide +kernel
theorem dX4_copyFrom_58 : decode cX4_copyFrom 58 = .ok (.aload_n 1, 1) := by decide +kernel
theorem dX4_copyFrom_59 : decode cX4_copyFrom 59 = .ok (.getfield 75, 3) := by decide +kernel
theorem dX4_copyFrom_62 : decode cX4_copyFrom 62 = .ok (.putfield 75, 3) := by decide +kernel
theorem dX4_copyFrom_65 : decode cX4_copyFrom 65 = .ok (.aload_n 1, 1) := by decide +kernel
theorem dX4_copyFrom_66 : decode cX4_copyFrom 66 = .ok (.getfield 25, 3) := by decide +kernel
theorem dX4_copyFrom_69 : decode cX4_copyFrom 69 = .ok (.iconst 0, 1) := by decide +kernel
theorem dX4_copyFrom_70 : decode cX4_copyFrom 70 = .ok (.aload_n 0, 1) := by decide +kernel
theorem dX4_copyFrom_71 : decode cX4_copyFrom 71 = .ok (.getfield 25, 3) := by decide +kernel
theorem dX4_copyFrom_74 : decode cX4_copyFrom 74 = .ok (.iconst 0, 1) := by decide +kernel
theorem dX4_copyFrom_75 : decode cX4_copyFrom 75 = .ok (.aload_n 0, 1) := by decide +kernel
theorem dX4_copyFrom_76 : decode cX4_copyFrom 76 = .ok (.getfield 25, 3) := by decide +kernel
theorem dX4_copyFrom_79 : decode cX4_copyFrom 79 = .ok (.arraylength, 1) := by decide +kernel
theorem dX4_copyFrom_80 : decode cX4_copyFrom 80 = .ok (.invokestatic 94, 3) := by decide +kernel
theorem dX4_copyFrom_83 : decode cX4_copyFrom 83 = .ok (.aload_n 1, 1) := by decide +kernel
theorem dX4_copyFrom_84 : decode cX4_copyFrom 84 = .ok (.getfield 29, 3) := by decide +kernel
theorem dX4_copyFrom_87 : decode cX4_copyFrom 87 = .ok (.iconst 0, 1) := by decide +kernel
theorem dX4_copyFrom_88 : decode cX4_copyFrom 88 = .ok (.aload_n 0, 1) := by decide +kernel
theorem dX4_copyFrom_89 : decode cX4_copyFrom 89 = .ok (.getfield 29, 3) := by decide +kernel
theorem dX4_copyFrom_92 : decode cX4_copyFrom 92 = .ok (.iconst 0, 1) := by decide +kernel
theorem dX4_copyFrom_93 : decode cX4_copyFrom 93 = .ok (.aload_n 0, 1) := by decide +kernel
theorem dX4_copyFrom_94 : decode cX4_copyFrom 94 = .ok (.getfield 29, 3) := by decide +kernel
theorem dX4_copyFrom_97 : decode cX4_copyFrom 97 = .ok (.arraylength, 1) := by decide +kernel
theorem dX4_copyFrom_98 : decode cX4_copyFrom 98 = .ok (.invokestatic 94, 3) := by decide +kernel
theorem dX4_copyFrom_101 : decode cX4_copyFrom 101 = .ok (.aload_n 1, 1) := by decide +kernel
theorem dX4_copyFrom_102 : decode cX4_copyFrom 102 = .ok (.getfield 32, 3) := by decide +kernel
theorem dX4_copyFrom_105 : decode cX4_copyFrom 105 = .ok (.iconst 0, 1) := by decide +kernel
theorem dX4_copyFrom_106 : decode cX4_copyFrom 106 = .ok (.aload_n 0, 1) := by decide +kernel
theorem dX4_copyFrom_107 : decode cX4_copyFrom 107 = .ok (.getfield 32, 3) := by decide +kernel
theorem dX4_copyFrom_110 : decode cX4_copyFrom 110 = .ok (.iconst 0, 1) := by decide +kernel
theorem dX4_copyFrom_111 : decode cX4_copyFrom 111 = .ok (.aload_n 0, 1) := by decide +kernel
theorem dX4_copyFrom_112 : decode cX4_copyFrom 112 = .ok (.getfield 32, 3) := by decide +kernel
theorem dX4_copyFrom_115 : decode cX4_copyFrom 115 = .ok (.arraylength, 1) := by decide +kernel
theorem dX4_copyFrom_116 : decode cX4_copyFrom 116 = .ok (.invokestatic 94, 3) := by decide +kernel
theorem dX4_copyFrom_119 : decode cX4_copyFrom 119 = .ok (.aload_n 1, 1) := by decide +kernel
theorem dX4_copyFrom_120 : decode cX4_copyFrom 120 = .ok (.getfield 35, 3) := by decide +kernel
theorem dX4_copyFrom_123 : decode cX4_copyFrom 123 = .ok (.iconst 0, 1) := by decide +kernel
theorem dX4_copyFrom_124 : decode cX4_copyFrom 124 = .ok (.aload_n 0, 1) := by decide +kernel
theorem dX4_copyFrom_125 : decode cX4_copyFrom 125 = .ok (.getfield 35, 3) := by decide +kernel
theorem dX4_copyFrom_128 : decode cX4_copyFrom 128 = .ok (.iconst 0, 1) := by decide +kernel
theorem dX4_copyFrom_129 : decode cX4_copyFrom 129 = .ok (.aload_n 0, 1) := by decide +kernel
theorem dX4_copyFrom_130 : decode cX4_copyFrom 130 = .ok (.getfield 35, 3) := by decide +kernel
theorem dX4_copyFrom_133 : decode cX4_copyFrom 133 = .ok (.arraylength, 1) := by decide +kernel
theorem dX4_copyFrom_134 : decode cX4_copyFrom 134 = .ok (.invokestatic 94, 3) := by decide +kernel
theorem dX4_copyFrom_137 : decode cX4_copyFrom 137 = .ok (.aload_n 1, 1) := by decide +kernel
theorem dX4_copyFrom_138 : decode cX4_copyFrom 138 = .ok (.getfield 38, 3) := by decide +kernel
theorem dX4_copyFrom_141 : decode cX4_copyFrom 141 = .ok (.iconst 0, 1) := by decide +kernel
theorem dX4_copyFrom_142 : decode cX4_copyFrom 142 = .ok (.aload_n 0, 1) := by decide +kernel
theorem dX4_copyFrom_143 : decode cX4_copyFrom 143 = .ok (.getfield 38, 3) := by decide +kernel
theorem dX4_copyFrom_146 : decode cX4_copyFrom 146 = .ok (.iconst 0, 1) := by decide +kernel
theorem dX4_copyFrom_147 : decode cX4_copyFrom 147 = .ok (.aload_n 0, 1) := by decide +kernel
theorem dX4_copyFrom_148 : decode cX4_copyFrom 148 = .ok (.getfield 38, 3) := by decide +kernel
theorem dX4_copyFrom_151 : decode cX4_copyFrom 151 = .ok (.arraylength, 1) := by decide +kernel
theorem dX4_copyFrom_152 : decode cX4_copyFrom 152 = .ok (.invokestatic 94, 3) := by decide +kernel
theorem dX4_copyFrom_155 : decode cX4_copyFrom 155 = .ok (.return_, 1) := by decide +kernel
theorem dX4_complaintsOfAll_0 : decode cX4_complaintsOfAll 0 = .ok (.iconst 0, 1) := by decide +kernel
theorem dX4_complaintsOfAll_1 : decode cX4_complaintsOfAll 1 = .ok (.istore_n 1, 1) := by decide +kernel
theorem dX4_complaintsOfAll_2 : decode cX4_complaintsOfAll 2 = .ok (.iconst 0, 1) := by decide +kernel
theorem dX4_complaintsOfAll_3 : decode cX4_complaintsOfAll 3 = .ok (.istore_n 2, 1) := by decide +kernel
theorem dX4_complaintsOfAll_4 : decode cX4_complaintsOfAll 4 = .ok (.iload_n 2, 1) := by decide +kernel
theorem dX4_complaintsOfAll_5 : decode cX4_complaintsOfAll 5 = .ok (.aload_n 0, 1) := by decide +kernel
theorem dX4_complaintsOfAll_6 : decode cX4_complaintsOfAll 6 = .ok (.getfield 57, 3) := by decide +kernel
theorem dX4_complaintsOfAll_9 : decode cX4_complaintsOfAll 9 = .ok (.getfield 100, 3) := by decide +kernel
theorem dX4_complaintsOfAll_12 : decode cX4_complaintsOfAll 12 = .ok (.if_icmp .ge 18, 3) := by decide +kernel
theorem dX4_complaintsOfAll_15 : decode cX4_complaintsOfAll 15 = .ok (.iload_n 1, 1) := by decide +kernel
theorem dX4_complaintsOfAll_16 : decode cX4_complaintsOfAll 16 = .ok (.aload_n 0, 1) := by decide +kernel
theorem dX4_complaintsOfAll_17 : decode cX4_complaintsOfAll 17 = .ok (.getfield 29, 3) := by decide +kernel
theorem dX4_complaintsOfAll_20 : decode cX4_complaintsOfAll 20 = .ok (.iload_n 2, 1) := by decide +kernel
theorem dX4_complaintsOfAll_21 : decode cX4_complaintsOfAll 21 = .ok (.iaload, 1) := by decide +kernel
theorem dX4_complaintsOfAll_22 : decode cX4_complaintsOfAll 22 = .ok (.iadd, 1) := by decide +kernel
theorem dX4_complaintsOfAll_23 : decode cX4_complaintsOfAll 23 = .ok (.istore_n 1, 1) := by decide +kernel
theorem dX4_complaintsOfAll_24 : decode cX4_complaintsOfAll 24 = .ok (.iinc 2 1, 3) := by decide +kernel
theorem dX4_complaintsOfAll_27 : decode cX4_complaintsOfAll 27 = .ok (.goto (-23), 3) := by decide +kernel
theorem dX4_complaintsOfAll_30 : decode cX4_complaintsOfAll 30 = .ok (.iload_n 1, 1) := by decide +kernel
theorem dX4_complaintsOfAll_31 : decode cX4_complaintsOfAll 31 = .ok (.ireturn, 1) := by decide +kernel
theorem dX4_isPrecious_0 : decode cX4_isPrecious 0 = .ok (.aload_n 0, 1) := by decide +kernel
theorem dX4_isPrecious_1 : decode cX4_isPrecious 1 = .ok (.getfield 29, 3) := by decide +kernel
theorem dX4_isPrecious_4 : decode cX4_isPrecious 4 = .ok (.iload_n 1, 1) := by decide +kernel
theorem dX4_isPrecious_5 : decode cX4_isPrecious 5 = .ok (.iaload, 1) := by decide +kernel
theorem dX4_isPrecious_6 : decode cX4_isPrecious 6 = .ok (.ifCond .le 23, 3) := by decide +kernel
theorem dX4_isPrecious_9 : decode cX4_isPrecious 9 = .ok (.aload_n 0, 1) := by decide +kernel
theorem dX4_isPrecious_10 : decode cX4_isPrecious 10 = .ok (.getfield 65, 3) := by decide +kernel
theorem dX4_isPrecious_13 : decode cX4_isPrecious 13 = .ok (.aload_n 0, 1) := by decide +kernel
theorem dX4_isPrecious_14 : decode cX4_isPrecious 14 = .ok (.getfield 32, 3) := by decide +kernel
theorem dX4_isPrecious_17 : decode cX4_isPrecious 17 = .ok (.iload_n 1, 1) := by decide +kernel
theorem dX4_isPrecious_18 : decode cX4_isPrecious 18 = .ok (.iaload, 1) := by decide +kernel
theorem dX4_isPrecious_19 : decode cX4_isPrecious 19 = .ok (.isub, 1) := by decide +kernel
theorem dX4_isPrecious_20 : decode cX4_isPrecious 20 = .ok (.bipush 60, 2) := by decide +kernel
theorem dX4_isPrecious_22 : decode cX4_isPrecious 22 = .ok (.if_icmp .ge 7, 3) := by decide +kernel
theorem dX4_isPrecious_25 : decode cX4_isPrecious 25 = .ok (.iconst 1, 1) := by decide +kernel
theorem dX4_isPrecious_26 : decode cX4_isPrecious 26 = .ok (.goto 4, 3) := by decide +kernel
theorem dX4_isPrecious_29 : decode cX4_isPrecious 29 = .ok (.iconst 0, 1) := by decide +kernel
theorem dX4_isPrecious_30 : decode cX4_isPrecious 30 = .ok (.ireturn, 1) := by decide +kernel
theorem dX4_prepareTrims_0 : decode cX4_prepareTrims 0 = .ok (.aload_n 0, 1) := by decide +kernel
theorem dX4_prepareTrims_1 : decode cX4_prepareTrims 1 = .ok (.getfield 41, 3) := by decide +kernel
theorem dX4_prepareTrims_4 : decode cX4_prepareTrims 4 = .ok (.getfield 103, 3) := by decide +kernel
theorem dX4_prepareTrims_7 : decode cX4_prepareTrims 7 = .ok (.aload_n 0, 1) := by decide +kernel
theorem dX4_prepareTrims_8 : decode cX4_prepareTrims 8 = .ok (.getfield 50, 3) := by decide +kernel
theorem dX4_prepareTrims_11 : decode cX4_prepareTrims 11 = .ok (.invokevirtual 84, 3) := by decide +kernel
theorem dX4_prepareTrims_14 : decode cX4_prepareTrims 14 = .ok (.aload_n 0, 1) := by decide +kernel
theorem dX4_prepareTrims_15 : decode cX4_prepareTrims 15 = .ok (.getfield 41, 3) := by decide +kernel
theorem dX4_prepareTrims_18 : decode cX4_prepareTrims 18 = .ok (.aload_n 0, 1) := by decide +kernel
theorem dX4_prepareTrims_19 : decode cX4_prepareTrims 19 = .ok (.getfield 74, 3) := by decide +kernel
theorem dX4_prepareTrims_22 : decode cX4_prepareTrims 22 = .ok (.iconst 1, 1) := by decide +kernel
theorem dX4_prepareTrims_23 : decode cX4_prepareTrims 23 = .ok (.if_icmp .ne 7, 3) := by decide +kernel
theorem dX4_prepareTrims_26 : decode cX4_prepareTrims 26 = .ok (.iconst 1, 1) := by decide +kernel
theorem dX4_prepareTrims_27 : decode cX4_prepareTrims 27 = .ok (.goto 4, 3) := by decide +kernel
theorem dX4_prepareTrims_30 : decode cX4_prepareTrims 30 = .ok (.iconst 0, 1) := by decide +kernel
theorem dX4_prepareTrims_31 : decode cX4_prepareTrims 31 = .ok (.putfield 106, 3) := by decide +kernel
theorem dX4_prepareTrims_34 : decode cX4_prepareTrims 34 = .ok (.iconst 0, 1) := by decide +kernel
theorem dX4_prepareTrims_35 : decode cX4_prepareTrims 35 = .ok (.istore_n 1, 1) := by decide +kernel
theorem dX4_prepareTrims_36 : decode cX4_prepareTrims 36 = .ok (.iload_n 1, 1) := by decide +kernel
theorem dX4_prepareTrims_37 : decode cX4_prepareTrims 37 = .ok (.aload_n 0, 1) := by decide +kernel
theorem dX4_prepareTrims_38 : decode cX4_prepareTrims 38 = .ok (.getfield 57, 3) := by decide +kernel
theorem dX4_prepareTrims_41 : decode cX4_prepareTrims 41 = .ok (.getfield 100, 3) := by decide +kernel
theorem dX4_prepareTrims_44 : decode cX4_prepareTrims 44 = .ok (.if_icmp .ge 110, 3) := by decide +kernel
theorem dX4_prepareTrims_47 : decode cX4_prepareTrims 47 = .ok (.aload_n 0, 1) := by decide +kernel
theorem dX4_prepareTrims_48 : decode cX4_prepareTrims 48 = .ok (.getfield 41, 3) := by decide +kernel
theorem dX4_prepareTrims_51 : decode cX4_prepareTrims 51 = .ok (.getfield 110, 3) := by decide +kernel
theorem dX4_prepareTrims_54 : decode cX4_prepareTrims 54 = .ok (.iload_n 1, 1) := by decide +kernel
theorem dX4_prepareTrims_55 : decode cX4_prepareTrims 55 = .ok (.aload_n 0, 1) := by decide +kernel
theorem dX4_prepareTrims_56 : decode cX4_prepareTrims 56 = .ok (.iload_n 1, 1) := by decide +kernel
theorem dX4_prepareTrims_57 : decode cX4_prepareTrims 57 = .ok (.invokevirtual 114, 3) := by decide +kernel
theorem dX4_prepareTrims_60 : decode cX4_prepareTrims 60 = .ok (.bastore, 1) := by decide +kernel
theorem dX4_prepareTrims_61 : decode cX4_prepareTrims 61 = .ok (.aload_n 0, 1) := by decide +kernel
theorem dX4_prepareTrims_62 : decode cX4_prepareTrims 62 = .ok (.getfield 74, 3) := by decide +kernel
theorem dX4_prepareTrims_65 : decode cX4_prepareTrims 65 = .ok (.iconst 1, 1) := by decide +kernel
theorem dX4_prepareTrims_66 : decode cX4_prepareTrims 66 = .ok (.if_icmp .ne 23, 3) := by decide +kernel
theorem dX4_prepareTrims_69 : decode cX4_prepareTrims 69 = .ok (.aload_n 0, 1) := by decide +kernel
theorem dX4_prepareTrims_70 : decode cX4_prepareTrims 70 = .ok (.getfield 41, 3) := by decide +kernel
theorem dX4_prepareTrims_73 : decode cX4_prepareTrims 73 = .ok (.getfield 118, 3) := by decide +kernel
theorem dX4_prepareTrims_76 : decode cX4_prepareTrims 76 = .ok (.iload_n 1, 1) := by decide +kernel
theorem dX4_prepareTrims_77 : decode cX4_prepareTrims 77 = .ok (.aload_n 0, 1) := by decide +kernel
theorem dX4_prepareTrims_78 : decode cX4_prepareTrims 78 = .ok (.getfield 50, 3) := by decide +kernel
theorem dX4_prepareTrims_81 : decode cX4_prepareTrims 81 = .ok (.iload_n 1, 1) := by decide +kernel
theorem dX4_prepareTrims_82 : decode cX4_prepareTrims 82 = .ok (.invokevirtual 121, 3) := by decide +kernel
theorem dX4_prepareTrims_85 : decode cX4_prepareTrims 85 = .ok (.iastore, 1) := by decide +kernel
theorem dX4_prepareTrims_86 : decode cX4_prepareTrims 86 = .ok (.goto 62, 3) := by decide +kernel
theorem dX4_prepareTrims_89 : decode cX4_prepareTrims 89 = .ok (.aload_n 0, 1) := by decide +kernel
theorem dX4_prepareTrims_90 : decode cX4_prepareTrims 90 = .ok (.getfield 74, 3) := by decide +kernel
theorem dX4_prepareTrims_93 : decode cX4_prepareTrims 93 = .ok (.iconst 2, 1) := by decide +kernel
theorem dX4_prepareTrims_94 : decode cX4_prepareTrims 94 = .ok (.if_icmp .ne 29, 3) := by decide +kernel
theorem dX4_prepareTrims_97 : decode cX4_prepareTrims 97 = .ok (.aload_n 0, 1) := by decide +kernel
theorem dX4_prepareTrims_98 : decode cX4_prepareTrims 98 = .ok (.getfield 41, 3) := by decide +kernel
theorem dX4_prepareTrims_101 : decode cX4_prepareTrims 101 = .ok (.getfield 118, 3) := by decide +kernel
theorem dX4_prepareTrims_104 : decode cX4_prepareTrims 104 = .ok (.iload_n 1, 1) := by decide +kernel
theorem dX4_prepareTrims_105 : decode cX4_prepareTrims 105 = .ok (.aload_n 0, 1) := by decide +kernel
theorem dX4_prepareTrims_106 : decode cX4_prepareTrims 106 = .ok (.getfield 65, 3) := by decide +kernel
theorem dX4_prepareTrims_109 : decode cX4_prepareTrims 109 = .ok (.aload_n 0, 1) := by decide +kernel
theorem dX4_prepareTrims_110 : decode cX4_prepareTrims 110 = .ok (.getfield 12, 3) := by decide +kernel
theorem dX4_prepareTrims_113 : decode cX4_prepareTrims 113 = .ok (.getfield 125, 3) := by decide +kernel
theorem dX4_prepareTrims_116 : decode cX4_prepareTrims 116 = .ok (.iload_n 1, 1) := by decide +kernel
theorem dX4_prepareTrims_117 : decode cX4_prepareTrims 117 = .ok (.iaload, 1) := by decide +kernel
theorem dX4_prepareTrims_118 : decode cX4_prepareTrims 118 = .ok (.isub, 1) := by decide +kernel
theorem dX4_prepareTrims_119 : decode cX4_prepareTrims 119 = .ok (.iastore, 1) := by decide +kernel
theorem dX4_prepareTrims_120 : decode cX4_prepareTrims 120 = .ok (.goto 28, 3) := by decide +kernel
theorem dX4_prepareTrims_123 : decode cX4_prepareTrims 123 = .ok (.aload_n 0, 1) := by decide +kernel
theorem dX4_prepareTrims_124 : decode cX4_prepareTrims 124 = .ok (.getfield 41, 3) := by decide +kernel
theorem dX4_prepareTrims_127 : decode cX4_prepareTrims 127 = .ok (.getfield 118, 3) := by decide +kernel
theorem dX4_prepareTrims_130 : decode cX4_prepareTrims 130 = .ok (.iload_n 1, 1) := by decide +kernel
theorem dX4_prepareTrims_131 : decode cX4_prepareTrims 131 = .ok (.aload_n 0, 1) := by decide +kernel
theorem dX4_prepareTrims_132 : decode cX4_prepareTrims 132 = .ok (.getfield 12, 3) := by decide +kernel
theorem dX4_prepareTrims_135 : decode cX4_prepareTrims 135 = .ok (.iload_n 1, 1) := by decide +kernel
theorem dX4_prepareTrims_136 : decode cX4_prepareTrims 136 = .ok (.aload_n 0, 1) := by decide +kernel
theorem dX4_prepareTrims_137 : decode cX4_prepareTrims 137 = .ok (.getfield 75, 3) := by decide +kernel
theorem dX4_prepareTrims_140 : decode cX4_prepareTrims 140 = .ok (.aload_n 0, 1) := by decide +kernel
theorem dX4_prepareTrims_141 : decode cX4_prepareTrims 141 = .ok (.getfield 65, 3) := by decide +kernel
theorem dX4_prepareTrims_144 : decode cX4_prepareTrims 144 = .ok (.invokevirtual 128, 3) := by decide +kernel
theorem dX4_prepareTrims_147 : decode cX4_prepareTrims 147 = .ok (.iastore, 1) := by decide +kernel
theorem dX4_prepareTrims_148 : decode cX4_prepareTrims 148 = .ok (.iinc 1 1, 3) := by decide +kernel
theorem dX4_prepareTrims_151 : decode cX4_prepareTrims 151 = .ok (.goto (-115), 3) := by decide +kernel
theorem dX4_prepareTrims_154 : decode cX4_prepareTrims 154 = .ok (.return_, 1) := by decide +kernel
theorem dX4_makeMemory_0 : decode cX4_makeMemory 0 = .ok (.aload_n 0, 1) := by decide +kernel
theorem dX4_makeMemory_1 : decode cX4_makeMemory 1 = .ok (.getfield 50, 3) := by decide +kernel
theorem dX4_makeMemory_4 : decode cX4_makeMemory 4 = .ok (.invokevirtual 132, 3) := by decide +kernel
theorem dX4_makeMemory_7 : decode cX4_makeMemory 7 = .ok (.ifCond .ne 5, 3) := by decide +kernel
theorem dX4_makeMemory_10 : decode cX4_makeMemory 10 = .ok (.iconst 1, 1) := by decide +kernel
theorem dX4_makeMemory_11 : decode cX4_makeMemory 11 = .ok (.ireturn, 1) := by decide +kernel
theorem dX4_makeMemory_12 : decode cX4_makeMemory 12 = .ok (.aload_n 0, 1) := by decide +kernel
theorem dX4_makeMemory_13 : decode cX4_makeMemory 13 = .ok (.invokevirtual 136, 3) := by decide +kernel
theorem dX4_makeMemory_16 : decode cX4_makeMemory 16 = .ok (.aload_n 0, 1) := by decide +kernel
theorem dX4_makeMemory_17 : decode cX4_makeMemory 17 = .ok (.getfield 41, 3) := by decide +kernel
theorem dX4_makeMemory_20 : decode cX4_makeMemory 20 = .ok (.invokevirtual 139, 3) := by decide +kernel
theorem dX4_makeMemory_23 : decode cX4_makeMemory 23 = .ok (.ifCond .ne 5, 3) := by decide +kernel
theorem dX4_makeMemory_26 : decode cX4_makeMemory 26 = .ok (.iconst 0, 1) := by decide +kernel
theorem dX4_makeMemory_27 : decode cX4_makeMemory 27 = .ok (.ireturn, 1) := by decide +kernel
theorem dX4_makeMemory_28 : decode cX4_makeMemory 28 = .ok (.iconst 0, 1) := by decide +kernel
theorem dX4_makeMemory_29 : decode cX4_makeMemory 29 = .ok (.istore_n 1, 1) := by decide +kernel
theorem dX4_makeMemory_30 : decode cX4_makeMemory 30 = .ok (.iload_n 1, 1) := by decide +kernel
theorem dX4_makeMemory_31 : decode cX4_makeMemory 31 = .ok (.aload_n 0, 1) := by decide +kernel
theorem dX4_makeMemory_32 : decode cX4_makeMemory 32 = .ok (.getfield 41, 3) := by decide +kernel
theorem dX4_makeMemory_35 : decode cX4_makeMemory 35 = .ok (.getfield 142, 3) := by decide +kernel
theorem dX4_makeMemory_38 : decode cX4_makeMemory 38 = .ok (.if_icmp .ge 31, 3) := by decide +kernel
theorem dX4_makeMemory_41 : decode cX4_makeMemory 41 = .ok (.aload_n 0, 1) := by decide +kernel
theorem dX4_makeMemory_42 : decode cX4_makeMemory 42 = .ok (.aload_n 0, 1) := by decide +kernel
theorem dX4_makeMemory_43 : decode cX4_makeMemory 43 = .ok (.getfield 41, 3) := by decide +kernel
theorem dX4_makeMemory_46 : decode cX4_makeMemory 46 = .ok (.getfield 145, 3) := by decide +kernel
theorem dX4_makeMemory_49 : decode cX4_makeMemory 49 = .ok (.iload_n 1, 1) := by decide +kernel
theorem dX4_makeMemory_50 : decode cX4_makeMemory 50 = .ok (.iaload, 1) := by decide +kernel
theorem dX4_makeMemory_51 : decode cX4_makeMemory 51 = .ok (.aload_n 0, 1) := by decide +kernel
theorem dX4_makeMemory_52 : decode cX4_makeMemory 52 = .ok (.getfield 41, 3) := by decide +kernel
theorem dX4_makeMemory_55 : decode cX4_makeMemory 55 = .ok (.getfield 148, 3) := by decide +kernel
theorem dX4_makeMemory_58 : decode cX4_makeMemory 58 = .ok (.iload_n 1, 1) := by decide +kernel
theorem dX4_makeMemory_59 : decode cX4_makeMemory 59 = .ok (.iaload, 1) := by decide +kernel
theorem dX4_makeMemory_60 : decode cX4_makeMemory 60 = .ok (.invokevirtual 151, 3) := by decide +kernel
theorem dX4_makeMemory_63 : decode cX4_makeMemory 63 = .ok (.iinc 1 1, 3) := by decide +kernel
theorem dX4_makeMemory_66 : decode cX4_makeMemory 66 = .ok (.goto (-36), 3) := by decide +kernel
theorem dX4_makeMemory_69 : decode cX4_makeMemory 69 = .ok (.iconst 1, 1) := by decide +kernel
theorem dX4_makeMemory_70 : decode cX4_makeMemory 70 = .ok (.ireturn, 1) := by decide +kernel
theorem dX4_doStep_0 : decode cX4_doStep 0 = .ok (.aload_n 0, 1) := by decide +kernel
theorem dX4_doStep_1 : decode cX4_doStep 1 = .ok (.getfield 50, 3) := by decide +kernel
theorem dX4_doStep_4 : decode cX4_doStep 4 = .ok (.iload_n 1, 1) := by decide +kernel
theorem dX4_doStep_5 : decode cX4_doStep 5 = .ok (.iload_n 2, 1) := by decide +kernel
theorem dX4_doStep_6 : decode cX4_doStep 6 = .ok (.invokevirtual 155, 3) := by decide +kernel
theorem dX4_doStep_9 : decode cX4_doStep 9 = .ok (.iload_n 1, 1) := by decide +kernel
theorem dX4_doStep_10 : decode cX4_doStep 10 = .ok (.iconst 5, 1) := by decide +kernel
theorem dX4_doStep_11 : decode cX4_doStep 11 = .ok (.if_icmp .ne 8, 3) := by decide +kernel
theorem dX4_doStep_14 : decode cX4_doStep 14 = .ok (.aload_n 0, 1) := by decide +kernel
theorem dX4_doStep_15 : decode cX4_doStep 15 = .ok (.iload_n 2, 1) := by decide +kernel
theorem dX4_doStep_16 : decode cX4_doStep 16 = .ok (.invokevirtual 156, 3) := by decide +kernel
theorem dX4_doStep_19 : decode cX4_doStep 19 = .ok (.aload_n 0, 1) := by decide +kernel
theorem dX4_doStep_20 : decode cX4_doStep 20 = .ok (.getfield 21, 3) := by decide +kernel
theorem dX4_doStep_23 : decode cX4_doStep 23 = .ok (.iload_n 1, 1) := by decide +kernel
theorem dX4_doStep_24 : decode cX4_doStep 24 = .ok (.iload_n 2, 1) := by decide +kernel
theorem dX4_doStep_25 : decode cX4_doStep 25 = .ok (.aload_n 0, 1) := by decide +kernel
theorem dX4_doStep_26 : decode cX4_doStep 26 = .ok (.getfield 65, 3) := by decide +kernel
theorem dX4_doStep_29 : decode cX4_doStep 29 = .ok (.invokevirtual 160, 3) := by decide +kernel
theorem dX4_doStep_32 : decode cX4_doStep 32 = .ok (.return_, 1) := by decide +kernel
theorem dX4_forgetWhatItShowed_0 : decode cX4_forgetWhatItShowed 0 = .ok (.aload_n 0, 1) := by decide +kernel
theorem dX4_forgetWhatItShowed_1 : decode cX4_forgetWhatItShowed 1 = .ok (.getfield 25, 3) := by decide +kernel
theorem dX4_forgetWhatItShowed_4 : decode cX4_forgetWhatItShowed 4 = .ok (.iload_n 1, 1) := by decide +kernel
theorem dX4_forgetWhatItShowed_5 : decode cX4_forgetWhatItShowed 5 = .ok (.iconst 0, 1) := by decide +kernel
theorem dX4_forgetWhatItShowed_6 : decode cX4_forgetWhatItShowed 6 = .ok (.iastore, 1) := by decide +kernel
theorem dX4_forgetWhatItShowed_7 : decode cX4_forgetWhatItShowed 7 = .ok (.aload_n 0, 1) := by decide +kernel
theorem dX4_forgetWhatItShowed_8 : decode cX4_forgetWhatItShowed 8 = .ok (.getfield 35, 3) := by decide +kernel
theorem dX4_forgetWhatItShowed_11 : decode cX4_forgetWhatItShowed 11 = .ok (.iload_n 1, 1) := by decide +kernel
theorem dX4_forgetWhatItShowed_12 : decode cX4_forgetWhatItShowed 12 = .ok (.iconst 0, 1) := by decide +kernel
theorem dX4_forgetWhatItShowed_13 : decode cX4_forgetWhatItShowed 13 = .ok (.iastore, 1) := by decide +kernel
theorem dX4_forgetWhatItShowed_14 : decode cX4_forgetWhatItShowed 14 = .ok (.return_, 1) := by decide +kernel
theorem dX4_waitFor_0 : decode cX4_waitFor 0 = .ok (.aload_n 0, 1) := by decide +kernel
theorem dX4_waitFor_1 : decode cX4_waitFor 1 = .ok (.getfield 57, 3) := by decide +kernel
theorem dX4_waitFor_4 : decode cX4_waitFor 4 = .ok (.getfield 164, 3) := by decide +kernel
theorem dX4_waitFor_7 : decode cX4_waitFor 7 = .ok (.iload_n 1, 1) := by decide +kernel
theorem dX4_waitFor_8 : decode cX4_waitFor 8 = .ok (.aaload, 1) := by decide +kernel
theorem dX4_waitFor_9 : decode cX4_waitFor 9 = .ok (.iconst 0, 1) := by decide +kernel
theorem dX4_waitFor_10 : decode cX4_waitFor 10 = .ok (.iaload, 1) := by decide +kernel
theorem dX4_waitFor_11 : decode cX4_waitFor 11 = .ok (.istore_n 2, 1) := by decide +kernel
theorem dX4_waitFor_12 : decode cX4_waitFor 12 = .ok (.aload_n 0, 1) := by decide +kernel
theorem dX4_waitFor_13 : decode cX4_waitFor 13 = .ok (.getfield 50, 3) := by decide +kernel
theorem dX4_waitFor_16 : decode cX4_waitFor 16 = .ok (.getfield 168, 3) := by decide +kernel
theorem dX4_waitFor_19 : decode cX4_waitFor 19 = .ok (.iload_n 1, 1) := by decide +kernel
theorem dX4_waitFor_20 : decode cX4_waitFor 20 = .ok (.iaload, 1) := by decide +kernel
theorem dX4_waitFor_21 : decode cX4_waitFor 21 = .ok (.tableswitch 81 1 5 #[35, 37, 37, 45, 71], 35) := by decide +kernel
theorem dX4_waitFor_56 : decode cX4_waitFor 56 = .ok (.iconst 0, 1) := by decide +kernel
theorem dX4_waitFor_57 : decode cX4_waitFor 57 = .ok (.ireturn, 1) := by decide +kernel
theorem dX4_waitFor_58 : decode cX4_waitFor 58 = .ok (.aload_n 0, 1) := by decide +kernel
theorem dX4_waitFor_59 : decode cX4_waitFor 59 = .ok (.getfield 57, 3) := by decide +kernel
theorem dX4_waitFor_62 : decode cX4_waitFor 62 = .ok (.getfield 171, 3) := by decide +kernel
theorem dX4_waitFor_65 : decode cX4_waitFor 65 = .ok (.ireturn, 1) := by decide +kernel
theorem dX4_waitFor_66 : decode cX4_waitFor 66 = .ok (.aload_n 0, 1) := by decide +kernel
theorem dX4_waitFor_67 : decode cX4_waitFor 67 = .ok (.getfield 57, 3) := by decide +kernel
theorem dX4_waitFor_70 : decode cX4_waitFor 70 = .ok (.getfield 171, 3) := by decide +kernel
theorem dX4_waitFor_73 : decode cX4_waitFor 73 = .ok (.aload_n 0, 1) := by decide +kernel
theorem dX4_waitFor_74 : decode cX4_waitFor 74 = .ok (.getfield 57, 3) := by decide +kernel
theorem dX4_waitFor_77 : decode cX4_waitFor 77 = .ok (.getfield 174, 3) := by decide +kernel
theorem dX4_waitFor_80 : decode cX4_waitFor 80 = .ok (.aload_n 0, 1) := by decide +kernel
theorem dX4_waitFor_81 : decode cX4_waitFor 81 = .ok (.getfield 50, 3) := by decide +kernel
theorem dX4_waitFor_84 : decode cX4_waitFor 84 = .ok (.getfield 177, 3) := by decide +kernel
theorem dX4_waitFor_87 : decode cX4_waitFor 87 = .ok (.iload_n 1, 1) := by decide +kernel
theorem dX4_waitFor_88 : decode cX4_waitFor 88 = .ok (.iaload, 1) := by decide +kernel
theorem dX4_waitFor_89 : decode cX4_waitFor 89 = .ok (.imul, 1) := by decide +kernel
theorem dX4_waitFor_90 : decode cX4_waitFor 90 = .ok (.iadd, 1) := by decide +kernel
theorem dX4_waitFor_91 : decode cX4_waitFor 91 = .ok (.ireturn, 1) := by decide +kernel
theorem dX4_waitFor_92 : decode cX4_waitFor 92 = .ok (.aload_n 0, 1) := by decide +kernel
theorem dX4_waitFor_93 : decode cX4_waitFor 93 = .ok (.getfield 57, 3) := by decide +kernel
theorem dX4_waitFor_96 : decode cX4_waitFor 96 = .ok (.getfield 180, 3) := by decide +kernel
theorem dX4_waitFor_99 : decode cX4_waitFor 99 = .ok (.iload_n 2, 1) := by decide +kernel
theorem dX4_waitFor_100 : decode cX4_waitFor 100 = .ok (.imul, 1) := by decide +kernel
theorem dX4_waitFor_101 : decode cX4_waitFor 101 = .ok (.ireturn, 1) := by decide +kernel
theorem dX4_waitFor_102 : decode cX4_waitFor 102 = .ok (.aload_n 0, 1) := by decide +kernel
theorem dX4_waitFor_103 : decode cX4_waitFor 103 = .ok (.getfield 57, 3) := by decide +kernel
theorem dX4_waitFor_106 : decode cX4_waitFor 106 = .ok (.getfield 183, 3) := by decide +kernel
theorem dX4_waitFor_109 : decode cX4_waitFor 109 = .ok (.iload_n 2, 1) := by decide +kernel
theorem dX4_waitFor_110 : decode cX4_waitFor 110 = .ok (.imul, 1) := by decide +kernel
theorem dX4_waitFor_111 : decode cX4_waitFor 111 = .ok (.ireturn, 1) := by decide +kernel
theorem dX4_bringUp_0 : decode cX4_bringUp 0 = .ok (.iload_n 1, 1) := by decide +kernel
theorem dX4_bringUp_1 : decode cX4_bringUp 1 = .ok (.aload_n 0, 1) := by decide +kernel
theorem dX4_bringUp_2 : decode cX4_bringUp 2 = .ok (.getfield 75, 3) := by decide +kernel
theorem dX4_bringUp_5 : decode cX4_bringUp 5 = .ok (.if_icmp .ne 5, 3) := by decide +kernel
theorem dX4_bringUp_8 : decode cX4_bringUp 8 = .ok (.iconst 1, 1) := by decide +kernel
theorem dX4_bringUp_9 : decode cX4_bringUp 9 = .ok (.ireturn, 1) := by decide +kernel
theorem dX4_bringUp_10 : decode cX4_bringUp 10 = .ok (.aload_n 0, 1) := by decide +kernel
theorem dX4_bringUp_11 : decode cX4_bringUp 11 = .ok (.iload_n 1, 1) := by decide +kernel
theorem dX4_bringUp_12 : decode cX4_bringUp 12 = .ok (.invokevirtual 186, 3) := by decide +kernel
theorem dX4_bringUp_15 : decode cX4_bringUp 15 = .ok (.istore_n 2, 1) := by decide +kernel
theorem dX4_bringUp_16 : decode cX4_bringUp 16 = .ok (.aload_n 0, 1) := by decide +kernel
theorem dX4_bringUp_17 : decode cX4_bringUp 17 = .ok (.getfield 12, 3) := by decide +kernel
theorem dX4_bringUp_20 : decode cX4_bringUp 20 = .ok (.getfield 189, 3) := by decide +kernel
theorem dX4_bringUp_23 : decode cX4_bringUp 23 = .ok (.istore_n 3, 1) := by decide +kernel
theorem dX4_bringUp_24 : decode cX4_bringUp 24 = .ok (.aload_n 0, 1) := by decide +kernel
theorem dX4_bringUp_25 : decode cX4_bringUp 25 = .ok (.invokevirtual 192, 3) := by decide +kernel
theorem dX4_bringUp_28 : decode cX4_bringUp 28 = .ok (.aload_n 0, 1) := by decide +kernel
theorem dX4_bringUp_29 : decode cX4_bringUp 29 = .ok (.iload_n 1, 1) := by decide +kernel
theorem dX4_bringUp_30 : decode cX4_bringUp 30 = .ok (.putfield 75, 3) := by decide +kernel
theorem dX4_bringUp_33 : decode cX4_bringUp 33 = .ok (.aload_n 0, 1) := by decide +kernel
theorem dX4_bringUp_34 : decode cX4_bringUp 34 = .ok (.getfield 12, 3) := by decide +kernel
theorem dX4_bringUp_37 : decode cX4_bringUp 37 = .ok (.iload_n 1, 1) := by decide +kernel
theorem dX4_bringUp_38 : decode cX4_bringUp 38 = .ok (.putfield 189, 3) := by decide +kernel
theorem dX4_bringUp_41 : decode cX4_bringUp 41 = .ok (.aload_n 0, 1) := by decide +kernel
theorem dX4_bringUp_42 : decode cX4_bringUp 42 = .ok (.getfield 50, 3) := by decide +kernel
theorem dX4_bringUp_45 : decode cX4_bringUp 45 = .ok (.iload_n 1, 1) := by decide +kernel
theorem dX4_bringUp_46 : decode cX4_bringUp 46 = .ok (.invokevirtual 195, 3) := by decide +kernel
theorem dX4_bringUp_49 : decode cX4_bringUp 49 = .ok (.aload_n 0, 1) := by decide +kernel
theorem dX4_bringUp_50 : decode cX4_bringUp 50 = .ok (.invokevirtual 198, 3) := by decide +kernel
theorem dX4_bringUp_53 : decode cX4_bringUp 53 = .ok (.ifCond .ne 5, 3) := by decide +kernel
theorem dX4_bringUp_56 : decode cX4_bringUp 56 = .ok (.iconst 0, 1) := by decide +kernel
theorem dX4_bringUp_57 : decode cX4_bringUp 57 = .ok (.ireturn, 1) := by decide +kernel
theorem dX4_bringUp_58 : decode cX4_bringUp 58 = .ok (.aload_n 0, 1) := by decide +kernel
theorem dX4_bringUp_59 : decode cX4_bringUp 59 = .ok (.getfield 12, 3) := by decide +kernel
theorem dX4_bringUp_62 : decode cX4_bringUp 62 = .ok (.iload_n 1, 1) := by decide +kernel
theorem dX4_bringUp_63 : decode cX4_bringUp 63 = .ok (.iload_n 3, 1) := by decide +kernel
theorem dX4_bringUp_64 : decode cX4_bringUp 64 = .ok (.aload_n 0, 1) := by decide +kernel
theorem dX4_bringUp_65 : decode cX4_bringUp 65 = .ok (.getfield 65, 3) := by decide +kernel
theorem dX4_bringUp_68 : decode cX4_bringUp 68 = .ok (.invokevirtual 201, 3) := by decide +kernel
theorem dX4_bringUp_71 : decode cX4_bringUp 71 = .ok (.aload_n 0, 1) := by decide +kernel
theorem dX4_bringUp_72 : decode cX4_bringUp 72 = .ok (.getfield 21, 3) := by decide +kernel
theorem dX4_bringUp_75 : decode cX4_bringUp 75 = .ok (.bipush 7, 2) := by decide +kernel
theorem dX4_bringUp_77 : decode cX4_bringUp 77 = .ok (.iload_n 1, 1) := by decide +kernel
theorem dX4_bringUp_78 : decode cX4_bringUp 78 = .ok (.aload_n 0, 1) := by decide +kernel
theorem dX4_bringUp_79 : decode cX4_bringUp 79 = .ok (.getfield 65, 3) := by decide +kernel
theorem dX4_bringUp_82 : decode cX4_bringUp 82 = .ok (.invokevirtual 160, 3) := by decide +kernel
theorem dX4_bringUp_85 : decode cX4_bringUp 85 = .ok (.iload_n 2, 1) := by decide +kernel
theorem dX4_bringUp_86 : decode cX4_bringUp 86 = .ok (.aload_n 0, 1) := by decide +kernel
theorem dX4_bringUp_87 : decode cX4_bringUp 87 = .ok (.getfield 57, 3) := by decide +kernel
theorem dX4_bringUp_90 : decode cX4_bringUp 90 = .ok (.getfield 164, 3) := by decide +kernel
theorem dX4_bringUp_93 : decode cX4_bringUp 93 = .ok (.iload_n 1, 1) := by decide +kernel
theorem dX4_bringUp_94 : decode cX4_bringUp 94 = .ok (.aaload, 1) := by decide +kernel
theorem dX4_bringUp_95 : decode cX4_bringUp 95 = .ok (.bipush 6, 2) := by decide +kernel
theorem dX4_bringUp_97 : decode cX4_bringUp 97 = .ok (.iaload, 1) := by decide +kernel
theorem dX4_bringUp_98 : decode cX4_bringUp 98 = .ok (.if_icmp .le 8, 3) := by decide +kernel
theorem dX4_bringUp_101 : decode cX4_bringUp 101 = .ok (.aload_n 0, 1) := by decide +kernel
theorem dX4_bringUp_102 : decode cX4_bringUp 102 = .ok (.iload_n 1, 1) := by decide +kernel
theorem dX4_bringUp_103 : decode cX4_bringUp 103 = .ok (.invokevirtual 204, 3) := by decide +kernel
theorem dX4_bringUp_106 : decode cX4_bringUp 106 = .ok (.iconst 1, 1) := by decide +kernel
theorem dX4_bringUp_107 : decode cX4_bringUp 107 = .ok (.ireturn, 1) := by decide +kernel
theorem dX4_complain_0 : decode cX4_complain 0 = .ok (.aload_n 0, 1) := by decide +kernel
theorem dX4_complain_1 : decode cX4_complain 1 = .ok (.getfield 29, 3) := by decide +kernel
theorem dX4_complain_4 : decode cX4_complain 4 = .ok (.iload_n 1, 1) := by decide +kernel
theorem dX4_complain_5 : decode cX4_complain 5 = .ok (.dup2, 1) := by decide +kernel
theorem dX4_complain_6 : decode cX4_complain 6 = .ok (.iaload, 1) := by decide +kernel
theorem dX4_complain_7 : decode cX4_complain 7 = .ok (.iconst 1, 1) := by decide +kernel
theorem dX4_complain_8 : decode cX4_complain 8 = .ok (.iadd, 1) := by decide +kernel
theorem dX4_complain_9 : decode cX4_complain 9 = .ok (.iastore, 1) := by decide +kernel
theorem dX4_complain_10 : decode cX4_complain 10 = .ok (.aload_n 0, 1) := by decide +kernel
theorem dX4_complain_11 : decode cX4_complain 11 = .ok (.getfield 32, 3) := by decide +kernel
theorem dX4_complain_14 : decode cX4_complain 14 = .ok (.iload_n 1, 1) := by decide +kernel
theorem dX4_complain_15 : decode cX4_complain 15 = .ok (.aload_n 0, 1) := by decide +kernel
theorem dX4_complain_16 : decode cX4_complain 16 = .ok (.getfield 65, 3) := by decide +kernel
theorem dX4_complain_19 : decode cX4_complain 19 = .ok (.iastore, 1) := by decide +kernel
theorem dX4_complain_20 : decode cX4_complain 20 = .ok (.aload_n 0, 1) := by decide +kernel
theorem dX4_complain_21 : decode cX4_complain 21 = .ok (.getfield 21, 3) := by decide +kernel
theorem dX4_complain_24 : decode cX4_complain 24 = .ok (.bipush 8, 2) := by decide +kernel
theorem dX4_complain_26 : decode cX4_complain 26 = .ok (.iload_n 1, 1) := by decide +kernel
theorem dX4_complain_27 : decode cX4_complain 27 = .ok (.aload_n 0, 1) := by decide +kernel
theorem dX4_complain_28 : decode cX4_complain 28 = .ok (.getfield 65, 3) := by decide +kernel
theorem dX4_complain_31 : decode cX4_complain 31 = .ok (.invokevirtual 160, 3) := by decide +kernel
theorem dX4_complain_34 : decode cX4_complain 34 = .ok (.return_, 1) := by decide +kernel
theorem dX4_letShownRest_0 : decode cX4_letShownRest 0 = .ok (.aload_n 0, 1) := by decide +kernel
theorem dX4_letShownRest_1 : decode cX4_letShownRest 1 = .ok (.getfield 75, 3) := by decide +kernel
theorem dX4_letShownRest_4 : decode cX4_letShownRest 4 = .ok (.ifCond .lt 37, 3) := by decide +kernel
theorem dX4_letShownRest_7 : decode cX4_letShownRest 7 = .ok (.aload_n 0, 1) := by decide +kernel
theorem dX4_letShownRest_8 : decode cX4_letShownRest 8 = .ok (.getfield 50, 3) := by decide +kernel
theorem dX4_letShownRest_11 : decode cX4_letShownRest 11 = .ok (.getfield 168, 3) := by decide +kernel
theorem dX4_letShownRest_14 : decode cX4_letShownRest 14 = .ok (.aload_n 0, 1) := by decide +kernel
theorem dX4_letShownRest_15 : decode cX4_letShownRest 15 = .ok (.getfield 75, 3) := by decide +kernel
theorem dX4_letShownRest_18 : decode cX4_letShownRest 18 = .ok (.iconst 2, 1) := by decide +kernel
theorem dX4_letShownRest_19 : decode cX4_letShownRest 19 = .ok (.iastore, 1) := by decide +kernel
theorem dX4_letShownRest_20 : decode cX4_letShownRest 20 = .ok (.aload_n 0, 1) := by decide +kernel
theorem dX4_letShownRest_21 : decode cX4_letShownRest 21 = .ok (.getfield 12, 3) := by decide +kernel
theorem dX4_letShownRest_24 : decode cX4_letShownRest 24 = .ok (.getfield 125, 3) := by decide +kernel
theorem dX4_letShownRest_27 : decode cX4_letShownRest 27 = .ok (.aload_n 0, 1) := by decide +kernel
theorem dX4_letShownRest_28 : decode cX4_letShownRest 28 = .ok (.getfield 75, 3) := by decide +kernel
theorem dX4_letShownRest_31 : decode cX4_letShownRest 31 = .ok (.aload_n 0, 1) := by decide +kernel
theorem dX4_letShownRest_32 : decode cX4_letShownRest 32 = .ok (.getfield 65, 3) := by decide +kernel
theorem dX4_letShownRest_35 : decode cX4_letShownRest 35 = .ok (.iastore, 1) := by decide +kernel
theorem dX4_letShownRest_36 : decode cX4_letShownRest 36 = .ok (.aload_n 0, 1) := by decide +kernel
theorem dX4_letShownRest_37 : decode cX4_letShownRest 37 = .ok (.iconst (-1), 1) := by decide +kernel
theorem dX4_letShownRest_38 : decode cX4_letShownRest 38 = .ok (.putfield 75, 3) := by decide +kernel
theorem dX4_letShownRest_41 : decode cX4_letShownRest 41 = .ok (.return_, 1) := by decide +kernel
theorem dX4_shut_0 : decode cX4_shut 0 = .ok (.iload_n 1, 1) := by decide +kernel
theorem dX4_shut_1 : decode cX4_shut 1 = .ok (.aload_n 0, 1) := by decide +kernel
theorem dX4_shut_2 : decode cX4_shut 2 = .ok (.getfield 75, 3) := by decide +kernel
theorem dX4_shut_5 : decode cX4_shut 5 = .ok (.if_icmp .ne 7, 3) := by decide +kernel
theorem dX4_shut_8 : decode cX4_shut 8 = .ok (.aload_n 0, 1) := by decide +kernel
theorem dX4_shut_9 : decode cX4_shut 9 = .ok (.invokevirtual 192, 3) := by decide +kernel
theorem dX4_shut_12 : decode cX4_shut 12 = .ok (.aload_n 0, 1) := by decide +kernel
theorem dX4_shut_13 : decode cX4_shut 13 = .ok (.getfield 50, 3) := by decide +kernel
theorem dX4_shut_16 : decode cX4_shut 16 = .ok (.iload_n 1, 1) := by decide +kernel
theorem dX4_shut_17 : decode cX4_shut 17 = .ok (.invokevirtual 207, 3) := by decide +kernel
theorem dX4_shut_20 : decode cX4_shut 20 = .ok (.aload_n 0, 1) := by decide +kernel
theorem dX4_shut_21 : decode cX4_shut 21 = .ok (.iload_n 1, 1) := by decide +kernel
theorem dX4_shut_22 : decode cX4_shut 22 = .ok (.invokevirtual 156, 3) := by decide +kernel
theorem dX4_shut_25 : decode cX4_shut 25 = .ok (.return_, 1) := by decide +kernel
theorem dX4_passMinute_0 : decode cX4_passMinute 0 = .ok (.aload_n 0, 1) := by decide +kernel
theorem dX4_passMinute_1 : decode cX4_passMinute 1 = .ok (.dup, 1) := by decide +kernel
theorem dX4_passMinute_2 : decode cX4_passMinute 2 = .ok (.getfield 65, 3) := by decide +kernel
theorem dX4_passMinute_5 : decode cX4_passMinute 5 = .ok (.iconst 1, 1) := by decide +kernel
theorem dX4_passMinute_6 : decode cX4_passMinute 6 = .ok (.iadd, 1) := by decide +kernel
theorem dX4_passMinute_7 : decode cX4_passMinute 7 = .ok (.putfield 65, 3) := by decide +kernel
theorem dX4_passMinute_10 : decode cX4_passMinute 10 = .ok (.aload_n 0, 1) := by decide +kernel
theorem dX4_passMinute_11 : decode cX4_passMinute 11 = .ok (.getfield 75, 3) := by decide +kernel
theorem dX4_passMinute_14 : decode cX4_passMinute 14 = .ok (.ifCond .lt 25, 3) := by decide +kernel
theorem dX4_passMinute_17 : decode cX4_passMinute 17 = .ok (.aload_n 0, 1) := by decide +kernel
theorem dX4_passMinute_18 : decode cX4_passMinute 18 = .ok (.aload_n 0, 1) := by decide +kernel
theorem dX4_passMinute_19 : decode cX4_passMinute 19 = .ok (.getfield 75, 3) := by decide +kernel
theorem dX4_passMinute_22 : decode cX4_passMinute 22 = .ok (.aload_n 0, 1) := by decide +kernel
theorem dX4_passMinute_23 : decode cX4_passMinute 23 = .ok (.getfield 57, 3) := by decide +kernel
theorem dX4_passMinute_26 : decode cX4_passMinute 26 = .ok (.getfield 164, 3) := by decide +kernel
theorem dX4_passMinute_29 : decode cX4_passMinute 29 = .ok (.aload_n 0, 1) := by decide +kernel
theorem dX4_passMinute_30 : decode cX4_passMinute 30 = .ok (.getfield 75, 3) := by decide +kernel
theorem dX4_passMinute_33 : decode cX4_passMinute 33 = .ok (.aaload, 1) := by decide +kernel
theorem dX4_passMinute_34 : decode cX4_passMinute 34 = .ok (.iconst 2, 1) := by decide +kernel
theorem dX4_passMinute_35 : decode cX4_passMinute 35 = .ok (.iaload, 1) := by decide +kernel
theorem dX4_passMinute_36 : decode cX4_passMinute 36 = .ok (.invokevirtual 210, 3) := by decide +kernel
theorem dX4_passMinute_39 : decode cX4_passMinute 39 = .ok (.iconst 0, 1) := by decide +kernel
theorem dX4_passMinute_40 : decode cX4_passMinute 40 = .ok (.istore_n 1, 1) := by decide +kernel
theorem dX4_passMinute_41 : decode cX4_passMinute 41 = .ok (.iload_n 1, 1) := by decide +kernel
theorem dX4_passMinute_42 : decode cX4_passMinute 42 = .ok (.aload_n 0, 1) := by decide +kernel
theorem dX4_passMinute_43 : decode cX4_passMinute 43 = .ok (.getfield 57, 3) := by decide +kernel
theorem dX4_passMinute_46 : decode cX4_passMinute 46 = .ok (.getfield 100, 3) := by decide +kernel
theorem dX4_passMinute_49 : decode cX4_passMinute 49 = .ok (.if_icmp .ge 23, 3) := by decide +kernel
theorem dX4_passMinute_52 : decode cX4_passMinute 52 = .ok (.aload_n 0, 1) := by decide +kernel
theorem dX4_passMinute_53 : decode cX4_passMinute 53 = .ok (.iload_n 1, 1) := by decide +kernel
theorem dX4_passMinute_54 : decode cX4_passMinute 54 = .ok (.invokevirtual 213, 3) := by decide +kernel
theorem dX4_passMinute_57 : decode cX4_passMinute 57 = .ok (.ifCond .eq 9, 3) := by decide +kernel
theorem dX4_passMinute_60 : decode cX4_passMinute 60 = .ok (.aload_n 0, 1) := by decide +kernel
theorem dX4_passMinute_61 : decode cX4_passMinute 61 = .ok (.iload_n 1, 1) := by decide +kernel
theorem dX4_passMinute_62 : decode cX4_passMinute 62 = .ok (.iconst 1, 1) := by decide +kernel
theorem dX4_passMinute_63 : decode cX4_passMinute 63 = .ok (.invokevirtual 210, 3) := by decide +kernel
theorem dX4_passMinute_66 : decode cX4_passMinute 66 = .ok (.iinc 1 1, 3) := by decide +kernel
theorem dX4_passMinute_69 : decode cX4_passMinute 69 = .ok (.goto (-28), 3) := by decide +kernel
theorem dX4_passMinute_72 : decode cX4_passMinute 72 = .ok (.return_, 1) := by decide +kernel
theorem dX4_isWorkDue_0 : decode cX4_isWorkDue 0 = .ok (.aload_n 0, 1) := by decide +kernel
theorem dX4_isWorkDue_1 : decode cX4_isWorkDue 1 = .ok (.getfield 57, 3) := by decide +kernel
theorem dX4_isWorkDue_4 : decode cX4_isWorkDue 4 = .ok (.getfield 164, 3) := by decide +kernel
theorem dX4_isWorkDue_7 : decode cX4_isWorkDue 7 = .ok (.iload_n 1, 1) := by decide +kernel
theorem dX4_isWorkDue_8 : decode cX4_isWorkDue 8 = .ok (.aaload, 1) := by decide +kernel
theorem dX4_isWorkDue_9 : decode cX4_isWorkDue 9 = .ok (.bipush 7, 2) := by decide +kernel
theorem dX4_isWorkDue_11 : decode cX4_isWorkDue 11 = .ok (.iaload, 1) := by decide +kernel
theorem dX4_isWorkDue_12 : decode cX4_isWorkDue 12 = .ok (.istore_n 2, 1) := by decide +kernel
theorem dX4_isWorkDue_13 : decode cX4_isWorkDue 13 = .ok (.aload_n 0, 1) := by decide +kernel
theorem dX4_isWorkDue_14 : decode cX4_isWorkDue 14 = .ok (.getfield 50, 3) := by decide +kernel
theorem dX4_isWorkDue_17 : decode cX4_isWorkDue 17 = .ok (.getfield 168, 3) := by decide +kernel
theorem dX4_isWorkDue_20 : decode cX4_isWorkDue 20 = .ok (.iload_n 1, 1) := by decide +kernel
theorem dX4_isWorkDue_21 : decode cX4_isWorkDue 21 = .ok (.iaload, 1) := by decide +kernel
theorem dX4_isWorkDue_22 : decode cX4_isWorkDue 22 = .ok (.iconst 2, 1) := by decide +kernel
theorem dX4_isWorkDue_23 : decode cX4_isWorkDue 23 = .ok (.if_icmp .ne 30, 3) := by decide +kernel
theorem dX4_isWorkDue_26 : decode cX4_isWorkDue 26 = .ok (.iload_n 2, 1) := by decide +kernel
theorem dX4_isWorkDue_27 : decode cX4_isWorkDue 27 = .ok (.ifCond .le 26, 3) := by decide +kernel
theorem dX4_isWorkDue_30 : decode cX4_isWorkDue 30 = .ok (.aload_n 0, 1) := by decide +kernel
theorem dX4_isWorkDue_31 : decode cX4_isWorkDue 31 = .ok (.getfield 65, 3) := by decide +kernel
theorem dX4_isWorkDue_34 : decode cX4_isWorkDue 34 = .ok (.aload_n 0, 1) := by decide +kernel
theorem dX4_isWorkDue_35 : decode cX4_isWorkDue 35 = .ok (.getfield 12, 3) := by decide +kernel
theorem dX4_isWorkDue_38 : decode cX4_isWorkDue 38 = .ok (.getfield 125, 3) := by decide +kernel
theorem dX4_isWorkDue_41 : decode cX4_isWorkDue 41 = .ok (.iload_n 1, 1) := by decide +kernel
theorem dX4_isWorkDue_42 : decode cX4_isWorkDue 42 = .ok (.iaload, 1) := by decide +kernel
theorem dX4_isWorkDue_43 : decode cX4_isWorkDue 43 = .ok (.isub, 1) := by decide +kernel
theorem dX4_isWorkDue_44 : decode cX4_isWorkDue 44 = .ok (.iload_n 2, 1) := by decide +kernel
theorem dX4_isWorkDue_45 : decode cX4_isWorkDue 45 = .ok (.irem, 1) := by decide +kernel
theorem dX4_isWorkDue_46 : decode cX4_isWorkDue 46 = .ok (.ifCond .ne 7, 3) := by decide +kernel
theorem dX4_isWorkDue_49 : decode cX4_isWorkDue 49 = .ok (.iconst 1, 1) := by decide +kernel
theorem dX4_isWorkDue_50 : decode cX4_isWorkDue 50 = .ok (.goto 4, 3) := by decide +kernel
theorem dX4_isWorkDue_53 : decode cX4_isWorkDue 53 = .ok (.iconst 0, 1) := by decide +kernel
theorem dX4_isWorkDue_54 : decode cX4_isWorkDue 54 = .ok (.ireturn, 1) := by decide +kernel
theorem dX4_givePages_0 : decode cX4_givePages 0 = .ok (.iload_n 2, 1) := by decide +kernel
theorem dX4_givePages_1 : decode cX4_givePages 1 = .ok (.aload_n 0, 1) := by decide +kernel
theorem dX4_givePages_2 : decode cX4_givePages 2 = .ok (.getfield 57, 3) := by decide +kernel
theorem dX4_givePages_5 : decode cX4_givePages 5 = .ok (.getfield 164, 3) := by decide +kernel
theorem dX4_givePages_8 : decode cX4_givePages 8 = .ok (.iload_n 1, 1) := by decide +kernel
theorem dX4_givePages_9 : decode cX4_givePages 9 = .ok (.aaload, 1) := by decide +kernel
theorem dX4_givePages_10 : decode cX4_givePages 10 = .ok (.iconst 3, 1) := by decide +kernel
theorem dX4_givePages_11 : decode cX4_givePages 11 = .ok (.iaload, 1) := by decide +kernel
theorem dX4_givePages_12 : decode cX4_givePages 12 = .ok (.aload_n 0, 1) := by decide +kernel
theorem dX4_givePages_13 : decode cX4_givePages 13 = .ok (.getfield 50, 3) := by decide +kernel
theorem dX4_givePages_16 : decode cX4_givePages 16 = .ok (.getfield 177, 3) := by decide +kernel
theorem dX4_givePages_19 : decode cX4_givePages 19 = .ok (.iload_n 1, 1) := by decide +kernel
theorem dX4_givePages_20 : decode cX4_givePages 20 = .ok (.iaload, 1) := by decide +kernel
theorem dX4_givePages_21 : decode cX4_givePages 21 = .ok (.isub, 1) := by decide +kernel
theorem dX4_givePages_22 : decode cX4_givePages 22 = .ok (.invokestatic 216, 3) := by decide +kernel
theorem dX4_givePages_25 : decode cX4_givePages 25 = .ok (.istore_n 3, 1) := by decide +kernel
theorem dX4_givePages_26 : decode cX4_givePages 26 = .ok (.aload_n 0, 1) := by decide +kernel
theorem dX4_givePages_27 : decode cX4_givePages 27 = .ok (.getfield 50, 3) := by decide +kernel
theorem dX4_givePages_30 : decode cX4_givePages 30 = .ok (.getfield 177, 3) := by decide +kernel
theorem dX4_givePages_33 : decode cX4_givePages 33 = .ok (.iload_n 1, 1) := by decide +kernel
theorem dX4_givePages_34 : decode cX4_givePages 34 = .ok (.dup2, 1) := by decide +kernel
theorem dX4_givePages_35 : decode cX4_givePages 35 = .ok (.iaload, 1) := by decide +kernel
theorem dX4_givePages_36 : decode cX4_givePages 36 = .ok (.iload_n 3, 1) := by decide +kernel
theorem dX4_givePages_37 : decode cX4_givePages 37 = .ok (.iadd, 1) := by decide +kernel
theorem dX4_givePages_38 : decode cX4_givePages 38 = .ok (.iastore, 1) := by decide +kernel
theorem dX4_givePages_39 : decode cX4_givePages 39 = .ok (.aload_n 0, 1) := by decide +kernel
theorem dX4_givePages_40 : decode cX4_givePages 40 = .ok (.invokevirtual 198, 3) := by decide +kernel
theorem dX4_givePages_43 : decode cX4_givePages 43 = .ok (.ifCond .ne 30, 3) := by decide +kernel
theorem dX4_givePages_46 : decode cX4_givePages 46 = .ok (.aload_n 0, 1) := by decide +kernel
theorem dX4_givePages_47 : decode cX4_givePages 47 = .ok (.getfield 50, 3) := by decide +kernel
theorem dX4_givePages_50 : decode cX4_givePages 50 = .ok (.getfield 177, 3) := by decide +kernel
theorem dX4_givePages_53 : decode cX4_givePages 53 = .ok (.iload_n 1, 1) := by decide +kernel
theorem dX4_givePages_54 : decode cX4_givePages 54 = .ok (.dup2, 1) := by decide +kernel
theorem dX4_givePages_55 : decode cX4_givePages 55 = .ok (.iaload, 1) := by decide +kernel
theorem dX4_givePages_56 : decode cX4_givePages 56 = .ok (.iload_n 3, 1) := by decide +kernel
theorem dX4_givePages_57 : decode cX4_givePages 57 = .ok (.isub, 1) := by decide +kernel
theorem dX4_givePages_58 : decode cX4_givePages 58 = .ok (.iastore, 1) := by decide +kernel
theorem dX4_givePages_59 : decode cX4_givePages 59 = .ok (.aload_n 0, 1) := by decide +kernel
theorem dX4_givePages_60 : decode cX4_givePages 60 = .ok (.getfield 21, 3) := by decide +kernel
theorem dX4_givePages_63 : decode cX4_givePages 63 = .ok (.bipush 9, 2) := by decide +kernel
theorem dX4_givePages_65 : decode cX4_givePages 65 = .ok (.iload_n 1, 1) := by decide +kernel
theorem dX4_givePages_66 : decode cX4_givePages 66 = .ok (.aload_n 0, 1) := by decide +kernel
theorem dX4_givePages_67 : decode cX4_givePages 67 = .ok (.getfield 65, 3) := by decide +kernel
theorem dX4_givePages_70 : decode cX4_givePages 70 = .ok (.invokevirtual 160, 3) := by decide +kernel
theorem dX4_givePages_73 : decode cX4_givePages 73 = .ok (.return_, 1) := by decide +kernel
theorem dX4_waitingNotice_0 : decode cX4_waitingNotice 0 = .ok (.iload_n 2, 1) := by decide +kernel
theorem dX4_waitingNotice_1 : decode cX4_waitingNotice 1 = .ok (.ifCond .lt 13, 3) := by decide +kernel
theorem dX4_waitingNotice_4 : decode cX4_waitingNotice 4 = .ok (.iload_n 2, 1) := by decide +kernel
theorem dX4_waitingNotice_5 : decode cX4_waitingNotice 5 = .ok (.aload_n 0, 1) := by decide +kernel
theorem dX4_waitingNotice_6 : decode cX4_waitingNotice 6 = .ok (.getfield 35, 3) := by decide +kernel
theorem dX4_waitingNotice_9 : decode cX4_waitingNotice 9 = .ok (.iload_n 1, 1) := by decide +kernel
theorem dX4_waitingNotice_10 : decode cX4_waitingNotice 10 = .ok (.iaload, 1) := by decide +kernel
theorem dX4_waitingNotice_11 : decode cX4_waitingNotice 11 = .ok (.if_icmp .lt 7, 3) := by decide +kernel
theorem dX4_waitingNotice_14 : decode cX4_waitingNotice 14 = .ok (.iconst (-1), 1) := by decide +kernel
theorem dX4_waitingNotice_15 : decode cX4_waitingNotice 15 = .ok (.goto 13, 3) := by decide +kernel
theorem dX4_waitingNotice_18 : decode cX4_waitingNotice 18 = .ok (.aload_n 0, 1) := by decide +kernel
theorem dX4_waitingNotice_19 : decode cX4_waitingNotice 19 = .ok (.getfield 38, 3) := by decide +kernel
theorem dX4_waitingNotice_22 : decode cX4_waitingNotice 22 = .ok (.iload_n 1, 1) := by decide +kernel
theorem dX4_waitingNotice_23 : decode cX4_waitingNotice 23 = .ok (.iconst 5, 1) := by decide +kernel
theorem dX4_waitingNotice_24 : decode cX4_waitingNotice 24 = .ok (.imul, 1) := by decide +kernel
theorem dX4_waitingNotice_25 : decode cX4_waitingNotice 25 = .ok (.iload_n 2, 1) := by decide +kernel
theorem dX4_waitingNotice_26 : decode cX4_waitingNotice 26 = .ok (.iadd, 1) := by decide +kernel
theorem dX4_waitingNotice_27 : decode cX4_waitingNotice 27 = .ok (.iaload, 1) := by decide +kernel
theorem dX4_waitingNotice_28 : decode cX4_waitingNotice 28 = .ok (.ireturn, 1) := by decide +kernel
theorem dX4_takeIn_0 : decode cX4_takeIn 0 = .ok (.aload_n 0, 1) := by decide +kernel
theorem dX4_takeIn_1 : decode cX4_takeIn 1 = .ok (.getfield 25, 3) := by decide +kernel
theorem dX4_takeIn_4 : decode cX4_takeIn 4 = .ok (.iload_n 1, 1) := by decide +kernel
theorem dX4_takeIn_5 : decode cX4_takeIn 5 = .ok (.bipush 31, 2) := by decide +kernel
theorem dX4_takeIn_7 : decode cX4_takeIn 7 = .ok (.aload_n 0, 1) := by decide +kernel
theorem dX4_takeIn_8 : decode cX4_takeIn 8 = .ok (.getfield 25, 3) := by decide +kernel
theorem dX4_takeIn_11 : decode cX4_takeIn 11 = .ok (.iload_n 1, 1) := by decide +kernel
theorem dX4_takeIn_12 : decode cX4_takeIn 12 = .ok (.iaload, 1) := by decide +kernel
theorem dX4_takeIn_13 : decode cX4_takeIn 13 = .ok (.imul, 1) := by decide +kernel
theorem dX4_takeIn_14 : decode cX4_takeIn 14 = .ok (.iload_n 2, 1) := by decide +kernel
theorem dX4_takeIn_15 : decode cX4_takeIn 15 = .ok (.iadd, 1) := by decide +kernel
theorem dX4_takeIn_16 : decode cX4_takeIn 16 = .ok (.iastore, 1) := by decide +kernel
theorem dX4_takeIn_17 : decode cX4_takeIn 17 = .ok (.return_, 1) := by decide +kernel
theorem dX4_deliver_0 : decode cX4_deliver 0 = .ok (.aload_n 0, 1) := by decide +kernel
theorem dX4_deliver_1 : decode cX4_deliver 1 = .ok (.getfield 50, 3) := by decide +kernel
theorem dX4_deliver_4 : decode cX4_deliver 4 = .ok (.getfield 168, 3) := by decide +kernel
theorem dX4_deliver_7 : decode cX4_deliver 7 = .ok (.iload_n 1, 1) := by decide +kernel
theorem dX4_deliver_8 : decode cX4_deliver 8 = .ok (.iaload, 1) := by decide +kernel
theorem dX4_deliver_9 : decode cX4_deliver 9 = .ok (.iconst 1, 1) := by decide +kernel
theorem dX4_deliver_10 : decode cX4_deliver 10 = .ok (.if_icmp .ne 12, 3) := by decide +kernel
theorem dX4_deliver_13 : decode cX4_deliver 13 = .ok (.aload_n 0, 1) := by decide +kernel
theorem dX4_deliver_14 : decode cX4_deliver 14 = .ok (.iload_n 1, 1) := by decide +kernel
theorem dX4_deliver_15 : decode cX4_deliver 15 = .ok (.iload_n 2, 1) := by decide +kernel
theorem dX4_deliver_16 : decode cX4_deliver 16 = .ok (.invokevirtual 222, 3) := by decide +kernel
theorem dX4_deliver_19 : decode cX4_deliver 19 = .ok (.goto 56, 3) := by decide +kernel
theorem dX4_deliver_22 : decode cX4_deliver 22 = .ok (.aload_n 0, 1) := by decide +kernel
theorem dX4_deliver_23 : decode cX4_deliver 23 = .ok (.getfield 50, 3) := by decide +kernel
theorem dX4_deliver_26 : decode cX4_deliver 26 = .ok (.getfield 168, 3) := by decide +kernel
theorem dX4_deliver_29 : decode cX4_deliver 29 = .ok (.iload_n 1, 1) := by decide +kernel
theorem dX4_deliver_30 : decode cX4_deliver 30 = .ok (.iaload, 1) := by decide +kernel
theorem dX4_deliver_31 : decode cX4_deliver 31 = .ok (.ifCond .eq 44, 3) := by decide +kernel
theorem dX4_deliver_34 : decode cX4_deliver 34 = .ok (.aload_n 0, 1) := by decide +kernel
theorem dX4_deliver_35 : decode cX4_deliver 35 = .ok (.getfield 35, 3) := by decide +kernel
theorem dX4_deliver_38 : decode cX4_deliver 38 = .ok (.iload_n 1, 1) := by decide +kernel
theorem dX4_deliver_39 : decode cX4_deliver 39 = .ok (.iaload, 1) := by decide +kernel
theorem dX4_deliver_40 : decode cX4_deliver 40 = .ok (.iconst 5, 1) := by decide +kernel
theorem dX4_deliver_41 : decode cX4_deliver 41 = .ok (.if_icmp .lt 8, 3) := by decide +kernel
theorem dX4_deliver_44 : decode cX4_deliver 44 = .ok (.aload_n 0, 1) := by decide +kernel
theorem dX4_deliver_45 : decode cX4_deliver 45 = .ok (.iload_n 1, 1) := by decide +kernel
theorem dX4_deliver_46 : decode cX4_deliver 46 = .ok (.invokevirtual 225, 3) := by decide +kernel
theorem dX4_deliver_49 : decode cX4_deliver 49 = .ok (.aload_n 0, 1) := by decide +kernel
theorem dX4_deliver_50 : decode cX4_deliver 50 = .ok (.getfield 38, 3) := by decide +kernel
theorem dX4_deliver_53 : decode cX4_deliver 53 = .ok (.iload_n 1, 1) := by decide +kernel
theorem dX4_deliver_54 : decode cX4_deliver 54 = .ok (.iconst 5, 1) := by decide +kernel
theorem dX4_deliver_55 : decode cX4_deliver 55 = .ok (.imul, 1) := by decide +kernel
theorem dX4_deliver_56 : decode cX4_deliver 56 = .ok (.aload_n 0, 1) := by decide +kernel
theorem dX4_deliver_57 : decode cX4_deliver 57 = .ok (.getfield 35, 3) := by decide +kernel
theorem dX4_deliver_60 : decode cX4_deliver 60 = .ok (.iload_n 1, 1) := by decide +kernel
theorem dX4_deliver_61 : decode cX4_deliver 61 = .ok (.iaload, 1) := by decide +kernel
theorem dX4_deliver_62 : decode cX4_deliver 62 = .ok (.iadd, 1) := by decide +kernel
theorem dX4_deliver_63 : decode cX4_deliver 63 = .ok (.iload_n 2, 1) := by decide +kernel
theorem dX4_deliver_64 : decode cX4_deliver 64 = .ok (.iastore, 1) := by decide +kernel
theorem dX4_deliver_65 : decode cX4_deliver 65 = .ok (.aload_n 0, 1) := by decide +kernel
theorem dX4_deliver_66 : decode cX4_deliver 66 = .ok (.getfield 35, 3) := by decide +kernel
theorem dX4_deliver_69 : decode cX4_deliver 69 = .ok (.iload_n 1, 1) := by decide +kernel
theorem dX4_deliver_70 : decode cX4_deliver 70 = .ok (.dup2, 1) := by decide +kernel
theorem dX4_deliver_71 : decode cX4_deliver 71 = .ok (.iaload, 1) := by decide +kernel
theorem dX4_deliver_72 : decode cX4_deliver 72 = .ok (.iconst 1, 1) := by decide +kernel
theorem dX4_deliver_73 : decode cX4_deliver 73 = .ok (.iadd, 1) := by decide +kernel
theorem dX4_deliver_74 : decode cX4_deliver 74 = .ok (.iastore, 1) := by decide +kernel
theorem dX4_deliver_75 : decode cX4_deliver 75 = .ok (.return_, 1) := by decide +kernel
theorem dX4_takeInFirst_0 : decode cX4_takeInFirst 0 = .ok (.aload_n 0, 1) := by decide +kernel
theorem dX4_takeInFirst_1 : decode cX4_takeInFirst 1 = .ok (.iload_n 1, 1) := by decide +kernel
theorem dX4_takeInFirst_2 : decode cX4_takeInFirst 2 = .ok (.aload_n 0, 1) := by decide +kernel
theorem dX4_takeInFirst_3 : decode cX4_takeInFirst 3 = .ok (.getfield 38, 3) := by decide +kernel
theorem dX4_takeInFirst_6 : decode cX4_takeInFirst 6 = .ok (.iload_n 1, 1) := by decide +kernel
theorem dX4_takeInFirst_7 : decode cX4_takeInFirst 7 = .ok (.iconst 5, 1) := by decide +kernel
theorem dX4_takeInFirst_8 : decode cX4_takeInFirst 8 = .ok (.imul, 1) := by decide +kernel
theorem dX4_takeInFirst_9 : decode cX4_takeInFirst 9 = .ok (.iaload, 1) := by decide +kernel
theorem dX4_takeInFirst_10 : decode cX4_takeInFirst 10 = .ok (.invokevirtual 222, 3) := by decide +kernel
theorem dX4_takeInFirst_13 : decode cX4_takeInFirst 13 = .ok (.aload_n 0, 1) := by decide +kernel
theorem dX4_takeInFirst_14 : decode cX4_takeInFirst 14 = .ok (.iload_n 1, 1) := by decide +kernel
theorem dX4_takeInFirst_15 : decode cX4_takeInFirst 15 = .ok (.invokevirtual 225, 3) := by decide +kernel
theorem dX4_takeInFirst_18 : decode cX4_takeInFirst 18 = .ok (.return_, 1) := by decide +kernel
theorem dX4_dropFirst_0 : decode cX4_dropFirst 0 = .ok (.iload_n 1, 1) := by decide +kernel
theorem dX4_dropFirst_1 : decode cX4_dropFirst 1 = .ok (.iconst 5, 1) := by decide +kernel
theorem dX4_dropFirst_2 : decode cX4_dropFirst 2 = .ok (.imul, 1) := by decide +kernel
theorem dX4_dropFirst_3 : decode cX4_dropFirst 3 = .ok (.istore_n 2, 1) := by decide +kernel
theorem dX4_dropFirst_4 : decode cX4_dropFirst 4 = .ok (.aload_n 0, 1) := by decide +kernel
theorem dX4_dropFirst_5 : decode cX4_dropFirst 5 = .ok (.getfield 38, 3) := by decide +kernel
theorem dX4_dropFirst_8 : decode cX4_dropFirst 8 = .ok (.iload_n 2, 1) := by decide +kernel
theorem dX4_dropFirst_9 : decode cX4_dropFirst 9 = .ok (.iconst 1, 1) := by decide +kernel
theorem dX4_dropFirst_10 : decode cX4_dropFirst 10 = .ok (.iadd, 1) := by decide +kernel
theorem dX4_dropFirst_11 : decode cX4_dropFirst 11 = .ok (.aload_n 0, 1) := by decide +kernel
theorem dX4_dropFirst_12 : decode cX4_dropFirst 12 = .ok (.getfield 38, 3) := by decide +kernel
theorem dX4_dropFirst_15 : decode cX4_dropFirst 15 = .ok (.iload_n 2, 1) := by decide +kernel
theorem dX4_dropFirst_16 : decode cX4_dropFirst 16 = .ok (.iconst 4, 1) := by decide +kernel
theorem dX4_dropFirst_17 : decode cX4_dropFirst 17 = .ok (.invokestatic 94, 3) := by decide +kernel
theorem dX4_dropFirst_20 : decode cX4_dropFirst 20 = .ok (.aload_n 0, 1) := by decide +kernel
theorem dX4_dropFirst_21 : decode cX4_dropFirst 21 = .ok (.getfield 35, 3) := by decide +kernel
theorem dX4_dropFirst_24 : decode cX4_dropFirst 24 = .ok (.iload_n 1, 1) := by decide +kernel
theorem dX4_dropFirst_25 : decode cX4_dropFirst 25 = .ok (.dup2, 1) := by decide +kernel
theorem dX4_dropFirst_26 : decode cX4_dropFirst 26 = .ok (.iaload, 1) := by decide +kernel
theorem dX4_dropFirst_27 : decode cX4_dropFirst 27 = .ok (.iconst 1, 1) := by decide +kernel
theorem dX4_dropFirst_28 : decode cX4_dropFirst 28 = .ok (.isub, 1) := by decide +kernel
theorem dX4_dropFirst_29 : decode cX4_dropFirst 29 = .ok (.iastore, 1) := by decide +kernel
theorem dX4_dropFirst_30 : decode cX4_dropFirst 30 = .ok (.return_, 1) := by decide +kernel
theorem dX5_init_0 : decode cX5_init 0 = .ok (.aload_n 0, 1) := by decide +kernel
theorem dX5_init_1 : decode cX5_init 1 = .ok (.invokespecial 3, 3) := by decide +kernel
theorem dX5_init_4 : decode cX5_init 4 = .ok (.aload_n 0, 1) := by decide +kernel
theorem dX5_init_5 : decode cX5_init 5 = .ok (.sipush 700, 3) := by decide +kernel
theorem dX5_init_8 : decode cX5_init 8 = .ok (.newarray .byte, 2) := by decide +kernel
theorem dX5_init_10 : decode cX5_init 10 = .ok (.putfield 9, 3) := by decide +kernel
theorem dX5_init_13 : decode cX5_init 13 = .ok (.aload_n 0, 1) := by decide +kernel
theorem dX5_init_14 : decode cX5_init 14 = .ok (.iconst 0, 1) := by decide +kernel
theorem dX5_init_15 : decode cX5_init 15 = .ok (.putfield 15, 3) := by decide +kernel
theorem dX5_init_18 : decode cX5_init 18 = .ok (.return_, 1) := by decide +kernel
theorem dX5_putFourBytes_0 : decode cX5_putFourBytes 0 = .ok (.bipush 24, 2) := by decide +kernel
theorem dX5_putFourBytes_2 : decode cX5_putFourBytes 2 = .ok (.istore_n 2, 1) := by decide +kernel
theorem dX5_putFourBytes_3 : decode cX5_putFourBytes 3 = .ok (.iload_n 2, 1) := by decide +kernel
theorem dX5_putFourBytes_4 : decode cX5_putFourBytes 4 = .ok (.ifCond .lt 42, 3) := by decide +kernel
theorem dX5_putFourBytes_7 : decode cX5_putFourBytes 7 = .ok (.aload_n 0, 1) := by decide +kernel
theorem dX5_putFourBytes_8 : decode cX5_putFourBytes 8 = .ok (.getfield 15, 3) := by decide +kernel
theorem dX5_putFourBytes_11 : decode cX5_putFourBytes 11 = .ok (.sipush 700, 3) := by decide +kernel
theorem dX5_putFourBytes_14 : decode cX5_putFourBytes 14 = .ok (.if_icmp .ge 32, 3) := by decide +kernel
theorem dX5_putFourBytes_17 : decode cX5_putFourBytes 17 = .ok (.aload_n 0, 1) := by decide +kernel
theorem dX5_putFourBytes_18 : decode cX5_putFourBytes 18 = .ok (.getfield 9, 3) := by decide +kernel
theorem dX5_putFourBytes_21 : decode cX5_putFourBytes 21 = .ok (.aload_n 0, 1) := by decide +kernel
theorem dX5_putFourBytes_22 : decode cX5_putFourBytes 22 = .ok (.getfield 15, 3) := by decide +kernel
theorem dX5_putFourBytes_25 : decode cX5_putFourBytes 25 = .ok (.iload_n 1, 1) := by decide +kernel
theorem dX5_putFourBytes_26 : decode cX5_putFourBytes 26 = .ok (.iload_n 2, 1) := by decide +kernel
theorem dX5_putFourBytes_27 : decode cX5_putFourBytes 27 = .ok (.iushr, 1) := by decide +kernel
theorem dX5_putFourBytes_28 : decode cX5_putFourBytes 28 = .ok (.i2b, 1) := by decide +kernel
theorem dX5_putFourBytes_29 : decode cX5_putFourBytes 29 = .ok (.bastore, 1) := by decide +kernel
theorem dX5_putFourBytes_30 : decode cX5_putFourBytes 30 = .ok (.aload_n 0, 1) := by decide +kernel
theorem dX5_putFourBytes_31 : decode cX5_putFourBytes 31 = .ok (.dup, 1) := by decide +kernel
theorem dX5_putFourBytes_32 : decode cX5_putFourBytes 32 = .ok (.getfield 15, 3) := by decide +kernel
theorem dX5_putFourBytes_35 : decode cX5_putFourBytes 35 = .ok (.iconst 1, 1) := by decide +kernel
theorem dX5_putFourBytes_36 : decode cX5_putFourBytes 36 = .ok (.iadd, 1) := by decide +kernel
theorem dX5_putFourBytes_37 : decode cX5_putFourBytes 37 = .ok (.putfield 15, 3) := by decide +kernel
theorem dX5_putFourBytes_40 : decode cX5_putFourBytes 40 = .ok (.iinc 2 (-8), 3) := by decide +kernel
theorem dX5_putFourBytes_43 : decode cX5_putFourBytes 43 = .ok (.goto (-40), 3) := by decide +kernel
theorem dX5_putFourBytes_46 : decode cX5_putFourBytes 46 = .ok (.return_, 1) := by decide +kernel
theorem dX5_wordBeforeSpaces_0 : decode cX5_wordBeforeSpaces 0 = .ok (.aload_n 0, 1) := by decide +kernel
theorem dX5_wordBeforeSpaces_1 : decode cX5_wordBeforeSpaces 1 = .ok (.getfield 15, 3) := by decide +kernel
theorem dX5_wordBeforeSpaces_4 : decode cX5_wordBeforeSpaces 4 = .ok (.istore_n 1, 1) := by decide +kernel
theorem dX5_wordBeforeSpaces_5 : decode cX5_wordBeforeSpaces 5 = .ok (.iload_n 1, 1) := by decide +kernel
theorem dX5_wordBeforeSpaces_6 : decode cX5_wordBeforeSpaces 6 = .ok (.ifCond .le 22, 3) := by decide +kernel
theorem dX5_wordBeforeSpaces_9 : decode cX5_wordBeforeSpaces 9 = .ok (.aload_n 0, 1) := by decide +kernel
theorem dX5_wordBeforeSpaces_10 : decode cX5_wordBeforeSpaces 10 = .ok (.getfield 9, 3) := by decide +kernel
theorem dX5_wordBeforeSpaces_13 : decode cX5_wordBeforeSpaces 13 = .ok (.iload_n 1, 1) := by decide +kernel
theorem dX5_wordBeforeSpaces_14 : decode cX5_wordBeforeSpaces 14 = .ok (.iconst 1, 1) := by decide +kernel
theorem dX5_wordBeforeSpaces_15 : decode cX5_wordBeforeSpaces 15 = .ok (.isub, 1) := by decide +kernel
theorem dX5_wordBeforeSpaces_16 : decode cX5_wordBeforeSpaces 16 = .ok (.baload, 1) := by decide +kernel
theorem dX5_wordBeforeSpaces_17 : decode cX5_wordBeforeSpaces 17 = .ok (.bipush 32, 2) := by decide +kernel
theorem dX5_wordBeforeSpaces_19 : decode cX5_wordBeforeSpaces 19 = .ok (.if_icmp .ne 9, 3) := by decide +kernel
theorem dX5_wordBeforeSpaces_22 : decode cX5_wordBeforeSpaces 22 = .ok (.iinc 1 (-1), 3) := by decide +kernel
theorem dX5_wordBeforeSpaces_25 : decode cX5_wordBeforeSpaces 25 = .ok (.goto (-20), 3) := by decide +kernel
theorem dX5_wordBeforeSpaces_28 : decode cX5_wordBeforeSpaces 28 = .ok (.aload_n 0, 1) := by decide +kernel
theorem dX5_wordBeforeSpaces_29 : decode cX5_wordBeforeSpaces 29 = .ok (.iconst 0, 1) := by decide +kernel
theorem dX5_wordBeforeSpaces_30 : decode cX5_wordBeforeSpaces 30 = .ok (.iload_n 1, 1) := by decide +kernel
theorem dX5_wordBeforeSpaces_31 : decode cX5_wordBeforeSpaces 31 = .ok (.invokevirtual 19, 3) := by decide +kernel
theorem dX5_wordBeforeSpaces_34 : decode cX5_wordBeforeSpaces 34 = .ok (.lreturn, 1) := by decide +kernel
theorem dX5_readPhone_0 : decode cX5_readPhone 0 = .ok (.aload_n 0, 1) := by decide +kernel
theorem dX5_readPhone_1 : decode cX5_readPhone 1 = .ok (.iload_n 1, 1) := by decide +kernel
theorem dX5_readPhone_2 : decode cX5_readPhone 2 = .ok (.aload_n 0, 1) := by decide +kernel
theorem dX5_readPhone_3 : decode cX5_readPhone 3 = .ok (.getfield 15, 3) := by decide +kernel
theorem dX5_readPhone_6 : decode cX5_readPhone 6 = .ok (.invokestatic 23, 3) := by decide +kernel
theorem dX5_readPhone_9 : decode cX5_readPhone 9 = .ok (.putfield 29, 3) := by decide +kernel
theorem dX5_readPhone_12 : decode cX5_readPhone 12 = .ok (.aload_n 0, 1) := by decide +kernel
theorem dX5_readPhone_13 : decode cX5_readPhone 13 = .ok (.iconst 0, 1) := by decide +kernel
theorem dX5_readPhone_14 : decode cX5_readPhone 14 = .ok (.putfield 32, 3) := by decide +kernel
theorem dX5_readPhone_17 : decode cX5_readPhone 17 = .ok (.aload_n 0, 1) := by decide +kernel
theorem dX5_readPhone_18 : decode cX5_readPhone 18 = .ok (.iconst 0, 1) := by decide +kernel
theorem dX5_readPhone_19 : decode cX5_readPhone 19 = .ok (.putfield 35, 3) := by decide +kernel
theorem dX5_readPhone_22 : decode cX5_readPhone 22 = .ok (.aload_n 0, 1) := by decide +kernel
theorem dX5_readPhone_23 : decode cX5_readPhone 23 = .ok (.iconst (-1), 1) := by decide +kernel
theorem dX5_readPhone_24 : decode cX5_readPhone 24 = .ok (.putfield 38, 3) := by decide +kernel
theorem dX5_readPhone_27 : decode cX5_readPhone 27 = .ok (.aload_n 0, 1) := by decide +kernel
theorem dX5_readPhone_28 : decode cX5_readPhone 28 = .ok (.iconst 0, 1) := by decide +kernel
theorem dX5_readPhone_29 : decode cX5_readPhone 29 = .ok (.putfield 41, 3) := by decide +kernel
theorem dX5_readPhone_32 : decode cX5_readPhone 32 = .ok (.aload_n 0, 1) := by decide +kernel
theorem dX5_readPhone_33 : decode cX5_readPhone 33 = .ok (.iconst 0, 1) := by decide +kernel
theorem dX5_readPhone_34 : decode cX5_readPhone 34 = .ok (.putfield 45, 3) := by decide +kernel
theorem dX5_readPhone_37 : decode cX5_readPhone 37 = .ok (.aload_n 2, 1) := by decide +kernel
theorem dX5_readPhone_38 : decode cX5_readPhone 38 = .ok (.invokevirtual 48, 3) := by decide +kernel
theorem dX5_readPhone_41 : decode cX5_readPhone 41 = .ok (.aload_n 0, 1) := by decide +kernel
theorem dX5_readPhone_42 : decode cX5_readPhone 42 = .ok (.invokevirtual 53, 3) := by decide +kernel
theorem dX5_readPhone_45 : decode cX5_readPhone 45 = .ok (.aload_n 0, 1) := by decide +kernel
theorem dX5_readPhone_46 : decode cX5_readPhone 46 = .ok (.ldc 56, 2) := by decide +kernel
theorem dX5_readPhone_48 : decode cX5_readPhone 48 = .ok (.invokevirtual 58, 3) := by decide +kernel
theorem dX5_readPhone_51 : decode cX5_readPhone 51 = .ok (.ifCond .ne 8, 3) := by decide +kernel
theorem dX5_readPhone_54 : decode cX5_readPhone 54 = .ok (.aload_n 0, 1) := by decide +kernel
theorem dX5_readPhone_55 : decode cX5_readPhone 55 = .ok (.iconst 1, 1) := by decide +kernel
theorem dX5_readPhone_56 : decode cX5_readPhone 56 = .ok (.invokevirtual 62, 3) := by decide +kernel
theorem dX5_readPhone_59 : decode cX5_readPhone 59 = .ok (.aload_n 2, 1) := by decide +kernel
theorem dX5_readPhone_60 : decode cX5_readPhone 60 = .ok (.aload_n 0, 1) := by decide +kernel
theorem dX5_readPhone_61 : decode cX5_readPhone 61 = .ok (.bipush 50, 2) := by decide +kernel
theorem dX5_readPhone_63 : decode cX5_readPhone 63 = .ok (.sipush 2000, 3) := by decide +kernel
theorem dX5_readPhone_66 : decode cX5_readPhone 66 = .ok (.invokevirtual 66, 3) := by decide +kernel
theorem dX5_readPhone_69 : decode cX5_readPhone 69 = .ok (.putfield 69, 3) := by decide +kernel
theorem dX5_readPhone_72 : decode cX5_readPhone 72 = .ok (.aload_n 0, 1) := by decide +kernel
theorem dX5_readPhone_73 : decode cX5_readPhone 73 = .ok (.iconst 3, 1) := by decide +kernel
theorem dX5_readPhone_74 : decode cX5_readPhone 74 = .ok (.invokevirtual 72, 3) := by decide +kernel
theorem dX5_readPhone_77 : decode cX5_readPhone 77 = .ok (.aload_n 0, 1) := by decide +kernel
theorem dX5_readPhone_78 : decode cX5_readPhone 78 = .ok (.invokevirtual 53, 3) := by decide +kernel
theorem dX5_readPhone_81 : decode cX5_readPhone 81 = .ok (.iconst 0, 1) := by decide +kernel
theorem dX5_readPhone_82 : decode cX5_readPhone 82 = .ok (.istore_n 3, 1) := by decide +kernel
theorem dX5_readPhone_83 : decode cX5_readPhone 83 = .ok (.iload_n 3, 1) := by decide +kernel
theorem dX5_readPhone_84 : decode cX5_readPhone 84 = .ok (.aload_n 0, 1) := by decide +kernel
theorem dX5_readPhone_85 : decode cX5_readPhone 85 = .ok (.getfield 29, 3) := by decide +kernel
theorem dX5_readPhone_88 : decode cX5_readPhone 88 = .ok (.if_icmp .ge 105, 3) := by decide +kernel
theorem dX5_readPhone_91 : decode cX5_readPhone 91 = .ok (.aload_n 0, 1) := by decide +kernel
theorem dX5_readPhone_92 : decode cX5_readPhone 92 = .ok (.getfield 35, 3) := by decide +kernel
theorem dX5_readPhone_95 : decode cX5_readPhone 95 = .ok (.ifCond .ne 98, 3) := by decide +kernel
theorem dX5_readPhone_98 : decode cX5_readPhone 98 = .ok (.aload_n 0, 1) := by decide +kernel
theorem dX5_readPhone_99 : decode cX5_readPhone 99 = .ok (.getfield 75, 3) := by decide +kernel
theorem dX5_readPhone_102 : decode cX5_readPhone 102 = .ok (.ifCond .eq 91, 3) := by decide +kernel
theorem dX5_readPhone_105 : decode cX5_readPhone 105 = .ok (.aload_n 0, 1) := by decide +kernel
theorem dX5_readPhone_106 : decode cX5_readPhone 106 = .ok (.ldc 78, 2) := by decide +kernel
theorem dX5_readPhone_108 : decode cX5_readPhone 108 = .ok (.invokevirtual 58, 3) := by decide +kernel
theorem dX5_readPhone_111 : decode cX5_readPhone 111 = .ok (.ifCond .eq 11, 3) := by decide +kernel
theorem dX5_readPhone_114 : decode cX5_readPhone 114 = .ok (.aload_n 0, 1) := by decide +kernel
theorem dX5_readPhone_115 : decode cX5_readPhone 115 = .ok (.aload_n 2, 1) := by decide +kernel
theorem dX5_readPhone_116 : decode cX5_readPhone 116 = .ok (.invokevirtual 80, 3) := by decide +kernel
theorem dX5_readPhone_119 : decode cX5_readPhone 119 = .ok (.goto 59, 3) := by decide +kernel
theorem dX5_readPhone_122 : decode cX5_readPhone 122 = .ok (.aload_n 0, 1) := by decide +kernel
theorem dX5_readPhone_123 : decode cX5_readPhone 123 = .ok (.ldc 84, 2) := by decide +kernel
theorem dX5_readPhone_125 : decode cX5_readPhone 125 = .ok (.invokevirtual 58, 3) := by decide +kernel
theorem dX5_readPhone_128 : decode cX5_readPhone 128 = .ok (.ifCond .eq 11, 3) := by decide +kernel
theorem dX5_readPhone_131 : decode cX5_readPhone 131 = .ok (.aload_n 0, 1) := by decide +kernel
theorem dX5_readPhone_132 : decode cX5_readPhone 132 = .ok (.aload_n 2, 1) := by decide +kernel
theorem dX5_readPhone_133 : decode cX5_readPhone 133 = .ok (.invokevirtual 86, 3) := by decide +kernel
theorem dX5_readPhone_136 : decode cX5_readPhone 136 = .ok (.goto 42, 3) := by decide +kernel
theorem dX5_readPhone_139 : decode cX5_readPhone 139 = .ok (.aload_n 0, 1) := by decide +kernel
theorem dX5_readPhone_140 : decode cX5_readPhone 140 = .ok (.ldc 89, 2) := by decide +kernel
theorem dX5_readPhone_142 : decode cX5_readPhone 142 = .ok (.invokevirtual 58, 3) := by decide +kernel
theorem dX5_readPhone_145 : decode cX5_readPhone 145 = .ok (.ifCond .eq 11, 3) := by decide +kernel
theorem dX5_readPhone_148 : decode cX5_readPhone 148 = .ok (.aload_n 0, 1) := by decide +kernel
theorem dX5_readPhone_149 : decode cX5_readPhone 149 = .ok (.aload_n 2, 1) := by decide +kernel
theorem dX5_readPhone_150 : decode cX5_readPhone 150 = .ok (.invokevirtual 91, 3) := by decide +kernel
theorem dX5_readPhone_153 : decode cX5_readPhone 153 = .ok (.goto 25, 3) := by decide +kernel
theorem dX5_readPhone_156 : decode cX5_readPhone 156 = .ok (.aload_n 0, 1) := by decide +kernel
theorem dX5_readPhone_157 : decode cX5_readPhone 157 = .ok (.ldc 94, 2) := by decide +kernel
theorem dX5_readPhone_159 : decode cX5_readPhone 159 = .ok (.invokevirtual 58, 3) := by decide +kernel
theorem dX5_readPhone_162 : decode cX5_readPhone 162 = .ok (.ifCond .eq 11, 3) := by decide +kernel
theorem dX5_readPhone_165 : decode cX5_readPhone 165 = .ok (.aload_n 0, 1) := by decide +kernel
theorem dX5_readPhone_166 : decode cX5_readPhone 166 = .ok (.aload_n 2, 1) := by decide +kernel
theorem dX5_readPhone_167 : decode cX5_readPhone 167 = .ok (.invokevirtual 96, 3) := by decide +kernel
theorem dX5_readPhone_170 : decode cX5_readPhone 170 = .ok (.goto 8, 3) := by decide +kernel
theorem dX5_readPhone_173 : decode cX5_readPhone 173 = .ok (.aload_n 0, 1) := by decide +kernel
theorem dX5_readPhone_174 : decode cX5_readPhone 174 = .ok (.iconst 1, 1) := by decide +kernel
theorem dX5_readPhone_175 : decode cX5_readPhone 175 = .ok (.invokevirtual 62, 3) := by decide +kernel
theorem dX5_readPhone_178 : decode cX5_readPhone 178 = .ok (.aload_n 0, 1) := by decide +kernel
theorem dX5_readPhone_179 : decode cX5_readPhone 179 = .ok (.iconst 3, 1) := by decide +kernel
theorem dX5_readPhone_180 : decode cX5_readPhone 180 = .ok (.invokevirtual 72, 3) := by decide +kernel
theorem dX5_readPhone_183 : decode cX5_readPhone 183 = .ok (.aload_n 0, 1) := by decide +kernel
theorem dX5_readPhone_184 : decode cX5_readPhone 184 = .ok (.invokevirtual 53, 3) := by decide +kernel
theorem dX5_readPhone_187 : decode cX5_readPhone 187 = .ok (.iinc 3 1, 3) := by decide +kernel
theorem dX5_readPhone_190 : decode cX5_readPhone 190 = .ok (.goto (-107), 3) := by decide +kernel
theorem dX5_readPhone_193 : decode cX5_readPhone 193 = .ok (.aload_n 0, 1) := by decide +kernel
theorem dX5_readPhone_194 : decode cX5_readPhone 194 = .ok (.getfield 35, 3) := by decide +kernel
theorem dX5_readPhone_197 : decode cX5_readPhone 197 = .ok (.ireturn, 1) := by decide +kernel
theorem dX5_readProgram_0 : decode cX5_readProgram 0 = .ok (.aload_n 1, 1) := by decide +kernel
theorem dX5_readProgram_1 : decode cX5_readProgram 1 = .ok (.getfield 99, 3) := by decide +kernel
theorem dX5_readProgram_4 : decode cX5_readProgram 4 = .ok (.istore_n 2, 1) := by decide +kernel
theorem dX5_readProgram_5 : decode cX5_readProgram 5 = .ok (.iload_n 2, 1) := by decide +kernel
theorem dX5_readProgram_6 : decode cX5_readProgram 6 = .ok (.bipush 10, 2) := by decide +kernel
theorem dX5_readProgram_8 : decode cX5_readProgram 8 = .ok (.if_icmp .lt 9, 3) := by decide +kernel
theorem dX5_readProgram_11 : decode cX5_readProgram 11 = .ok (.aload_n 0, 1) := by decide +kernel
theorem dX5_readProgram_12 : decode cX5_readProgram 12 = .ok (.iconst 5, 1) := by decide +kernel
theorem dX5_readProgram_13 : decode cX5_readProgram 13 = .ok (.invokevirtual 62, 3) := by decide +kernel
theorem dX5_readProgram_16 : decode cX5_readProgram 16 = .ok (.return_, 1) := by decide +kernel
theorem dX5_readProgram_17 : decode cX5_readProgram 17 = .ok (.aload_n 0, 1) := by decide +kernel
theorem dX5_readProgram_18 : decode cX5_readProgram 18 = .ok (.iconst 1, 1) := by decide +kernel
theorem dX5_readProgram_19 : decode cX5_readProgram 19 = .ok (.invokevirtual 72, 3) := by decide +kernel
theorem dX5_readProgram_22 : decode cX5_readProgram 22 = .ok (.aload_n 1, 1) := by decide +kernel
theorem dX5_readProgram_23 : decode cX5_readProgram 23 = .ok (.aload_n 0, 1) := by decide +kernel
theorem dX5_readProgram_24 : decode cX5_readProgram 24 = .ok (.getfield 102, 3) := by decide +kernel
theorem dX5_readProgram_27 : decode cX5_readProgram 27 = .ok (.invokevirtual 106, 3) := by decide +kernel
theorem dX5_readProgram_30 : decode cX5_readProgram 30 = .ok (.iconst (-1), 1) := by decide +kernel
theorem dX5_readProgram_31 : decode cX5_readProgram 31 = .ok (.if_icmp .eq 8, 3) := by decide +kernel
theorem dX5_readProgram_34 : decode cX5_readProgram 34 = .ok (.aload_n 0, 1) := by decide +kernel
theorem dX5_readProgram_35 : decode cX5_readProgram 35 = .ok (.iconst 2, 1) := by decide +kernel
theorem dX5_readProgram_36 : decode cX5_readProgram 36 = .ok (.invokevirtual 62, 3) := by decide +kernel
theorem dX5_readProgram_39 : decode cX5_readProgram 39 = .ok (.aload_n 1, 1) := by decide +kernel
theorem dX5_readProgram_40 : decode cX5_readProgram 40 = .ok (.getfield 110, 3) := by decide +kernel
theorem dX5_readProgram_43 : decode cX5_readProgram 43 = .ok (.iload_n 2, 1) := by decide +kernel
theorem dX5_readProgram_44 : decode cX5_readProgram 44 = .ok (.aload_n 0, 1) := by decide +kernel
theorem dX5_readProgram_45 : decode cX5_readProgram 45 = .ok (.getfield 102, 3) := by decide +kernel
theorem dX5_readProgram_48 : decode cX5_readProgram 48 = .ok (.lastore, 1) := by decide +kernel
theorem dX5_readProgram_49 : decode cX5_readProgram 49 = .ok (.aload_n 1, 1) := by decide +kernel
theorem dX5_readProgram_50 : decode cX5_readProgram 50 = .ok (.getfield 114, 3) := by decide +kernel
theorem dX5_readProgram_53 : decode cX5_readProgram 53 = .ok (.iload_n 2, 1) := by decide +kernel
theorem dX5_readProgram_54 : decode cX5_readProgram 54 = .ok (.aaload, 1) := by decide +kernel
theorem dX5_readProgram_55 : decode cX5_readProgram 55 = .ok (.astore_n 3, 1) := by decide +kernel
theorem dX5_readProgram_56 : decode cX5_readProgram 56 = .ok (.aload_n 3, 1) := by decide +kernel
theorem dX5_readProgram_57 : decode cX5_readProgram 57 = .ok (.iconst 0, 1) := by decide +kernel
theorem dX5_readProgram_58 : decode cX5_readProgram 58 = .ok (.aload_n 0, 1) := by decide +kernel
theorem dX5_readProgram_59 : decode cX5_readProgram 59 = .ok (.iconst 1, 1) := by decide +kernel
theorem dX5_readProgram_60 : decode cX5_readProgram 60 = .ok (.sipush 400, 3) := by decide +kernel
theorem dX5_readProgram_63 : decode cX5_readProgram 63 = .ok (.invokevirtual 66, 3) := by decide +kernel
theorem dX5_readProgram_66 : decode cX5_readProgram 66 = .ok (.iastore, 1) := by decide +kernel
theorem dX5_readProgram_67 : decode cX5_readProgram 67 = .ok (.aload_n 3, 1) := by decide +kernel
theorem dX5_readProgram_68 : decode cX5_readProgram 68 = .ok (.iconst 1, 1) := by decide +kernel
theorem dX5_readProgram_69 : decode cX5_readProgram 69 = .ok (.aload_n 0, 1) := by decide +kernel
theorem dX5_readProgram_70 : decode cX5_readProgram 70 = .ok (.iconst 0, 1) := by decide +kernel
theorem dX5_readProgram_71 : decode cX5_readProgram 71 = .ok (.sipush 200, 3) := by decide +kernel
theorem dX5_readProgram_74 : decode cX5_readProgram 74 = .ok (.invokevirtual 66, 3) := by decide +kernel
theorem dX5_readProgram_77 : decode cX5_readProgram 77 = .ok (.iastore, 1) := by decide +kernel
theorem dX5_readProgram_78 : decode cX5_readProgram 78 = .ok (.aload_n 3, 1) := by decide +kernel
theorem dX5_readProgram_79 : decode cX5_readProgram 79 = .ok (.iconst 2, 1) := by decide +kernel
theorem dX5_readProgram_80 : decode cX5_readProgram 80 = .ok (.aload_n 0, 1) := by decide +kernel
theorem dX5_readProgram_81 : decode cX5_readProgram 81 = .ok (.iconst 0, 1) := by decide +kernel
theorem dX5_readProgram_82 : decode cX5_readProgram 82 = .ok (.bipush 20, 2) := by decide +kernel
theorem dX5_readProgram_84 : decode cX5_readProgram 84 = .ok (.invokevirtual 66, 3) := by decide +kernel
theorem dX5_readProgram_87 : decode cX5_readProgram 87 = .ok (.iastore, 1) := by decide +kernel
theorem dX5_readProgram_88 : decode cX5_readProgram 88 = .ok (.aload_n 3, 1) := by decide +kernel
theorem dX5_readProgram_89 : decode cX5_readProgram 89 = .ok (.iconst 3, 1) := by decide +kernel
theorem dX5_readProgram_90 : decode cX5_readProgram 90 = .ok (.aload_n 0, 1) := by decide +kernel
theorem dX5_readProgram_91 : decode cX5_readProgram 91 = .ok (.aload_n 3, 1) := by decide +kernel
theorem dX5_readProgram_92 : decode cX5_readProgram 92 = .ok (.iconst 0, 1) := by decide +kernel
theorem dX5_readProgram_93 : decode cX5_readProgram 93 = .ok (.iaload, 1) := by decide +kernel
theorem dX5_readProgram_94 : decode cX5_readProgram 94 = .ok (.sipush 999, 3) := by decide +kernel
theorem dX5_readProgram_97 : decode cX5_readProgram 97 = .ok (.invokevirtual 66, 3) := by decide +kernel
theorem dX5_readProgram_100 : decode cX5_readProgram 100 = .ok (.iastore, 1) := by decide +kernel
theorem dX5_readProgram_101 : decode cX5_readProgram 101 = .ok (.aload_n 3, 1) := by decide +kernel
theorem dX5_readProgram_102 : decode cX5_readProgram 102 = .ok (.iconst 4, 1) := by decide +kernel
theorem dX5_readProgram_103 : decode cX5_readProgram 103 = .ok (.aload_n 0, 1) := by decide +kernel
theorem dX5_readProgram_104 : decode cX5_readProgram 104 = .ok (.bipush 10, 2) := by decide +kernel
theorem dX5_readProgram_106 : decode cX5_readProgram 106 = .ok (.bipush 100, 2) := by decide +kernel
theorem dX5_readProgram_108 : decode cX5_readProgram 108 = .ok (.invokevirtual 66, 3) := by decide +kernel
theorem dX5_readProgram_111 : decode cX5_readProgram 111 = .ok (.iastore, 1) := by decide +kernel
theorem dX5_readProgram_112 : decode cX5_readProgram 112 = .ok (.aload_n 3, 1) := by decide +kernel
theorem dX5_readProgram_113 : decode cX5_readProgram 113 = .ok (.iconst 5, 1) := by decide +kernel
theorem dX5_readProgram_114 : decode cX5_readProgram 114 = .ok (.aload_n 0, 1) := by decide +kernel
theorem dX5_readProgram_115 : decode cX5_readProgram 115 = .ok (.iconst 1, 1) := by decide +kernel
theorem dX5_readProgram_116 : decode cX5_readProgram 116 = .ok (.aload_n 3, 1) := by decide +kernel
theorem dX5_readProgram_117 : decode cX5_readProgram 117 = .ok (.iconst 0, 1) := by decide +kernel
theorem dX5_readProgram_118 : decode cX5_readProgram 118 = .ok (.iaload, 1) := by decide +kernel
theorem dX5_readProgram_119 : decode cX5_readProgram 119 = .ok (.invokevirtual 66, 3) := by decide +kernel
theorem dX5_readProgram_122 : decode cX5_readProgram 122 = .ok (.iastore, 1) := by decide +kernel
theorem dX5_readProgram_123 : decode cX5_readProgram 123 = .ok (.aload_n 3, 1) := by decide +kernel
theorem dX5_readProgram_124 : decode cX5_readProgram 124 = .ok (.bipush 6, 2) := by decide +kernel
theorem dX5_readProgram_126 : decode cX5_readProgram 126 = .ok (.aload_n 0, 1) := by decide +kernel
theorem dX5_readProgram_127 : decode cX5_readProgram 127 = .ok (.iconst 0, 1) := by decide +kernel
theorem dX5_readProgram_128 : decode cX5_readProgram 128 = .ok (.sipush 9999, 3) := by decide +kernel
theorem dX5_readProgram_131 : decode cX5_readProgram 131 = .ok (.invokevirtual 66, 3) := by decide +kernel
theorem dX5_readProgram_134 : decode cX5_readProgram 134 = .ok (.iastore, 1) := by decide +kernel
theorem dX5_readProgram_135 : decode cX5_readProgram 135 = .ok (.aload_n 3, 1) := by decide +kernel
theorem dX5_readProgram_136 : decode cX5_readProgram 136 = .ok (.bipush 7, 2) := by decide +kernel
theorem dX5_readProgram_138 : decode cX5_readProgram 138 = .ok (.iconst 0, 1) := by decide +kernel
theorem dX5_readProgram_139 : decode cX5_readProgram 139 = .ok (.iastore, 1) := by decide +kernel
theorem dX5_readProgram_140 : decode cX5_readProgram 140 = .ok (.aload_n 1, 1) := by decide +kernel
theorem dX5_readProgram_141 : decode cX5_readProgram 141 = .ok (.iload_n 2, 1) := by decide +kernel
theorem dX5_readProgram_142 : decode cX5_readProgram 142 = .ok (.iconst 1, 1) := by decide +kernel
theorem dX5_readProgram_143 : decode cX5_readProgram 143 = .ok (.iadd, 1) := by decide +kernel
theorem dX5_readProgram_144 : decode cX5_readProgram 144 = .ok (.putfield 99, 3) := by decide +kernel
theorem dX5_readProgram_147 : decode cX5_readProgram 147 = .ok (.return_, 1) := by decide +kernel
theorem dX5_readWork_0 : decode cX5_readWork 0 = .ok (.aload_n 0, 1) := by decide +kernel
theorem dX5_readWork_1 : decode cX5_readWork 1 = .ok (.iconst 1, 1) := by decide +kernel
theorem dX5_readWork_2 : decode cX5_readWork 2 = .ok (.invokevirtual 72, 3) := by decide +kernel
theorem dX5_readWork_5 : decode cX5_readWork 5 = .ok (.aload_n 1, 1) := by decide +kernel
theorem dX5_readWork_6 : decode cX5_readWork 6 = .ok (.aload_n 0, 1) := by decide +kernel
theorem dX5_readWork_7 : decode cX5_readWork 7 = .ok (.getfield 102, 3) := by decide +kernel
theorem dX5_readWork_10 : decode cX5_readWork 10 = .ok (.invokevirtual 106, 3) := by decide +kernel
theorem dX5_readWork_13 : decode cX5_readWork 13 = .ok (.istore_n 2, 1) := by decide +kernel
theorem dX5_readWork_14 : decode cX5_readWork 14 = .ok (.iload_n 2, 1) := by decide +kernel
theorem dX5_readWork_15 : decode cX5_readWork 15 = .ok (.iconst (-1), 1) := by decide +kernel
theorem dX5_readWork_16 : decode cX5_readWork 16 = .ok (.if_icmp .ne 9, 3) := by decide +kernel
theorem dX5_readWork_19 : decode cX5_readWork 19 = .ok (.aload_n 0, 1) := by decide +kernel
theorem dX5_readWork_20 : decode cX5_readWork 20 = .ok (.iconst 4, 1) := by decide +kernel
theorem dX5_readWork_21 : decode cX5_readWork 21 = .ok (.invokevirtual 62, 3) := by decide +kernel
theorem dX5_readWork_24 : decode cX5_readWork 24 = .ok (.return_, 1) := by decide +kernel
theorem dX5_readWork_25 : decode cX5_readWork 25 = .ok (.aload_n 1, 1) := by decide +kernel
theorem dX5_readWork_26 : decode cX5_readWork 26 = .ok (.getfield 114, 3) := by decide +kernel
theorem dX5_readWork_29 : decode cX5_readWork 29 = .ok (.iload_n 2, 1) := by decide +kernel
theorem dX5_readWork_30 : decode cX5_readWork 30 = .ok (.aaload, 1) := by decide +kernel
theorem dX5_readWork_31 : decode cX5_readWork 31 = .ok (.bipush 7, 2) := by decide +kernel
theorem dX5_readWork_33 : decode cX5_readWork 33 = .ok (.iaload, 1) := by decide +kernel
theorem dX5_readWork_34 : decode cX5_readWork 34 = .ok (.ifCond .eq 8, 3) := by decide +kernel
theorem dX5_readWork_37 : decode cX5_readWork 37 = .ok (.aload_n 0, 1) := by decide +kernel
theorem dX5_readWork_38 : decode cX5_readWork 38 = .ok (.iconst 2, 1) := by decide +kernel
theorem dX5_readWork_39 : decode cX5_readWork 39 = .ok (.invokevirtual 62, 3) := by decide +kernel
theorem dX5_readWork_42 : decode cX5_readWork 42 = .ok (.aload_n 1, 1) := by decide +kernel
theorem dX5_readWork_43 : decode cX5_readWork 43 = .ok (.getfield 114, 3) := by decide +kernel
theorem dX5_readWork_46 : decode cX5_readWork 46 = .ok (.iload_n 2, 1) := by decide +kernel
theorem dX5_readWork_47 : decode cX5_readWork 47 = .ok (.aaload, 1) := by decide +kernel
theorem dX5_readWork_48 : decode cX5_readWork 48 = .ok (.bipush 7, 2) := by decide +kernel
theorem dX5_readWork_50 : decode cX5_readWork 50 = .ok (.aload_n 0, 1) := by decide +kernel
theorem dX5_readWork_51 : decode cX5_readWork 51 = .ok (.iconst 1, 1) := by decide +kernel
theorem dX5_readWork_52 : decode cX5_readWork 52 = .ok (.bipush 60, 2) := by decide +kernel
theorem dX5_readWork_54 : decode cX5_readWork 54 = .ok (.invokevirtual 66, 3) := by decide +kernel
theorem dX5_readWork_57 : decode cX5_readWork 57 = .ok (.iastore, 1) := by decide +kernel
theorem dX5_readWork_58 : decode cX5_readWork 58 = .ok (.return_, 1) := by decide +kernel
theorem dX5_readCosts_0 : decode cX5_readCosts 0 = .ok (.aload_n 0, 1) := by decide +kernel
theorem dX5_readCosts_1 : decode cX5_readCosts 1 = .ok (.getfield 41, 3) := by decide +kernel
theorem dX5_readCosts_4 : decode cX5_readCosts 4 = .ok (.ifCond .eq 8, 3) := by decide +kernel
theorem dX5_readCosts_7 : decode cX5_readCosts 7 = .ok (.aload_n 0, 1) := by decide +kernel
theorem dX5_readCosts_8 : decode cX5_readCosts 8 = .ok (.iconst 2, 1) := by decide +kernel
theorem dX5_readCosts_9 : decode cX5_readCosts 9 = .ok (.invokevirtual 62, 3) := by decide +kernel
theorem dX5_readCosts_12 : decode cX5_readCosts 12 = .ok (.aload_n 0, 1) := by decide +kernel
theorem dX5_readCosts_13 : decode cX5_readCosts 13 = .ok (.iconst 1, 1) := by decide +kernel
theorem dX5_readCosts_14 : decode cX5_readCosts 14 = .ok (.putfield 41, 3) := by decide +kernel
theorem dX5_readCosts_17 : decode cX5_readCosts 17 = .ok (.aload_n 1, 1) := by decide +kernel
theorem dX5_readCosts_18 : decode cX5_readCosts 18 = .ok (.aload_n 0, 1) := by decide +kernel
theorem dX5_readCosts_19 : decode cX5_readCosts 19 = .ok (.iconst 0, 1) := by decide +kernel
theorem dX5_readCosts_20 : decode cX5_readCosts 20 = .ok (.bipush 99, 2) := by decide +kernel
theorem dX5_readCosts_22 : decode cX5_readCosts 22 = .ok (.invokevirtual 66, 3) := by decide +kernel
theorem dX5_readCosts_25 : decode cX5_readCosts 25 = .ok (.putfield 118, 3) := by decide +kernel
theorem dX5_readCosts_28 : decode cX5_readCosts 28 = .ok (.aload_n 1, 1) := by decide +kernel
theorem dX5_readCosts_29 : decode cX5_readCosts 29 = .ok (.aload_n 0, 1) := by decide +kernel
theorem dX5_readCosts_30 : decode cX5_readCosts 30 = .ok (.iconst 0, 1) := by decide +kernel
theorem dX5_readCosts_31 : decode cX5_readCosts 31 = .ok (.bipush 99, 2) := by decide +kernel
theorem dX5_readCosts_33 : decode cX5_readCosts 33 = .ok (.invokevirtual 66, 3) := by decide +kernel
theorem dX5_readCosts_36 : decode cX5_readCosts 36 = .ok (.putfield 121, 3) := by decide +kernel
theorem dX5_readCosts_39 : decode cX5_readCosts 39 = .ok (.aload_n 1, 1) := by decide +kernel
theorem dX5_readCosts_40 : decode cX5_readCosts 40 = .ok (.aload_n 0, 1) := by decide +kernel
theorem dX5_readCosts_41 : decode cX5_readCosts 41 = .ok (.iconst 0, 1) := by decide +kernel
theorem dX5_readCosts_42 : decode cX5_readCosts 42 = .ok (.bipush 99, 2) := by decide +kernel
theorem dX5_readCosts_44 : decode cX5_readCosts 44 = .ok (.invokevirtual 66, 3) := by decide +kernel
theorem dX5_readCosts_47 : decode cX5_readCosts 47 = .ok (.putfield 124, 3) := by decide +kernel
theorem dX5_readCosts_50 : decode cX5_readCosts 50 = .ok (.aload_n 1, 1) := by decide +kernel
theorem dX5_readCosts_51 : decode cX5_readCosts 51 = .ok (.aload_n 0, 1) := by decide +kernel
theorem dX5_readCosts_52 : decode cX5_readCosts 52 = .ok (.iconst 0, 1) := by decide +kernel
theorem dX5_readCosts_53 : decode cX5_readCosts 53 = .ok (.bipush 99, 2) := by decide +kernel
theorem dX5_readCosts_55 : decode cX5_readCosts 55 = .ok (.invokevirtual 66, 3) := by decide +kernel
theorem dX5_readCosts_58 : decode cX5_readCosts 58 = .ok (.putfield 127, 3) := by decide +kernel
theorem dX5_readCosts_61 : decode cX5_readCosts 61 = .ok (.return_, 1) := by decide +kernel
theorem dX5_readPolicy_0 : decode cX5_readPolicy 0 = .ok (.aload_n 0, 1) := by decide +kernel
theorem dX5_readPolicy_1 : decode cX5_readPolicy 1 = .ok (.getfield 45, 3) := by decide +kernel
theorem dX5_readPolicy_4 : decode cX5_readPolicy 4 = .ok (.ifCond .eq 8, 3) := by decide +kernel
theorem dX5_readPolicy_7 : decode cX5_readPolicy 7 = .ok (.aload_n 0, 1) := by decide +kernel
theorem dX5_readPolicy_8 : decode cX5_readPolicy 8 = .ok (.iconst 2, 1) := by decide +kernel
theorem dX5_readPolicy_9 : decode cX5_readPolicy 9 = .ok (.invokevirtual 62, 3) := by decide +kernel
theorem dX5_readPolicy_12 : decode cX5_readPolicy 12 = .ok (.aload_n 0, 1) := by decide +kernel
theorem dX5_readPolicy_13 : decode cX5_readPolicy 13 = .ok (.iconst 1, 1) := by decide +kernel
theorem dX5_readPolicy_14 : decode cX5_readPolicy 14 = .ok (.putfield 45, 3) := by decide +kernel
theorem dX5_readPolicy_17 : decode cX5_readPolicy 17 = .ok (.aload_n 0, 1) := by decide +kernel
theorem dX5_readPolicy_18 : decode cX5_readPolicy 18 = .ok (.iconst 1, 1) := by decide +kernel
theorem dX5_readPolicy_19 : decode cX5_readPolicy 19 = .ok (.invokevirtual 72, 3) := by decide +kernel
theorem dX5_readPolicy_22 : decode cX5_readPolicy 22 = .ok (.aload_n 0, 1) := by decide +kernel
theorem dX5_readPolicy_23 : decode cX5_readPolicy 23 = .ok (.ldc 130, 2) := by decide +kernel
theorem dX5_readPolicy_25 : decode cX5_readPolicy 25 = .ok (.invokevirtual 58, 3) := by decide +kernel
theorem dX5_readPolicy_28 : decode cX5_readPolicy 28 = .ok (.ifCond .eq 11, 3) := by decide +kernel
theorem dX5_readPolicy_31 : decode cX5_readPolicy 31 = .ok (.aload_n 1, 1) := by decide +kernel
theorem dX5_readPolicy_32 : decode cX5_readPolicy 32 = .ok (.iconst 0, 1) := by decide +kernel
theorem dX5_readPolicy_33 : decode cX5_readPolicy 33 = .ok (.putfield 132, 3) := by decide +kernel
theorem dX5_readPolicy_36 : decode cX5_readPolicy 36 = .ok (.goto 42, 3) := by decide +kernel
theorem dX5_readPolicy_39 : decode cX5_readPolicy 39 = .ok (.aload_n 0, 1) := by decide +kernel
theorem dX5_readPolicy_40 : decode cX5_readPolicy 40 = .ok (.ldc 134, 2) := by decide +kernel
theorem dX5_readPolicy_42 : decode cX5_readPolicy 42 = .ok (.invokevirtual 58, 3) := by decide +kernel
theorem dX5_readPolicy_45 : decode cX5_readPolicy 45 = .ok (.ifCond .eq 11, 3) := by decide +kernel
theorem dX5_readPolicy_48 : decode cX5_readPolicy 48 = .ok (.aload_n 1, 1) := by decide +kernel
theorem dX5_readPolicy_49 : decode cX5_readPolicy 49 = .ok (.iconst 1, 1) := by decide +kernel
theorem dX5_readPolicy_50 : decode cX5_readPolicy 50 = .ok (.putfield 132, 3) := by decide +kernel
theorem dX5_readPolicy_53 : decode cX5_readPolicy 53 = .ok (.goto 25, 3) := by decide +kernel
theorem dX5_readPolicy_56 : decode cX5_readPolicy 56 = .ok (.aload_n 0, 1) := by decide +kernel
theorem dX5_readPolicy_57 : decode cX5_readPolicy 57 = .ok (.ldc 136, 2) := by decide +kernel
theorem dX5_readPolicy_59 : decode cX5_readPolicy 59 = .ok (.invokevirtual 58, 3) := by decide +kernel
theorem dX5_readPolicy_62 : decode cX5_readPolicy 62 = .ok (.ifCond .eq 11, 3) := by decide +kernel
theorem dX5_readPolicy_65 : decode cX5_readPolicy 65 = .ok (.aload_n 1, 1) := by decide +kernel
theorem dX5_readPolicy_66 : decode cX5_readPolicy 66 = .ok (.iconst 2, 1) := by decide +kernel
theorem dX5_readPolicy_67 : decode cX5_readPolicy 67 = .ok (.putfield 132, 3) := by decide +kernel
theorem dX5_readPolicy_70 : decode cX5_readPolicy 70 = .ok (.goto 8, 3) := by decide +kernel
theorem dX5_readPolicy_73 : decode cX5_readPolicy 73 = .ok (.aload_n 0, 1) := by decide +kernel
theorem dX5_readPolicy_74 : decode cX5_readPolicy 74 = .ok (.iconst 1, 1) := by decide +kernel
theorem dX5_readPolicy_75 : decode cX5_readPolicy 75 = .ok (.invokevirtual 62, 3) := by decide +kernel
theorem dX5_readPolicy_78 : decode cX5_readPolicy 78 = .ok (.return_, 1) := by decide +kernel
theorem dX5_fail_0 : decode cX5_fail 0 = .ok (.aload_n 0, 1) := by decide +kernel
theorem dX5_fail_1 : decode cX5_fail 1 = .ok (.getfield 35, 3) := by decide +kernel
theorem dX5_fail_4 : decode cX5_fail 4 = .ok (.ifCond .ne 16, 3) := by decide +kernel
theorem dX5_fail_7 : decode cX5_fail 7 = .ok (.aload_n 0, 1) := by decide +kernel
theorem dX5_fail_8 : decode cX5_fail 8 = .ok (.iload_n 1, 1) := by decide +kernel
theorem dX5_fail_9 : decode cX5_fail 9 = .ok (.putfield 35, 3) := by decide +kernel
theorem dX5_fail_12 : decode cX5_fail 12 = .ok (.aload_n 0, 1) := by decide +kernel
theorem dX5_fail_13 : decode cX5_fail 13 = .ok (.aload_n 0, 1) := by decide +kernel
theorem dX5_fail_14 : decode cX5_fail 14 = .ok (.getfield 138, 3) := by decide +kernel
theorem dX5_fail_17 : decode cX5_fail 17 = .ok (.putfield 38, 3) := by decide +kernel
theorem dX5_fail_20 : decode cX5_fail 20 = .ok (.return_, 1) := by decide +kernel
theorem dX5_take_0 : decode cX5_take 0 = .ok (.aload_n 0, 1) := by decide +kernel
theorem dX5_take_1 : decode cX5_take 1 = .ok (.invokevirtual 53, 3) := by decide +kernel
theorem dX5_take_4 : decode cX5_take 4 = .ok (.aload_n 0, 1) := by decide +kernel
theorem dX5_take_5 : decode cX5_take 5 = .ok (.getfield 75, 3) := by decide +kernel
theorem dX5_take_8 : decode cX5_take 8 = .ok (.iload_n 1, 1) := by decide +kernel
theorem dX5_take_9 : decode cX5_take 9 = .ok (.if_icmp .eq 8, 3) := by decide +kernel
theorem dX5_take_12 : decode cX5_take 12 = .ok (.aload_n 0, 1) := by decide +kernel
theorem dX5_take_13 : decode cX5_take 13 = .ok (.iconst 1, 1) := by decide +kernel
theorem dX5_take_14 : decode cX5_take 14 = .ok (.invokevirtual 62, 3) := by decide +kernel
theorem dX5_take_17 : decode cX5_take 17 = .ok (.return_, 1) := by decide +kernel
theorem dX5_takeNumber_0 : decode cX5_takeNumber 0 = .ok (.aload_n 0, 1) := by decide +kernel
theorem dX5_takeNumber_1 : decode cX5_takeNumber 1 = .ok (.invokevirtual 53, 3) := by decide +kernel
theorem dX5_takeNumber_4 : decode cX5_takeNumber 4 = .ok (.aload_n 0, 1) := by decide +kernel
theorem dX5_takeNumber_5 : decode cX5_takeNumber 5 = .ok (.getfield 75, 3) := by decide +kernel
theorem dX5_takeNumber_8 : decode cX5_takeNumber 8 = .ok (.iconst 2, 1) := by decide +kernel
theorem dX5_takeNumber_9 : decode cX5_takeNumber 9 = .ok (.if_icmp .eq 11, 3) := by decide +kernel
theorem dX5_takeNumber_12 : decode cX5_takeNumber 12 = .ok (.aload_n 0, 1) := by decide +kernel
theorem dX5_takeNumber_13 : decode cX5_takeNumber 13 = .ok (.iconst 1, 1) := by decide +kernel
theorem dX5_takeNumber_14 : decode cX5_takeNumber 14 = .ok (.invokevirtual 62, 3) := by decide +kernel
theorem dX5_takeNumber_17 : decode cX5_takeNumber 17 = .ok (.goto 24, 3) := by decide +kernel
theorem dX5_takeNumber_20 : decode cX5_takeNumber 20 = .ok (.aload_n 0, 1) := by decide +kernel
theorem dX5_takeNumber_21 : decode cX5_takeNumber 21 = .ok (.getfield 141, 3) := by decide +kernel
theorem dX5_takeNumber_24 : decode cX5_takeNumber 24 = .ok (.iload_n 1, 1) := by decide +kernel
theorem dX5_takeNumber_25 : decode cX5_takeNumber 25 = .ok (.if_icmp .lt 11, 3) := by decide +kernel
theorem dX5_takeNumber_28 : decode cX5_takeNumber 28 = .ok (.aload_n 0, 1) := by decide +kernel
theorem dX5_takeNumber_29 : decode cX5_takeNumber 29 = .ok (.getfield 141, 3) := by decide +kernel
theorem dX5_takeNumber_32 : decode cX5_takeNumber 32 = .ok (.iload_n 2, 1) := by decide +kernel
theorem dX5_takeNumber_33 : decode cX5_takeNumber 33 = .ok (.if_icmp .le 8, 3) := by decide +kernel
theorem dX5_takeNumber_36 : decode cX5_takeNumber 36 = .ok (.aload_n 0, 1) := by decide +kernel
theorem dX5_takeNumber_37 : decode cX5_takeNumber 37 = .ok (.iconst 3, 1) := by decide +kernel
theorem dX5_takeNumber_38 : decode cX5_takeNumber 38 = .ok (.invokevirtual 62, 3) := by decide +kernel
theorem dX5_takeNumber_41 : decode cX5_takeNumber 41 = .ok (.aload_n 0, 1) := by decide +kernel
theorem dX5_takeNumber_42 : decode cX5_takeNumber 42 = .ok (.getfield 141, 3) := by decide +kernel
theorem dX5_takeNumber_45 : decode cX5_takeNumber 45 = .ok (.ireturn, 1) := by decide +kernel
theorem dX5_isWord_0 : decode cX5_isWord 0 = .ok (.aload_n 0, 1) := by decide +kernel
theorem dX5_isWord_1 : decode cX5_isWord 1 = .ok (.getfield 75, 3) := by decide +kernel
theorem dX5_isWord_4 : decode cX5_isWord 4 = .ok (.iconst 1, 1) := by decide +kernel
theorem dX5_isWord_5 : decode cX5_isWord 5 = .ok (.if_icmp .ne 19, 3) := by decide +kernel
theorem dX5_isWord_8 : decode cX5_isWord 8 = .ok (.aload_n 0, 1) := by decide +kernel
theorem dX5_isWord_9 : decode cX5_isWord 9 = .ok (.getfield 102, 3) := by decide +kernel
theorem dX5_isWord_12 : decode cX5_isWord 12 = .ok (.aload_n 1, 1) := by decide +kernel
theorem dX5_isWord_13 : decode cX5_isWord 13 = .ok (.invokestatic 144, 3) := by decide +kernel
theorem dX5_isWord_16 : decode cX5_isWord 16 = .ok (.lcmp, 1) := by decide +kernel
theorem dX5_isWord_17 : decode cX5_isWord 17 = .ok (.ifCond .ne 7, 3) := by decide +kernel
theorem dX5_isWord_20 : decode cX5_isWord 20 = .ok (.iconst 1, 1) := by decide +kernel
theorem dX5_isWord_21 : decode cX5_isWord 21 = .ok (.goto 4, 3) := by decide +kernel
theorem dX5_isWord_24 : decode cX5_isWord 24 = .ok (.iconst 0, 1) := by decide +kernel
theorem dX5_isWord_25 : decode cX5_isWord 25 = .ok (.ireturn, 1) := by decide +kernel
theorem dX5_step_0 : decode cX5_step 0 = .ok (.aload_n 0, 1) := by decide +kernel
theorem dX5_step_1 : decode cX5_step 1 = .ok (.getfield 35, 3) := by decide +kernel
theorem dX5_step_4 : decode cX5_step 4 = .ok (.ifCond .eq 4, 3) := by decide +kernel
theorem dX5_step_7 : decode cX5_step 7 = .ok (.return_, 1) := by decide +kernel
theorem dX5_step_8 : decode cX5_step 8 = .ok (.aload_n 0, 1) := by decide +kernel
theorem dX5_step_9 : decode cX5_step 9 = .ok (.getfield 32, 3) := by decide +kernel
theorem dX5_step_12 : decode cX5_step 12 = .ok (.aload_n 0, 1) := by decide +kernel
theorem dX5_step_13 : decode cX5_step 13 = .ok (.getfield 29, 3) := by decide +kernel
theorem dX5_step_16 : decode cX5_step 16 = .ok (.if_icmp .ge 44, 3) := by decide +kernel
theorem dX5_step_19 : decode cX5_step 19 = .ok (.aload_n 0, 1) := by decide +kernel
theorem dX5_step_20 : decode cX5_step 20 = .ok (.getfield 9, 3) := by decide +kernel
theorem dX5_step_23 : decode cX5_step 23 = .ok (.aload_n 0, 1) := by decide +kernel
theorem dX5_step_24 : decode cX5_step 24 = .ok (.getfield 32, 3) := by decide +kernel
theorem dX5_step_27 : decode cX5_step 27 = .ok (.baload, 1) := by decide +kernel
theorem dX5_step_28 : decode cX5_step 28 = .ok (.bipush 32, 2) := by decide +kernel
theorem dX5_step_30 : decode cX5_step 30 = .ok (.if_icmp .eq 17, 3) := by decide +kernel
theorem dX5_step_33 : decode cX5_step 33 = .ok (.aload_n 0, 1) := by decide +kernel
theorem dX5_step_34 : decode cX5_step 34 = .ok (.getfield 9, 3) := by decide +kernel
theorem dX5_step_37 : decode cX5_step 37 = .ok (.aload_n 0, 1) := by decide +kernel
theorem dX5_step_38 : decode cX5_step 38 = .ok (.getfield 32, 3) := by decide +kernel
theorem dX5_step_41 : decode cX5_step 41 = .ok (.baload, 1) := by decide +kernel
theorem dX5_step_42 : decode cX5_step 42 = .ok (.bipush 10, 2) := by decide +kernel
theorem dX5_step_44 : decode cX5_step 44 = .ok (.if_icmp .ne 16, 3) := by decide +kernel
theorem dX5_step_47 : decode cX5_step 47 = .ok (.aload_n 0, 1) := by decide +kernel
theorem dX5_step_48 : decode cX5_step 48 = .ok (.dup, 1) := by decide +kernel
theorem dX5_step_49 : decode cX5_step 49 = .ok (.getfield 32, 3) := by decide +kernel
theorem dX5_step_52 : decode cX5_step 52 = .ok (.iconst 1, 1) := by decide +kernel
theorem dX5_step_53 : decode cX5_step 53 = .ok (.iadd, 1) := by decide +kernel
theorem dX5_step_54 : decode cX5_step 54 = .ok (.putfield 32, 3) := by decide +kernel
theorem dX5_step_57 : decode cX5_step 57 = .ok (.goto (-49), 3) := by decide +kernel
theorem dX5_step_60 : decode cX5_step 60 = .ok (.aload_n 0, 1) := by decide +kernel
theorem dX5_step_61 : decode cX5_step 61 = .ok (.aload_n 0, 1) := by decide +kernel
theorem dX5_step_62 : decode cX5_step 62 = .ok (.getfield 32, 3) := by decide +kernel
theorem dX5_step_65 : decode cX5_step 65 = .ok (.putfield 138, 3) := by decide +kernel
theorem dX5_step_68 : decode cX5_step 68 = .ok (.aload_n 0, 1) := by decide +kernel
theorem dX5_step_69 : decode cX5_step 69 = .ok (.lconst 0, 1) := by decide +kernel
theorem dX5_step_70 : decode cX5_step 70 = .ok (.putfield 102, 3) := by decide +kernel
theorem dX5_step_73 : decode cX5_step 73 = .ok (.aload_n 0, 1) := by decide +kernel
theorem dX5_step_74 : decode cX5_step 74 = .ok (.iconst 0, 1) := by decide +kernel
theorem dX5_step_75 : decode cX5_step 75 = .ok (.putfield 141, 3) := by decide +kernel
theorem dX5_step_78 : decode cX5_step 78 = .ok (.aload_n 0, 1) := by decide +kernel
theorem dX5_step_79 : decode cX5_step 79 = .ok (.getfield 32, 3) := by decide +kernel
theorem dX5_step_82 : decode cX5_step 82 = .ok (.aload_n 0, 1) := by decide +kernel
theorem dX5_step_83 : decode cX5_step 83 = .ok (.getfield 29, 3) := by decide +kernel
theorem dX5_step_86 : decode cX5_step 86 = .ok (.if_icmp .lt 11, 3) := by decide +kernel
theorem dX5_step_89 : decode cX5_step 89 = .ok (.aload_n 0, 1) := by decide +kernel
theorem dX5_step_90 : decode cX5_step 90 = .ok (.iconst 0, 1) := by decide +kernel
theorem dX5_step_91 : decode cX5_step 91 = .ok (.putfield 75, 3) := by decide +kernel
theorem dX5_step_94 : decode cX5_step 94 = .ok (.goto 114, 3) := by decide +kernel
theorem dX5_step_97 : decode cX5_step 97 = .ok (.aload_n 0, 1) := by decide +kernel
theorem dX5_step_98 : decode cX5_step 98 = .ok (.getfield 9, 3) := by decide +kernel
theorem dX5_step_101 : decode cX5_step 101 = .ok (.aload_n 0, 1) := by decide +kernel
theorem dX5_step_102 : decode cX5_step 102 = .ok (.getfield 32, 3) := by decide +kernel
theorem dX5_step_105 : decode cX5_step 105 = .ok (.baload, 1) := by decide +kernel
theorem dX5_step_106 : decode cX5_step 106 = .ok (.invokestatic 148, 3) := by decide +kernel
theorem dX5_step_109 : decode cX5_step 109 = .ok (.ifCond .eq 44, 3) := by decide +kernel
theorem dX5_step_112 : decode cX5_step 112 = .ok (.aload_n 0, 1) := by decide +kernel
theorem dX5_step_113 : decode cX5_step 113 = .ok (.invokevirtual 152, 3) := by decide +kernel
theorem dX5_step_116 : decode cX5_step 116 = .ok (.aload_n 0, 1) := by decide +kernel
theorem dX5_step_117 : decode cX5_step 117 = .ok (.aload_n 0, 1) := by decide +kernel
theorem dX5_step_118 : decode cX5_step 118 = .ok (.aload_n 0, 1) := by decide +kernel
theorem dX5_step_119 : decode cX5_step 119 = .ok (.getfield 138, 3) := by decide +kernel
theorem dX5_step_122 : decode cX5_step 122 = .ok (.aload_n 0, 1) := by decide +kernel
theorem dX5_step_123 : decode cX5_step 123 = .ok (.getfield 32, 3) := by decide +kernel
theorem dX5_step_126 : decode cX5_step 126 = .ok (.invokevirtual 19, 3) := by decide +kernel
theorem dX5_step_129 : decode cX5_step 129 = .ok (.putfield 102, 3) := by decide +kernel
theorem dX5_step_132 : decode cX5_step 132 = .ok (.aload_n 0, 1) := by decide +kernel
theorem dX5_step_133 : decode cX5_step 133 = .ok (.aload_n 0, 1) := by decide +kernel
theorem dX5_step_134 : decode cX5_step 134 = .ok (.getfield 102, 3) := by decide +kernel
theorem dX5_step_137 : decode cX5_step 137 = .ok (.lconst 0, 1) := by decide +kernel
theorem dX5_step_138 : decode cX5_step 138 = .ok (.lcmp, 1) := by decide +kernel
theorem dX5_step_139 : decode cX5_step 139 = .ok (.ifCond .ne 7, 3) := by decide +kernel
theorem dX5_step_142 : decode cX5_step 142 = .ok (.iconst 4, 1) := by decide +kernel
theorem dX5_step_143 : decode cX5_step 143 = .ok (.goto 4, 3) := by decide +kernel
theorem dX5_step_146 : decode cX5_step 146 = .ok (.iconst 1, 1) := by decide +kernel
theorem dX5_step_147 : decode cX5_step 147 = .ok (.putfield 75, 3) := by decide +kernel
theorem dX5_step_150 : decode cX5_step 150 = .ok (.goto 58, 3) := by decide +kernel
theorem dX5_step_153 : decode cX5_step 153 = .ok (.aload_n 0, 1) := by decide +kernel
theorem dX5_step_154 : decode cX5_step 154 = .ok (.getfield 9, 3) := by decide +kernel
theorem dX5_step_157 : decode cX5_step 157 = .ok (.aload_n 0, 1) := by decide +kernel
theorem dX5_step_158 : decode cX5_step 158 = .ok (.getfield 32, 3) := by decide +kernel
theorem dX5_step_161 : decode cX5_step 161 = .ok (.baload, 1) := by decide +kernel
theorem dX5_step_162 : decode cX5_step 162 = .ok (.invokestatic 155, 3) := by decide +kernel
theorem dX5_step_165 : decode cX5_step 165 = .ok (.ifCond .eq 10, 3) := by decide +kernel
theorem dX5_step_168 : decode cX5_step 168 = .ok (.aload_n 0, 1) := by decide +kernel
theorem dX5_step_169 : decode cX5_step 169 = .ok (.invokevirtual 158, 3) := by decide +kernel
theorem dX5_step_172 : decode cX5_step 172 = .ok (.goto 36, 3) := by decide +kernel
theorem dX5_step_175 : decode cX5_step 175 = .ok (.aload_n 0, 1) := by decide +kernel
theorem dX5_step_176 : decode cX5_step 176 = .ok (.aload_n 0, 1) := by decide +kernel
theorem dX5_step_177 : decode cX5_step 177 = .ok (.getfield 9, 3) := by decide +kernel
theorem dX5_step_180 : decode cX5_step 180 = .ok (.aload_n 0, 1) := by decide +kernel
theorem dX5_step_181 : decode cX5_step 181 = .ok (.getfield 32, 3) := by decide +kernel
theorem dX5_step_184 : decode cX5_step 184 = .ok (.baload, 1) := by decide +kernel
theorem dX5_step_185 : decode cX5_step 185 = .ok (.bipush 59, 2) := by decide +kernel
theorem dX5_step_187 : decode cX5_step 187 = .ok (.if_icmp .ne 7, 3) := by decide +kernel
theorem dX5_step_190 : decode cX5_step 190 = .ok (.iconst 3, 1) := by decide +kernel
theorem dX5_step_191 : decode cX5_step 191 = .ok (.goto 4, 3) := by decide +kernel
theorem dX5_step_194 : decode cX5_step 194 = .ok (.iconst 4, 1) := by decide +kernel
theorem dX5_step_195 : decode cX5_step 195 = .ok (.putfield 75, 3) := by decide +kernel
theorem dX5_step_198 : decode cX5_step 198 = .ok (.aload_n 0, 1) := by decide +kernel
theorem dX5_step_199 : decode cX5_step 199 = .ok (.dup, 1) := by decide +kernel
theorem dX5_step_200 : decode cX5_step 200 = .ok (.getfield 32, 3) := by decide +kernel
theorem dX5_step_203 : decode cX5_step 203 = .ok (.iconst 1, 1) := by decide +kernel
theorem dX5_step_204 : decode cX5_step 204 = .ok (.iadd, 1) := by decide +kernel
theorem dX5_step_205 : decode cX5_step 205 = .ok (.putfield 32, 3) := by decide +kernel
theorem dX5_step_208 : decode cX5_step 208 = .ok (.return_, 1) := by decide +kernel
theorem dX5_stepOverLetters_0 : decode cX5_stepOverLetters 0 = .ok (.aload_n 0, 1) := by decide +kernel
theorem dX5_stepOverLetters_1 : decode cX5_stepOverLetters 1 = .ok (.getfield 32, 3) := by decide +kernel
theorem dX5_stepOverLetters_4 : decode cX5_stepOverLetters 4 = .ok (.aload_n 0, 1) := by decide +kernel
theorem dX5_stepOverLetters_5 : decode cX5_stepOverLetters 5 = .ok (.getfield 29, 3) := by decide +kernel
theorem dX5_stepOverLetters_8 : decode cX5_stepOverLetters 8 = .ok (.if_icmp .ge 31, 3) := by decide +kernel
theorem dX5_stepOverLetters_11 : decode cX5_stepOverLetters 11 = .ok (.aload_n 0, 1) := by decide +kernel
theorem dX5_stepOverLetters_12 : decode cX5_stepOverLetters 12 = .ok (.getfield 9, 3) := by decide +kernel
theorem dX5_stepOverLetters_15 : decode cX5_stepOverLetters 15 = .ok (.aload_n 0, 1) := by decide +kernel
theorem dX5_stepOverLetters_16 : decode cX5_stepOverLetters 16 = .ok (.getfield 32, 3) := by decide +kernel
theorem dX5_stepOverLetters_19 : decode cX5_stepOverLetters 19 = .ok (.baload, 1) := by decide +kernel
theorem dX5_stepOverLetters_20 : decode cX5_stepOverLetters 20 = .ok (.invokestatic 148, 3) := by decide +kernel
theorem dX5_stepOverLetters_23 : decode cX5_stepOverLetters 23 = .ok (.ifCond .eq 16, 3) := by decide +kernel
theorem dX5_stepOverLetters_26 : decode cX5_stepOverLetters 26 = .ok (.aload_n 0, 1) := by decide +kernel
theorem dX5_stepOverLetters_27 : decode cX5_stepOverLetters 27 = .ok (.dup, 1) := by decide +kernel
theorem dX5_stepOverLetters_28 : decode cX5_stepOverLetters 28 = .ok (.getfield 32, 3) := by decide +kernel
theorem dX5_stepOverLetters_31 : decode cX5_stepOverLetters 31 = .ok (.iconst 1, 1) := by decide +kernel
theorem dX5_stepOverLetters_32 : decode cX5_stepOverLetters 32 = .ok (.iadd, 1) := by decide +kernel
theorem dX5_stepOverLetters_33 : decode cX5_stepOverLetters 33 = .ok (.putfield 32, 3) := by decide +kernel
theorem dX5_stepOverLetters_36 : decode cX5_stepOverLetters 36 = .ok (.goto (-36), 3) := by decide +kernel
theorem dX5_stepOverLetters_39 : decode cX5_stepOverLetters 39 = .ok (.return_, 1) := by decide +kernel
theorem dX5_stepOverNumber_0 : decode cX5_stepOverNumber 0 = .ok (.aload_n 0, 1) := by decide +kernel
theorem dX5_stepOverNumber_1 : decode cX5_stepOverNumber 1 = .ok (.getfield 32, 3) := by decide +kernel
theorem dX5_stepOverNumber_4 : decode cX5_stepOverNumber 4 = .ok (.aload_n 0, 1) := by decide +kernel
theorem dX5_stepOverNumber_5 : decode cX5_stepOverNumber 5 = .ok (.getfield 29, 3) := by decide +kernel
theorem dX5_stepOverNumber_8 : decode cX5_stepOverNumber 8 = .ok (.if_icmp .ge 55, 3) := by decide +kernel
theorem dX5_stepOverNumber_11 : decode cX5_stepOverNumber 11 = .ok (.aload_n 0, 1) := by decide +kernel
theorem dX5_stepOverNumber_12 : decode cX5_stepOverNumber 12 = .ok (.getfield 9, 3) := by decide +kernel
theorem dX5_stepOverNumber_15 : decode cX5_stepOverNumber 15 = .ok (.aload_n 0, 1) := by decide +kernel
theorem dX5_stepOverNumber_16 : decode cX5_stepOverNumber 16 = .ok (.getfield 32, 3) := by decide +kernel
theorem dX5_stepOverNumber_19 : decode cX5_stepOverNumber 19 = .ok (.baload, 1) := by decide +kernel
theorem dX5_stepOverNumber_20 : decode cX5_stepOverNumber 20 = .ok (.invokestatic 155, 3) := by decide +kernel
theorem dX5_stepOverNumber_23 : decode cX5_stepOverNumber 23 = .ok (.ifCond .eq 40, 3) := by decide +kernel
theorem dX5_stepOverNumber_26 : decode cX5_stepOverNumber 26 = .ok (.aload_n 0, 1) := by decide +kernel
theorem dX5_stepOverNumber_27 : decode cX5_stepOverNumber 27 = .ok (.bipush 10, 2) := by decide +kernel
theorem dX5_stepOverNumber_29 : decode cX5_stepOverNumber 29 = .ok (.aload_n 0, 1) := by decide +kernel
theorem dX5_stepOverNumber_30 : decode cX5_stepOverNumber 30 = .ok (.getfield 141, 3) := by decide +kernel
theorem dX5_stepOverNumber_33 : decode cX5_stepOverNumber 33 = .ok (.imul, 1) := by decide +kernel
theorem dX5_stepOverNumber_34 : decode cX5_stepOverNumber 34 = .ok (.aload_n 0, 1) := by decide +kernel
theorem dX5_stepOverNumber_35 : decode cX5_stepOverNumber 35 = .ok (.getfield 9, 3) := by decide +kernel
theorem dX5_stepOverNumber_38 : decode cX5_stepOverNumber 38 = .ok (.aload_n 0, 1) := by decide +kernel
theorem dX5_stepOverNumber_39 : decode cX5_stepOverNumber 39 = .ok (.getfield 32, 3) := by decide +kernel
theorem dX5_stepOverNumber_42 : decode cX5_stepOverNumber 42 = .ok (.baload, 1) := by decide +kernel
theorem dX5_stepOverNumber_43 : decode cX5_stepOverNumber 43 = .ok (.bipush 48, 2) := by decide +kernel
theorem dX5_stepOverNumber_45 : decode cX5_stepOverNumber 45 = .ok (.isub, 1) := by decide +kernel
theorem dX5_stepOverNumber_46 : decode cX5_stepOverNumber 46 = .ok (.iadd, 1) := by decide +kernel
theorem dX5_stepOverNumber_47 : decode cX5_stepOverNumber 47 = .ok (.putfield 141, 3) := by decide +kernel
theorem dX5_stepOverNumber_50 : decode cX5_stepOverNumber 50 = .ok (.aload_n 0, 1) := by decide +kernel
theorem dX5_stepOverNumber_51 : decode cX5_stepOverNumber 51 = .ok (.dup, 1) := by decide +kernel
theorem dX5_stepOverNumber_52 : decode cX5_stepOverNumber 52 = .ok (.getfield 32, 3) := by decide +kernel
theorem dX5_stepOverNumber_55 : decode cX5_stepOverNumber 55 = .ok (.iconst 1, 1) := by decide +kernel
theorem dX5_stepOverNumber_56 : decode cX5_stepOverNumber 56 = .ok (.iadd, 1) := by decide +kernel
theorem dX5_stepOverNumber_57 : decode cX5_stepOverNumber 57 = .ok (.putfield 32, 3) := by decide +kernel
theorem dX5_stepOverNumber_60 : decode cX5_stepOverNumber 60 = .ok (.goto (-60), 3) := by decide +kernel
theorem dX5_stepOverNumber_63 : decode cX5_stepOverNumber 63 = .ok (.aload_n 0, 1) := by decide +kernel
theorem dX5_stepOverNumber_64 : decode cX5_stepOverNumber 64 = .ok (.aload_n 0, 1) := by decide +kernel
theorem dX5_stepOverNumber_65 : decode cX5_stepOverNumber 65 = .ok (.getfield 32, 3) := by decide +kernel
theorem dX5_stepOverNumber_68 : decode cX5_stepOverNumber 68 = .ok (.aload_n 0, 1) := by decide +kernel
theorem dX5_stepOverNumber_69 : decode cX5_stepOverNumber 69 = .ok (.getfield 138, 3) := by decide +kernel
theorem dX5_stepOverNumber_72 : decode cX5_stepOverNumber 72 = .ok (.isub, 1) := by decide +kernel
theorem dX5_stepOverNumber_73 : decode cX5_stepOverNumber 73 = .ok (.iconst 4, 1) := by decide +kernel
theorem dX5_stepOverNumber_74 : decode cX5_stepOverNumber 74 = .ok (.if_icmp .le 7, 3) := by decide +kernel
theorem dX5_stepOverNumber_77 : decode cX5_stepOverNumber 77 = .ok (.iconst 4, 1) := by decide +kernel
theorem dX5_stepOverNumber_78 : decode cX5_stepOverNumber 78 = .ok (.goto 4, 3) := by decide +kernel
theorem dX5_stepOverNumber_81 : decode cX5_stepOverNumber 81 = .ok (.iconst 2, 1) := by decide +kernel
theorem dX5_stepOverNumber_82 : decode cX5_stepOverNumber 82 = .ok (.putfield 75, 3) := by decide +kernel
theorem dX5_stepOverNumber_85 : decode cX5_stepOverNumber 85 = .ok (.return_, 1) := by decide +kernel
theorem dX5_wordBetween_0 : decode cX5_wordBetween 0 = .ok (.iload_n 1, 1) := by decide +kernel
theorem dX5_wordBetween_1 : decode cX5_wordBetween 1 = .ok (.ifCond .lt 19, 3) := by decide +kernel
theorem dX5_wordBetween_4 : decode cX5_wordBetween 4 = .ok (.iload_n 2, 1) := by decide +kernel
theorem dX5_wordBetween_5 : decode cX5_wordBetween 5 = .ok (.aload_n 0, 1) := by decide +kernel
theorem dX5_wordBetween_6 : decode cX5_wordBetween 6 = .ok (.getfield 15, 3) := by decide +kernel
theorem dX5_wordBetween_9 : decode cX5_wordBetween 9 = .ok (.if_icmp .gt 11, 3) := by decide +kernel
theorem dX5_wordBetween_12 : decode cX5_wordBetween 12 = .ok (.iload_n 2, 1) := by decide +kernel
theorem dX5_wordBetween_13 : decode cX5_wordBetween 13 = .ok (.iload_n 1, 1) := by decide +kernel
theorem dX5_wordBetween_14 : decode cX5_wordBetween 14 = .ok (.isub, 1) := by decide +kernel
theorem dX5_wordBetween_15 : decode cX5_wordBetween 15 = .ok (.bipush 8, 2) := by decide +kernel
theorem dX5_wordBetween_17 : decode cX5_wordBetween 17 = .ok (.if_icmp .le 5, 3) := by decide +kernel
theorem dX5_wordBetween_20 : decode cX5_wordBetween 20 = .ok (.lconst 0, 1) := by decide +kernel
theorem dX5_wordBetween_21 : decode cX5_wordBetween 21 = .ok (.lreturn, 1) := by decide +kernel
theorem dX5_wordBetween_22 : decode cX5_wordBetween 22 = .ok (.lconst 0, 1) := by decide +kernel
theorem dX5_wordBetween_23 : decode cX5_wordBetween 23 = .ok (.lstore_n 3, 1) := by decide +kernel
theorem dX5_wordBetween_24 : decode cX5_wordBetween 24 = .ok (.iload_n 1, 1) := by decide +kernel
theorem dX5_wordBetween_25 : decode cX5_wordBetween 25 = .ok (.istore 5, 2) := by decide +kernel
theorem dX5_wordBetween_27 : decode cX5_wordBetween 27 = .ok (.iload 5, 2) := by decide +kernel
theorem dX5_wordBetween_29 : decode cX5_wordBetween 29 = .ok (.iload_n 2, 1) := by decide +kernel
theorem dX5_wordBetween_30 : decode cX5_wordBetween 30 = .ok (.if_icmp .ge 44, 3) := by decide +kernel
theorem dX5_wordBetween_33 : decode cX5_wordBetween 33 = .ok (.aload_n 0, 1) := by decide +kernel
theorem dX5_wordBetween_34 : decode cX5_wordBetween 34 = .ok (.getfield 9, 3) := by decide +kernel
theorem dX5_wordBetween_37 : decode cX5_wordBetween 37 = .ok (.iload 5, 2) := by decide +kernel
theorem dX5_wordBetween_39 : decode cX5_wordBetween 39 = .ok (.baload, 1) := by decide +kernel
theorem dX5_wordBetween_40 : decode cX5_wordBetween 40 = .ok (.invokestatic 148, 3) := by decide +kernel
theorem dX5_wordBetween_43 : decode cX5_wordBetween 43 = .ok (.ifCond .ne 5, 3) := by decide +kernel
theorem dX5_wordBetween_46 : decode cX5_wordBetween 46 = .ok (.lconst 0, 1) := by decide +kernel
theorem dX5_wordBetween_47 : decode cX5_wordBetween 47 = .ok (.lreturn, 1) := by decide +kernel
theorem dX5_wordBetween_48 : decode cX5_wordBetween 48 = .ok (.ldc2_w 161, 3) := by decide +kernel
theorem dX5_wordBetween_51 : decode cX5_wordBetween 51 = .ok (.lload_n 3, 1) := by decide +kernel
theorem dX5_wordBetween_52 : decode cX5_wordBetween 52 = .ok (.lmul, 1) := by decide +kernel
theorem dX5_wordBetween_53 : decode cX5_wordBetween 53 = .ok (.aload_n 0, 1) := by decide +kernel
theorem dX5_wordBetween_54 : decode cX5_wordBetween 54 = .ok (.getfield 9, 3) := by decide +kernel
theorem dX5_wordBetween_57 : decode cX5_wordBetween 57 = .ok (.iload 5, 2) := by decide +kernel
theorem dX5_wordBetween_59 : decode cX5_wordBetween 59 = .ok (.baload, 1) := by decide +kernel
theorem dX5_wordBetween_60 : decode cX5_wordBetween 60 = .ok (.bipush 97, 2) := by decide +kernel
theorem dX5_wordBetween_62 : decode cX5_wordBetween 62 = .ok (.isub, 1) := by decide +kernel
theorem dX5_wordBetween_63 : decode cX5_wordBetween 63 = .ok (.iconst 1, 1) := by decide +kernel
theorem dX5_wordBetween_64 : decode cX5_wordBetween 64 = .ok (.iadd, 1) := by decide +kernel
theorem dX5_wordBetween_65 : decode cX5_wordBetween 65 = .ok (.i2l, 1) := by decide +kernel
theorem dX5_wordBetween_66 : decode cX5_wordBetween 66 = .ok (.ladd, 1) := by decide +kernel
theorem dX5_wordBetween_67 : decode cX5_wordBetween 67 = .ok (.lstore_n 3, 1) := by decide +kernel
theorem dX5_wordBetween_68 : decode cX5_wordBetween 68 = .ok (.iinc 5 1, 3) := by decide +kernel
theorem dX5_wordBetween_71 : decode cX5_wordBetween 71 = .ok (.goto (-44), 3) := by decide +kernel
theorem dX5_wordBetween_74 : decode cX5_wordBetween 74 = .ok (.lload_n 3, 1) := by decide +kernel
theorem dX5_wordBetween_75 : decode cX5_wordBetween 75 = .ok (.lreturn, 1) := by decide +kernel
theorem dX5_packed_0 : decode cX5_packed 0 = .ok (.lconst 0, 1) := by decide +kernel
theorem dX5_packed_1 : decode cX5_packed 1 = .ok (.lstore_n 1, 1) := by decide +kernel
theorem dX5_packed_2 : decode cX5_packed 2 = .ok (.iconst 0, 1) := by decide +kernel
theorem dX5_packed_3 : decode cX5_packed 3 = .ok (.istore_n 3, 1) := by decide +kernel
theorem dX5_packed_4 : decode cX5_packed 4 = .ok (.iload_n 3, 1) := by decide +kernel
theorem dX5_packed_5 : decode cX5_packed 5 = .ok (.aload_n 0, 1) := by decide +kernel
theorem dX5_packed_6 : decode cX5_packed 6 = .ok (.invokevirtual 163, 3) := by decide +kernel
theorem dX5_packed_9 : decode cX5_packed 9 = .ok (.if_icmp .ge 27, 3) := by decide +kernel
theorem dX5_packed_12 : decode cX5_packed 12 = .ok (.ldc2_w 161, 3) := by decide +kernel
theorem dX5_packed_15 : decode cX5_packed 15 = .ok (.lload_n 1, 1) := by decide +kernel
theorem dX5_packed_16 : decode cX5_packed 16 = .ok (.lmul, 1) := by decide +kernel
theorem dX5_packed_17 : decode cX5_packed 17 = .ok (.aload_n 0, 1) := by decide +kernel
theorem dX5_packed_18 : decode cX5_packed 18 = .ok (.iload_n 3, 1) := by decide +kernel
theorem dX5_packed_19 : decode cX5_packed 19 = .ok (.invokevirtual 168, 3) := by decide +kernel
theorem dX5_packed_22 : decode cX5_packed 22 = .ok (.bipush 97, 2) := by decide +kernel
theorem dX5_packed_24 : decode cX5_packed 24 = .ok (.isub, 1) := by decide +kernel
theorem dX5_packed_25 : decode cX5_packed 25 = .ok (.iconst 1, 1) := by decide +kernel
theorem dX5_packed_26 : decode cX5_packed 26 = .ok (.iadd, 1) := by decide +kernel
theorem dX5_packed_27 : decode cX5_packed 27 = .ok (.i2l, 1) := by decide +kernel
theorem dX5_packed_28 : decode cX5_packed 28 = .ok (.ladd, 1) := by decide +kernel
theorem dX5_packed_29 : decode cX5_packed 29 = .ok (.lstore_n 1, 1) := by decide +kernel
theorem dX5_packed_30 : decode cX5_packed 30 = .ok (.iinc 3 1, 3) := by decide +kernel
theorem dX5_packed_33 : decode cX5_packed 33 = .ok (.goto (-29), 3) := by decide +kernel
theorem dX5_packed_36 : decode cX5_packed 36 = .ok (.lload_n 1, 1) := by decide +kernel
theorem dX5_packed_37 : decode cX5_packed 37 = .ok (.lreturn, 1) := by decide +kernel
theorem dX5_isLetter_0 : decode cX5_isLetter 0 = .ok (.iload_n 0, 1) := by decide +kernel
theorem dX5_isLetter_1 : decode cX5_isLetter 1 = .ok (.bipush 97, 2) := by decide +kernel
theorem dX5_isLetter_3 : decode cX5_isLetter 3 = .ok (.if_icmp .lt 13, 3) := by decide +kernel
theorem dX5_isLetter_6 : decode cX5_isLetter 6 = .ok (.iload_n 0, 1) := by decide +kernel
theorem dX5_isLetter_7 : decode cX5_isLetter 7 = .ok (.bipush 122, 2) := by decide +kernel
theorem dX5_isLetter_9 : decode cX5_isLetter 9 = .ok (.if_icmp .gt 7, 3) := by decide +kernel
theorem dX5_isLetter_12 : decode cX5_isLetter 12 = .ok (.iconst 1, 1) := by decide +kernel
theorem dX5_isLetter_13 : decode cX5_isLetter 13 = .ok (.goto 4, 3) := by decide +kernel
theorem dX5_isLetter_16 : decode cX5_isLetter 16 = .ok (.iconst 0, 1) := by decide +kernel
theorem dX5_isLetter_17 : decode cX5_isLetter 17 = .ok (.ireturn, 1) := by decide +kernel
theorem dX5_isDigit_0 : decode cX5_isDigit 0 = .ok (.iload_n 0, 1) := by decide +kernel
theorem dX5_isDigit_1 : decode cX5_isDigit 1 = .ok (.bipush 48, 2) := by decide +kernel
theorem dX5_isDigit_3 : decode cX5_isDigit 3 = .ok (.if_icmp .lt 13, 3) := by decide +kernel
theorem dX5_isDigit_6 : decode cX5_isDigit 6 = .ok (.iload_n 0, 1) := by decide +kernel
theorem dX5_isDigit_7 : decode cX5_isDigit 7 = .ok (.bipush 57, 2) := by decide +kernel
theorem dX5_isDigit_9 : decode cX5_isDigit 9 = .ok (.if_icmp .gt 7, 3) := by decide +kernel
theorem dX5_isDigit_12 : decode cX5_isDigit 12 = .ok (.iconst 1, 1) := by decide +kernel
theorem dX5_isDigit_13 : decode cX5_isDigit 13 = .ok (.goto 4, 3) := by decide +kernel
theorem dX5_isDigit_16 : decode cX5_isDigit 16 = .ok (.iconst 0, 1) := by decide +kernel
theorem dX5_isDigit_17 : decode cX5_isDigit 17 = .ok (.ireturn, 1) := by decide +kernel
theorem dX8_init_0 : decode cX8_init 0 = .ok (.aload_n 0, 1) := by decide +kernel
theorem dX8_init_1 : decode cX8_init 1 = .ok (.invokespecial 1, 3) := by decide +kernel
theorem dX8_init_4 : decode cX8_init 4 = .ok (.aload_n 0, 1) := by decide +kernel
theorem dX8_init_5 : decode cX8_init 5 = .ok (.iconst (-1), 1) := by decide +kernel
theorem dX8_init_6 : decode cX8_init 6 = .ok (.putfield 9, 3) := by decide +kernel
theorem dX8_init_9 : decode cX8_init 9 = .ok (.aload_n 0, 1) := by decide +kernel
theorem dX8_init_10 : decode cX8_init 10 = .ok (.new 13, 3) := by decide +kernel
theorem dX8_init_13 : decode cX8_init 13 = .ok (.dup, 1) := by decide +kernel
theorem dX8_init_14 : decode cX8_init 14 = .ok (.invokespecial 15, 3) := by decide +kernel
theorem dX8_init_17 : decode cX8_init 17 = .ok (.putfield 16, 3) := by decide +kernel
theorem dX8_init_20 : decode cX8_init 20 = .ok (.aload_n 0, 1) := by decide +kernel
theorem dX8_init_21 : decode cX8_init 21 = .ok (.new 20, 3) := by decide +kernel
theorem dX8_init_24 : decode cX8_init 24 = .ok (.dup, 1) := by decide +kernel
theorem dX8_init_25 : decode cX8_init 25 = .ok (.invokespecial 22, 3) := by decide +kernel
theorem dX8_init_28 : decode cX8_init 28 = .ok (.putfield 23, 3) := by decide +kernel
theorem dX8_init_31 : decode cX8_init 31 = .ok (.aload_n 0, 1) := by decide +kernel
theorem dX8_init_32 : decode cX8_init 32 = .ok (.new 20, 3) := by decide +kernel
theorem dX8_init_35 : decode cX8_init 35 = .ok (.dup, 1) := by decide +kernel
theorem dX8_init_36 : decode cX8_init 36 = .ok (.invokespecial 22, 3) := by decide +kernel
theorem dX8_init_39 : decode cX8_init 39 = .ok (.putfield 27, 3) := by decide +kernel
theorem dX8_init_42 : decode cX8_init 42 = .ok (.aload_n 0, 1) := by decide +kernel
theorem dX8_init_43 : decode cX8_init 43 = .ok (.new 30, 3) := by decide +kernel
theorem dX8_init_46 : decode cX8_init 46 = .ok (.dup, 1) := by decide +kernel
theorem dX8_init_47 : decode cX8_init 47 = .ok (.invokespecial 32, 3) := by decide +kernel
theorem dX8_init_50 : decode cX8_init 50 = .ok (.putfield 33, 3) := by decide +kernel
theorem dX8_init_53 : decode cX8_init 53 = .ok (.aload_n 0, 1) := by decide +kernel
theorem dX8_init_54 : decode cX8_init 54 = .ok (.new 37, 3) := by decide +kernel
theorem dX8_init_57 : decode cX8_init 57 = .ok (.dup, 1) := by decide +kernel
theorem dX8_init_58 : decode cX8_init 58 = .ok (.aload_n 0, 1) := by decide +kernel
theorem dX8_init_59 : decode cX8_init 59 = .ok (.getfield 33, 3) := by decide +kernel
theorem dX8_init_62 : decode cX8_init 62 = .ok (.aload_n 0, 1) := by decide +kernel
theorem dX8_init_63 : decode cX8_init 63 = .ok (.getfield 23, 3) := by decide +kernel
theorem dX8_init_66 : decode cX8_init 66 = .ok (.invokespecial 39, 3) := by decide +kernel
theorem dX8_init_69 : decode cX8_init 69 = .ok (.putfield 42, 3) := by decide +kernel
theorem dX8_init_72 : decode cX8_init 72 = .ok (.aload_n 0, 1) := by decide +kernel
theorem dX8_init_73 : decode cX8_init 73 = .ok (.new 37, 3) := by decide +kernel
theorem dX8_init_76 : decode cX8_init 76 = .ok (.dup, 1) := by decide +kernel
theorem dX8_init_77 : decode cX8_init 77 = .ok (.aload_n 0, 1) := by decide +kernel
theorem dX8_init_78 : decode cX8_init 78 = .ok (.getfield 33, 3) := by decide +kernel
theorem dX8_init_81 : decode cX8_init 81 = .ok (.aload_n 0, 1) := by decide +kernel
theorem dX8_init_82 : decode cX8_init 82 = .ok (.getfield 23, 3) := by decide +kernel
theorem dX8_init_85 : decode cX8_init 85 = .ok (.invokespecial 39, 3) := by decide +kernel
theorem dX8_init_88 : decode cX8_init 88 = .ok (.putfield 46, 3) := by decide +kernel
theorem dX8_init_91 : decode cX8_init 91 = .ok (.aload_n 0, 1) := by decide +kernel
theorem dX8_init_92 : decode cX8_init 92 = .ok (.new 37, 3) := by decide +kernel
theorem dX8_init_95 : decode cX8_init 95 = .ok (.dup, 1) := by decide +kernel
theorem dX8_init_96 : decode cX8_init 96 = .ok (.aload_n 0, 1) := by decide +kernel
theorem dX8_init_97 : decode cX8_init 97 = .ok (.getfield 33, 3) := by decide +kernel
theorem dX8_init_100 : decode cX8_init 100 = .ok (.aload_n 0, 1) := by decide +kernel
theorem dX8_init_101 : decode cX8_init 101 = .ok (.getfield 23, 3) := by decide +kernel
theorem dX8_init_104 : decode cX8_init 104 = .ok (.invokespecial 39, 3) := by decide +kernel
theorem dX8_init_107 : decode cX8_init 107 = .ok (.putfield 49, 3) := by decide +kernel
theorem dX8_init_110 : decode cX8_init 110 = .ok (.aload_n 0, 1) := by decide +kernel
theorem dX8_init_111 : decode cX8_init 111 = .ok (.new 52, 3) := by decide +kernel
theorem dX8_init_114 : decode cX8_init 114 = .ok (.dup, 1) := by decide +kernel
theorem dX8_init_115 : decode cX8_init 115 = .ok (.aload_n 0, 1) := by decide +kernel
theorem dX8_init_116 : decode cX8_init 116 = .ok (.getfield 33, 3) := by decide +kernel
theorem dX8_init_119 : decode cX8_init 119 = .ok (.aload_n 0, 1) := by decide +kernel
theorem dX8_init_120 : decode cX8_init 120 = .ok (.getfield 23, 3) := by decide +kernel
theorem dX8_init_123 : decode cX8_init 123 = .ok (.invokespecial 54, 3) := by decide +kernel
theorem dX8_init_126 : decode cX8_init 126 = .ok (.putfield 55, 3) := by decide +kernel
theorem dX8_init_129 : decode cX8_init 129 = .ok (.aload_n 0, 1) := by decide +kernel
theorem dX8_init_130 : decode cX8_init 130 = .ok (.iconst 2, 1) := by decide +kernel
theorem dX8_init_131 : decode cX8_init 131 = .ok (.anewarray 37, 3) := by decide +kernel
theorem dX8_init_134 : decode cX8_init 134 = .ok (.putfield 59, 3) := by decide +kernel
theorem dX8_init_137 : decode cX8_init 137 = .ok (.aload_n 0, 1) := by decide +kernel
theorem dX8_init_138 : decode cX8_init 138 = .ok (.iconst 2, 1) := by decide +kernel
theorem dX8_init_139 : decode cX8_init 139 = .ok (.newarray .boolean, 2) := by decide +kernel
theorem dX8_init_141 : decode cX8_init 141 = .ok (.putfield 63, 3) := by decide +kernel
theorem dX8_init_144 : decode cX8_init 144 = .ok (.iconst 0, 1) := by decide +kernel
theorem dX8_init_145 : decode cX8_init 145 = .ok (.istore_n 1, 1) := by decide +kernel
theorem dX8_init_146 : decode cX8_init 146 = .ok (.iload_n 1, 1) := by decide +kernel
theorem dX8_init_147 : decode cX8_init 147 = .ok (.iconst 2, 1) := by decide +kernel
theorem dX8_init_148 : decode cX8_init 148 = .ok (.if_icmp .ge 30, 3) := by decide +kernel
theorem dX8_init_151 : decode cX8_init 151 = .ok (.aload_n 0, 1) := by decide +kernel
theorem dX8_init_152 : decode cX8_init 152 = .ok (.getfield 59, 3) := by decide +kernel
theorem dX8_init_155 : decode cX8_init 155 = .ok (.iload_n 1, 1) := by decide +kernel
theorem dX8_init_156 : decode cX8_init 156 = .ok (.new 37, 3) := by decide +kernel
theorem dX8_init_159 : decode cX8_init 159 = .ok (.dup, 1) := by decide +kernel
theorem dX8_init_160 : decode cX8_init 160 = .ok (.aload_n 0, 1) := by decide +kernel
theorem dX8_init_161 : decode cX8_init 161 = .ok (.getfield 33, 3) := by decide +kernel
theorem dX8_init_164 : decode cX8_init 164 = .ok (.aload_n 0, 1) := by decide +kernel
theorem dX8_init_165 : decode cX8_init 165 = .ok (.getfield 23, 3) := by decide +kernel
theorem dX8_init_168 : decode cX8_init 168 = .ok (.invokespecial 39, 3) := by decide +kernel
theorem dX8_init_171 : decode cX8_init 171 = .ok (.aastore, 1) := by decide +kernel
theorem dX8_init_172 : decode cX8_init 172 = .ok (.iinc 1 1, 3) := by decide +kernel
theorem dX8_init_175 : decode cX8_init 175 = .ok (.goto (-29), 3) := by decide +kernel
theorem dX8_init_178 : decode cX8_init 178 = .ok (.return_, 1) := by decide +kernel
theorem dX8_append_0 : decode cX8_append 0 = .ok (.aload_n 0, 1) := by decide +kernel
theorem dX8_append_1 : decode cX8_append 1 = .ok (.getfield 16, 3) := by decide +kernel
theorem dX8_append_4 : decode cX8_append 4 = .ok (.getfield 67, 3) := by decide +kernel
theorem dX8_append_7 : decode cX8_append 7 = .ok (.sipush 680, 3) := by decide +kernel
theorem dX8_append_10 : decode cX8_append 10 = .ok (.if_icmp .le 5, 3) := by decide +kernel
theorem dX8_append_13 : decode cX8_append 13 = .ok (.iconst (-1), 1) := by decide +kernel
theorem dX8_append_14 : decode cX8_append 14 = .ok (.ireturn, 1) := by decide +kernel
theorem dX8_append_15 : decode cX8_append 15 = .ok (.aload_n 0, 1) := by decide +kernel
theorem dX8_append_16 : decode cX8_append 16 = .ok (.getfield 16, 3) := by decide +kernel
theorem dX8_append_19 : decode cX8_append 19 = .ok (.iload_n 1, 1) := by decide +kernel
theorem dX8_append_20 : decode cX8_append 20 = .ok (.invokevirtual 70, 3) := by decide +kernel
theorem dX8_append_23 : decode cX8_append 23 = .ok (.aload_n 0, 1) := by decide +kernel
theorem dX8_append_24 : decode cX8_append 24 = .ok (.getfield 16, 3) := by decide +kernel
theorem dX8_append_27 : decode cX8_append 27 = .ok (.iload_n 2, 1) := by decide +kernel
theorem dX8_append_28 : decode cX8_append 28 = .ok (.invokevirtual 70, 3) := by decide +kernel
theorem dX8_append_31 : decode cX8_append 31 = .ok (.aload_n 0, 1) := by decide +kernel
theorem dX8_append_32 : decode cX8_append 32 = .ok (.getfield 16, 3) := by decide +kernel
theorem dX8_append_35 : decode cX8_append 35 = .ok (.iload_n 3, 1) := by decide +kernel
theorem dX8_append_36 : decode cX8_append 36 = .ok (.invokevirtual 70, 3) := by decide +kernel
theorem dX8_append_39 : decode cX8_append 39 = .ok (.aload_n 0, 1) := by decide +kernel
theorem dX8_append_40 : decode cX8_append 40 = .ok (.getfield 16, 3) := by decide +kernel
theorem dX8_append_43 : decode cX8_append 43 = .ok (.iload 4, 2) := by decide +kernel
theorem dX8_append_45 : decode cX8_append 45 = .ok (.invokevirtual 70, 3) := by decide +kernel
theorem dX8_append_48 : decode cX8_append 48 = .ok (.aload_n 0, 1) := by decide +kernel
theorem dX8_append_49 : decode cX8_append 49 = .ok (.getfield 16, 3) := by decide +kernel
theorem dX8_append_52 : decode cX8_append 52 = .ok (.iload 5, 2) := by decide +kernel
theorem dX8_append_54 : decode cX8_append 54 = .ok (.invokevirtual 70, 3) := by decide +kernel
theorem dX8_append_57 : decode cX8_append 57 = .ok (.aload_n 0, 1) := by decide +kernel
theorem dX8_append_58 : decode cX8_append 58 = .ok (.getfield 16, 3) := by decide +kernel
theorem dX8_append_61 : decode cX8_append 61 = .ok (.getfield 67, 3) := by decide +kernel
theorem dX8_append_64 : decode cX8_append 64 = .ok (.ireturn, 1) := by decide +kernel
theorem dX8_parse_0 : decode cX8_parse 0 = .ok (.iload_n 1, 1) := by decide +kernel
theorem dX8_parse_1 : decode cX8_parse 1 = .ok (.ifCond .lt 14, 3) := by decide +kernel
theorem dX8_parse_4 : decode cX8_parse 4 = .ok (.iload_n 1, 1) := by decide +kernel
theorem dX8_parse_5 : decode cX8_parse 5 = .ok (.aload_n 0, 1) := by decide +kernel
theorem dX8_parse_6 : decode cX8_parse 6 = .ok (.getfield 16, 3) := by decide +kernel
theorem dX8_parse_9 : decode cX8_parse 9 = .ok (.getfield 67, 3) := by decide +kernel
theorem dX8_parse_12 : decode cX8_parse 12 = .ok (.if_icmp .le 13, 3) := by decide +kernel
theorem dX8_parse_15 : decode cX8_parse 15 = .ok (.new 74, 3) := by decide +kernel
theorem dX8_parse_18 : decode cX8_parse 18 = .ok (.dup, 1) := by decide +kernel
theorem dX8_parse_19 : decode cX8_parse 19 = .ok (.ldc 76, 2) := by decide +kernel
theorem dX8_parse_21 : decode cX8_parse 21 = .ok (.invokespecial 78, 3) := by decide +kernel
theorem dX8_parse_24 : decode cX8_parse 24 = .ok (.athrow, 1) := by decide +kernel
theorem dX8_parse_25 : decode cX8_parse 25 = .ok (.aload_n 0, 1) := by decide +kernel
theorem dX8_parse_26 : decode cX8_parse 26 = .ok (.getfield 16, 3) := by decide +kernel
theorem dX8_parse_29 : decode cX8_parse 29 = .ok (.iload_n 1, 1) := by decide +kernel
theorem dX8_parse_30 : decode cX8_parse 30 = .ok (.aload_n 0, 1) := by decide +kernel
theorem dX8_parse_31 : decode cX8_parse 31 = .ok (.getfield 27, 3) := by decide +kernel
theorem dX8_parse_34 : decode cX8_parse 34 = .ok (.invokevirtual 81, 3) := by decide +kernel
theorem dX8_parse_37 : decode cX8_parse 37 = .ok (.istore_n 2, 1) := by decide +kernel
theorem dX8_parse_38 : decode cX8_parse 38 = .ok (.aload_n 0, 1) := by decide +kernel
theorem dX8_parse_39 : decode cX8_parse 39 = .ok (.getfield 16, 3) := by decide +kernel
theorem dX8_parse_42 : decode cX8_parse 42 = .ok (.iconst 0, 1) := by decide +kernel
theorem dX8_parse_43 : decode cX8_parse 43 = .ok (.putfield 67, 3) := by decide +kernel
theorem dX8_parse_46 : decode cX8_parse 46 = .ok (.aload_n 0, 1) := by decide +kernel
theorem dX8_parse_47 : decode cX8_parse 47 = .ok (.aload_n 0, 1) := by decide +kernel
theorem dX8_parse_48 : decode cX8_parse 48 = .ok (.getfield 16, 3) := by decide +kernel
theorem dX8_parse_51 : decode cX8_parse 51 = .ok (.getfield 85, 3) := by decide +kernel
theorem dX8_parse_54 : decode cX8_parse 54 = .ok (.putfield 9, 3) := by decide +kernel
theorem dX8_parse_57 : decode cX8_parse 57 = .ok (.iload_n 2, 1) := by decide +kernel
theorem dX8_parse_58 : decode cX8_parse 58 = .ok (.ifCond .ne 7, 3) := by decide +kernel
theorem dX8_parse_61 : decode cX8_parse 61 = .ok (.aload_n 0, 1) := by decide +kernel
theorem dX8_parse_62 : decode cX8_parse 62 = .ok (.invokevirtual 88, 3) := by decide +kernel
theorem dX8_parse_65 : decode cX8_parse 65 = .ok (.iload_n 2, 1) := by decide +kernel
theorem dX8_parse_66 : decode cX8_parse 66 = .ok (.ireturn, 1) := by decide +kernel
theorem dX8_useDraft_0 : decode cX8_useDraft 0 = .ok (.aload_n 0, 1) := by decide +kernel
theorem dX8_useDraft_1 : decode cX8_useDraft 1 = .ok (.getfield 23, 3) := by decide +kernel
theorem dX8_useDraft_4 : decode cX8_useDraft 4 = .ok (.astore_n 1, 1) := by decide +kernel
theorem dX8_useDraft_5 : decode cX8_useDraft 5 = .ok (.aload_n 0, 1) := by decide +kernel
theorem dX8_useDraft_6 : decode cX8_useDraft 6 = .ok (.aload_n 0, 1) := by decide +kernel
theorem dX8_useDraft_7 : decode cX8_useDraft 7 = .ok (.getfield 27, 3) := by decide +kernel
theorem dX8_useDraft_10 : decode cX8_useDraft 10 = .ok (.putfield 23, 3) := by decide +kernel
theorem dX8_useDraft_13 : decode cX8_useDraft 13 = .ok (.aload_n 0, 1) := by decide +kernel
theorem dX8_useDraft_14 : decode cX8_useDraft 14 = .ok (.aload_n 1, 1) := by decide +kernel
theorem dX8_useDraft_15 : decode cX8_useDraft 15 = .ok (.putfield 27, 3) := by decide +kernel
theorem dX8_useDraft_18 : decode cX8_useDraft 18 = .ok (.aload_n 0, 1) := by decide +kernel
theorem dX8_useDraft_19 : decode cX8_useDraft 19 = .ok (.getfield 42, 3) := by decide +kernel
theorem dX8_useDraft_22 : decode cX8_useDraft 22 = .ok (.aload_n 0, 1) := by decide +kernel
theorem dX8_useDraft_23 : decode cX8_useDraft 23 = .ok (.getfield 23, 3) := by decide +kernel
theorem dX8_useDraft_26 : decode cX8_useDraft 26 = .ok (.invokevirtual 91, 3) := by decide +kernel
theorem dX8_useDraft_29 : decode cX8_useDraft 29 = .ok (.aload_n 0, 1) := by decide +kernel
theorem dX8_useDraft_30 : decode cX8_useDraft 30 = .ok (.getfield 55, 3) := by decide +kernel
theorem dX8_useDraft_33 : decode cX8_useDraft 33 = .ok (.invokevirtual 95, 3) := by decide +kernel
theorem dX8_useDraft_36 : decode cX8_useDraft 36 = .ok (.iconst 0, 1) := by decide +kernel
theorem dX8_useDraft_37 : decode cX8_useDraft 37 = .ok (.istore_n 2, 1) := by decide +kernel
theorem dX8_useDraft_38 : decode cX8_useDraft 38 = .ok (.iload_n 2, 1) := by decide +kernel
theorem dX8_useDraft_39 : decode cX8_useDraft 39 = .ok (.iconst 2, 1) := by decide +kernel
theorem dX8_useDraft_40 : decode cX8_useDraft 40 = .ok (.if_icmp .ge 16, 3) := by decide +kernel
theorem dX8_useDraft_43 : decode cX8_useDraft 43 = .ok (.aload_n 0, 1) := by decide +kernel
theorem dX8_useDraft_44 : decode cX8_useDraft 44 = .ok (.getfield 63, 3) := by decide +kernel
theorem dX8_useDraft_47 : decode cX8_useDraft 47 = .ok (.iload_n 2, 1) := by decide +kernel
theorem dX8_useDraft_48 : decode cX8_useDraft 48 = .ok (.iconst 0, 1) := by decide +kernel
theorem dX8_useDraft_49 : decode cX8_useDraft 49 = .ok (.bastore, 1) := by decide +kernel
theorem dX8_useDraft_50 : decode cX8_useDraft 50 = .ok (.iinc 2 1, 3) := by decide +kernel
theorem dX8_useDraft_53 : decode cX8_useDraft 53 = .ok (.goto (-15), 3) := by decide +kernel
theorem dX8_useDraft_56 : decode cX8_useDraft 56 = .ok (.return_, 1) := by decide +kernel
theorem dX8_errorPosition_0 : decode cX8_errorPosition 0 = .ok (.aload_n 0, 1) := by decide +kernel
theorem dX8_errorPosition_1 : decode cX8_errorPosition 1 = .ok (.getfield 9, 3) := by decide +kernel
theorem dX8_errorPosition_4 : decode cX8_errorPosition 4 = .ok (.ireturn, 1) := by decide +kernel
theorem dX8_size_0 : decode cX8_size 0 = .ok (.iload_n 1, 1) := by decide +kernel
theorem dX8_size_1 : decode cX8_size 1 = .ok (.tableswitch 132 0 8 #[51, 59, 70, 81, 89, 97, 108, 116, 124], 51) := by decide +kernel
theorem dX8_size_52 : decode cX8_size 52 = .ok (.aload_n 0, 1) := by decide +kernel
theorem dX8_size_53 : decode cX8_size 53 = .ok (.getfield 23, 3) := by decide +kernel
theorem dX8_size_56 : decode cX8_size 56 = .ok (.getfield 98, 3) := by decide +kernel
theorem dX8_size_59 : decode cX8_size 59 = .ok (.ireturn, 1) := by decide +kernel
theorem dX8_size_60 : decode cX8_size 60 = .ok (.aload_n 0, 1) := by decide +kernel
theorem dX8_size_61 : decode cX8_size 61 = .ok (.getfield 42, 3) := by decide +kernel
theorem dX8_size_64 : decode cX8_size 64 = .ok (.getfield 101, 3) := by decide +kernel
theorem dX8_size_67 : decode cX8_size 67 = .ok (.getfield 105, 3) := by decide +kernel
theorem dX8_size_70 : decode cX8_size 70 = .ok (.ireturn, 1) := by decide +kernel
theorem dX8_size_71 : decode cX8_size 71 = .ok (.aload_n 0, 1) := by decide +kernel
theorem dX8_size_72 : decode cX8_size 72 = .ok (.getfield 42, 3) := by decide +kernel
theorem dX8_size_75 : decode cX8_size 75 = .ok (.getfield 101, 3) := by decide +kernel
theorem dX8_size_78 : decode cX8_size 78 = .ok (.invokevirtual 110, 3) := by decide +kernel
theorem dX8_size_81 : decode cX8_size 81 = .ok (.ireturn, 1) := by decide +kernel
theorem dX8_size_82 : decode cX8_size 82 = .ok (.aload_n 0, 1) := by decide +kernel
theorem dX8_size_83 : decode cX8_size 83 = .ok (.getfield 42, 3) := by decide +kernel
theorem dX8_size_86 : decode cX8_size 86 = .ok (.getfield 114, 3) := by decide +kernel
theorem dX8_size_89 : decode cX8_size 89 = .ok (.ireturn, 1) := by decide +kernel
theorem dX8_size_90 : decode cX8_size 90 = .ok (.aload_n 0, 1) := by decide +kernel
theorem dX8_size_91 : decode cX8_size 91 = .ok (.getfield 42, 3) := by decide +kernel
theorem dX8_size_94 : decode cX8_size 94 = .ok (.getfield 117, 3) := by decide +kernel
theorem dX8_size_97 : decode cX8_size 97 = .ok (.ireturn, 1) := by decide +kernel
theorem dX8_size_98 : decode cX8_size 98 = .ok (.aload_n 0, 1) := by decide +kernel
theorem dX8_size_99 : decode cX8_size 99 = .ok (.getfield 42, 3) := by decide +kernel
theorem dX8_size_102 : decode cX8_size 102 = .ok (.getfield 120, 3) := by decide +kernel
theorem dX8_size_105 : decode cX8_size 105 = .ok (.getfield 124, 3) := by decide +kernel
theorem dX8_size_108 : decode cX8_size 108 = .ok (.ireturn, 1) := by decide +kernel
theorem dX8_size_109 : decode cX8_size 109 = .ok (.aload_n 0, 1) := by decide +kernel
theorem dX8_size_110 : decode cX8_size 110 = .ok (.getfield 42, 3) := by decide +kernel
theorem dX8_size_113 : decode cX8_size 113 = .ok (.getfield 129, 3) := by decide +kernel
theorem dX8_size_116 : decode cX8_size 116 = .ok (.ireturn, 1) := by decide +kernel
theorem dX8_size_117 : decode cX8_size 117 = .ok (.aload_n 0, 1) := by decide +kernel
theorem dX8_size_118 : decode cX8_size 118 = .ok (.getfield 42, 3) := by decide +kernel
theorem dX8_size_121 : decode cX8_size 121 = .ok (.invokevirtual 132, 3) := by decide +kernel
theorem dX8_size_124 : decode cX8_size 124 = .ok (.ireturn, 1) := by decide +kernel
theorem dX8_size_125 : decode cX8_size 125 = .ok (.aload_n 0, 1) := by decide +kernel
theorem dX8_size_126 : decode cX8_size 126 = .ok (.getfield 55, 3) := by decide +kernel
theorem dX8_size_129 : decode cX8_size 129 = .ok (.getfield 135, 3) := by decide +kernel
theorem dX8_size_132 : decode cX8_size 132 = .ok (.ireturn, 1) := by decide +kernel
theorem dX8_size_133 : decode cX8_size 133 = .ok (.new 74, 3) := by decide +kernel
theorem dX8_size_136 : decode cX8_size 136 = .ok (.dup, 1) := by decide +kernel
theorem dX8_size_137 : decode cX8_size 137 = .ok (.ldc 136, 2) := by decide +kernel
theorem dX8_size_139 : decode cX8_size 139 = .ok (.invokespecial 78, 3) := by decide +kernel
theorem dX8_size_142 : decode cX8_size 142 = .ok (.athrow, 1) := by decide +kernel
theorem dX8_find_0 : decode cX8_find 0 = .ok (.aload_n 0, 1) := by decide +kernel
theorem dX8_find_1 : decode cX8_find 1 = .ok (.getfield 23, 3) := by decide +kernel
theorem dX8_find_4 : decode cX8_find 4 = .ok (.aload_n 0, 1) := by decide +kernel
theorem dX8_find_5 : decode cX8_find 5 = .ok (.getfield 16, 3) := by decide +kernel
theorem dX8_find_8 : decode cX8_find 8 = .ok (.invokevirtual 138, 3) := by decide +kernel
theorem dX8_find_11 : decode cX8_find 11 = .ok (.invokevirtual 142, 3) := by decide +kernel
theorem dX8_find_14 : decode cX8_find 14 = .ok (.istore_n 1, 1) := by decide +kernel
theorem dX8_find_15 : decode cX8_find 15 = .ok (.aload_n 0, 1) := by decide +kernel
theorem dX8_find_16 : decode cX8_find 16 = .ok (.getfield 16, 3) := by decide +kernel
theorem dX8_find_19 : decode cX8_find 19 = .ok (.iconst 0, 1) := by decide +kernel
theorem dX8_find_20 : decode cX8_find 20 = .ok (.putfield 67, 3) := by decide +kernel
theorem dX8_find_23 : decode cX8_find 23 = .ok (.iload_n 1, 1) := by decide +kernel
theorem dX8_find_24 : decode cX8_find 24 = .ok (.ireturn, 1) := by decide +kernel
theorem dX8_checkProgram_0 : decode cX8_checkProgram 0 = .ok (.iload_n 1, 1) := by decide +kernel
theorem dX8_checkProgram_1 : decode cX8_checkProgram 1 = .ok (.ifCond .lt 14, 3) := by decide +kernel
theorem dX8_checkProgram_4 : decode cX8_checkProgram 4 = .ok (.iload_n 1, 1) := by decide +kernel
theorem dX8_checkProgram_5 : decode cX8_checkProgram 5 = .ok (.aload_n 0, 1) := by decide +kernel
theorem dX8_checkProgram_6 : decode cX8_checkProgram 6 = .ok (.getfield 23, 3) := by decide +kernel
theorem dX8_checkProgram_9 : decode cX8_checkProgram 9 = .ok (.getfield 98, 3) := by decide +kernel
theorem dX8_checkProgram_12 : decode cX8_checkProgram 12 = .ok (.if_icmp .lt 13, 3) := by decide +kernel
theorem dX8_checkProgram_15 : decode cX8_checkProgram 15 = .ok (.new 146, 3) := by decide +kernel
theorem dX8_checkProgram_18 : decode cX8_checkProgram 18 = .ok (.dup, 1) := by decide +kernel
theorem dX8_checkProgram_19 : decode cX8_checkProgram 19 = .ok (.ldc 148, 2) := by decide +kernel
theorem dX8_checkProgram_21 : decode cX8_checkProgram 21 = .ok (.invokespecial 150, 3) := by decide +kernel
theorem dX8_checkProgram_24 : decode cX8_checkProgram 24 = .ok (.athrow, 1) := by decide +kernel
theorem dX8_checkProgram_25 : decode cX8_checkProgram 25 = .ok (.return_, 1) := by decide +kernel
theorem dX8_program_0 : decode cX8_program 0 = .ok (.aload_n 0, 1) := by decide +kernel
theorem dX8_program_1 : decode cX8_program 1 = .ok (.iload_n 1, 1) := by decide +kernel
theorem dX8_program_2 : decode cX8_program 2 = .ok (.invokevirtual 151, 3) := by decide +kernel
theorem dX8_program_5 : decode cX8_program 5 = .ok (.iload_n 2, 1) := by decide +kernel
theorem dX8_program_6 : decode cX8_program 6 = .ok (.tableswitch 155 0 7 #[46, 59, 72, 85, 97, 107, 117, 138], 46) := by decide +kernel
theorem dX8_program_52 : decode cX8_program 52 = .ok (.aload_n 0, 1) := by decide +kernel
theorem dX8_program_53 : decode cX8_program 53 = .ok (.getfield 42, 3) := by decide +kernel
theorem dX8_program_56 : decode cX8_program 56 = .ok (.getfield 101, 3) := by decide +kernel
theorem dX8_program_59 : decode cX8_program 59 = .ok (.getfield 154, 3) := by decide +kernel
theorem dX8_program_62 : decode cX8_program 62 = .ok (.iload_n 1, 1) := by decide +kernel
theorem dX8_program_63 : decode cX8_program 63 = .ok (.iaload, 1) := by decide +kernel
theorem dX8_program_64 : decode cX8_program 64 = .ok (.ireturn, 1) := by decide +kernel
theorem dX8_program_65 : decode cX8_program 65 = .ok (.aload_n 0, 1) := by decide +kernel
theorem dX8_program_66 : decode cX8_program 66 = .ok (.getfield 42, 3) := by decide +kernel
theorem dX8_program_69 : decode cX8_program 69 = .ok (.getfield 101, 3) := by decide +kernel
theorem dX8_program_72 : decode cX8_program 72 = .ok (.getfield 158, 3) := by decide +kernel
theorem dX8_program_75 : decode cX8_program 75 = .ok (.iload_n 1, 1) := by decide +kernel
theorem dX8_program_76 : decode cX8_program 76 = .ok (.iaload, 1) := by decide +kernel
theorem dX8_program_77 : decode cX8_program 77 = .ok (.ireturn, 1) := by decide +kernel
theorem dX8_program_78 : decode cX8_program 78 = .ok (.aload_n 0, 1) := by decide +kernel
theorem dX8_program_79 : decode cX8_program 79 = .ok (.getfield 42, 3) := by decide +kernel
theorem dX8_program_82 : decode cX8_program 82 = .ok (.getfield 101, 3) := by decide +kernel
theorem dX8_program_85 : decode cX8_program 85 = .ok (.getfield 161, 3) := by decide +kernel
theorem dX8_program_88 : decode cX8_program 88 = .ok (.iload_n 1, 1) := by decide +kernel
theorem dX8_program_89 : decode cX8_program 89 = .ok (.iaload, 1) := by decide +kernel
theorem dX8_program_90 : decode cX8_program 90 = .ok (.ireturn, 1) := by decide +kernel
theorem dX8_program_91 : decode cX8_program 91 = .ok (.aload_n 0, 1) := by decide +kernel
theorem dX8_program_92 : decode cX8_program 92 = .ok (.getfield 42, 3) := by decide +kernel
theorem dX8_program_95 : decode cX8_program 95 = .ok (.getfield 101, 3) := by decide +kernel
theorem dX8_program_98 : decode cX8_program 98 = .ok (.iload_n 1, 1) := by decide +kernel
theorem dX8_program_99 : decode cX8_program 99 = .ok (.invokevirtual 164, 3) := by decide +kernel
theorem dX8_program_102 : decode cX8_program 102 = .ok (.ireturn, 1) := by decide +kernel
theorem dX8_program_103 : decode cX8_program 103 = .ok (.aload_n 0, 1) := by decide +kernel
theorem dX8_program_104 : decode cX8_program 104 = .ok (.getfield 42, 3) := by decide +kernel
theorem dX8_program_107 : decode cX8_program 107 = .ok (.getfield 168, 3) := by decide +kernel
theorem dX8_program_110 : decode cX8_program 110 = .ok (.iload_n 1, 1) := by decide +kernel
theorem dX8_program_111 : decode cX8_program 111 = .ok (.iaload, 1) := by decide +kernel
theorem dX8_program_112 : decode cX8_program 112 = .ok (.ireturn, 1) := by decide +kernel
theorem dX8_program_113 : decode cX8_program 113 = .ok (.aload_n 0, 1) := by decide +kernel
theorem dX8_program_114 : decode cX8_program 114 = .ok (.getfield 42, 3) := by decide +kernel
theorem dX8_program_117 : decode cX8_program 117 = .ok (.getfield 171, 3) := by decide +kernel
theorem dX8_program_120 : decode cX8_program 120 = .ok (.iload_n 1, 1) := by decide +kernel
theorem dX8_program_121 : decode cX8_program 121 = .ok (.iaload, 1) := by decide +kernel
theorem dX8_program_122 : decode cX8_program 122 = .ok (.ireturn, 1) := by decide +kernel
theorem dX8_program_123 : decode cX8_program 123 = .ok (.aload_n 0, 1) := by decide +kernel
theorem dX8_program_124 : decode cX8_program 124 = .ok (.getfield 42, 3) := by decide +kernel
theorem dX8_program_127 : decode cX8_program 127 = .ok (.getfield 101, 3) := by decide +kernel
theorem dX8_program_130 : decode cX8_program 130 = .ok (.getfield 174, 3) := by decide +kernel
theorem dX8_program_133 : decode cX8_program 133 = .ok (.iload_n 1, 1) := by decide +kernel
theorem dX8_program_134 : decode cX8_program 134 = .ok (.baload, 1) := by decide +kernel
theorem dX8_program_135 : decode cX8_program 135 = .ok (.ifCond .eq 7, 3) := by decide +kernel
theorem dX8_program_138 : decode cX8_program 138 = .ok (.iconst 1, 1) := by decide +kernel
theorem dX8_program_139 : decode cX8_program 139 = .ok (.goto 4, 3) := by decide +kernel
theorem dX8_program_142 : decode cX8_program 142 = .ok (.iconst 0, 1) := by decide +kernel
theorem dX8_program_143 : decode cX8_program 143 = .ok (.ireturn, 1) := by decide +kernel
theorem dX8_program_144 : decode cX8_program 144 = .ok (.aload_n 0, 1) := by decide +kernel
theorem dX8_program_145 : decode cX8_program 145 = .ok (.getfield 42, 3) := by decide +kernel
theorem dX8_program_148 : decode cX8_program 148 = .ok (.iload_n 1, 1) := by decide +kernel
theorem dX8_program_149 : decode cX8_program 149 = .ok (.invokevirtual 177, 3) := by decide +kernel
theorem dX8_program_152 : decode cX8_program 152 = .ok (.ifCond .eq 7, 3) := by decide +kernel
theorem dX8_program_155 : decode cX8_program 155 = .ok (.iconst 1, 1) := by decide +kernel
theorem dX8_program_156 : decode cX8_program 156 = .ok (.goto 4, 3) := by decide +kernel
theorem dX8_program_159 : decode cX8_program 159 = .ok (.iconst 0, 1) := by decide +kernel
theorem dX8_program_160 : decode cX8_program 160 = .ok (.ireturn, 1) := by decide +kernel
theorem dX8_program_161 : decode cX8_program 161 = .ok (.new 74, 3) := by decide +kernel
theorem dX8_program_164 : decode cX8_program 164 = .ok (.dup, 1) := by decide +kernel
theorem dX8_program_165 : decode cX8_program 165 = .ok (.ldc 181, 2) := by decide +kernel
theorem dX8_program_167 : decode cX8_program 167 = .ok (.invokespecial 78, 3) := by decide +kernel
theorem dX8_program_170 : decode cX8_program 170 = .ok (.athrow, 1) := by decide +kernel
theorem dX8_told_0 : decode cX8_told 0 = .ok (.aload_n 0, 1) := by decide +kernel
theorem dX8_told_1 : decode cX8_told 1 = .ok (.iload_n 1, 1) := by decide +kernel
theorem dX8_told_2 : decode cX8_told 2 = .ok (.invokevirtual 151, 3) := by decide +kernel
theorem dX8_told_5 : decode cX8_told 5 = .ok (.iload_n 2, 1) := by decide +kernel
theorem dX8_told_6 : decode cX8_told 6 = .ok (.ifCond .lt 9, 3) := by decide +kernel
theorem dX8_told_9 : decode cX8_told 9 = .ok (.iload_n 2, 1) := by decide +kernel
theorem dX8_told_10 : decode cX8_told 10 = .ok (.bipush 8, 2) := by decide +kernel
theorem dX8_told_12 : decode cX8_told 12 = .ok (.if_icmp .lt 13, 3) := by decide +kernel
theorem dX8_told_15 : decode cX8_told 15 = .ok (.new 74, 3) := by decide +kernel
theorem dX8_told_18 : decode cX8_told 18 = .ok (.dup, 1) := by decide +kernel
theorem dX8_told_19 : decode cX8_told 19 = .ok (.ldc 183, 2) := by decide +kernel
theorem dX8_told_21 : decode cX8_told 21 = .ok (.invokespecial 78, 3) := by decide +kernel
theorem dX8_told_24 : decode cX8_told 24 = .ok (.athrow, 1) := by decide +kernel
theorem dX8_told_25 : decode cX8_told 25 = .ok (.aload_n 0, 1) := by decide +kernel
theorem dX8_told_26 : decode cX8_told 26 = .ok (.getfield 23, 3) := by decide +kernel
theorem dX8_told_29 : decode cX8_told 29 = .ok (.getfield 185, 3) := by decide +kernel
theorem dX8_told_32 : decode cX8_told 32 = .ok (.iload_n 1, 1) := by decide +kernel
theorem dX8_told_33 : decode cX8_told 33 = .ok (.aaload, 1) := by decide +kernel
theorem dX8_told_34 : decode cX8_told 34 = .ok (.iload_n 2, 1) := by decide +kernel
theorem dX8_told_35 : decode cX8_told 35 = .ok (.iaload, 1) := by decide +kernel
theorem dX8_told_36 : decode cX8_told 36 = .ok (.ireturn, 1) := by decide +kernel
theorem dX8_picture_0 : decode cX8_picture 0 = .ok (.aload_n 0, 1) := by decide +kernel
theorem dX8_picture_1 : decode cX8_picture 1 = .ok (.iload_n 1, 1) := by decide +kernel
theorem dX8_picture_2 : decode cX8_picture 2 = .ok (.invokevirtual 151, 3) := by decide +kernel
theorem dX8_picture_5 : decode cX8_picture 5 = .ok (.aload_n 0, 1) := by decide +kernel
theorem dX8_picture_6 : decode cX8_picture 6 = .ok (.getfield 42, 3) := by decide +kernel
theorem dX8_picture_9 : decode cX8_picture 9 = .ok (.getfield 189, 3) := by decide +kernel
theorem dX8_picture_12 : decode cX8_picture 12 = .ok (.iload_n 1, 1) := by decide +kernel
theorem dX8_picture_13 : decode cX8_picture 13 = .ok (.iaload, 1) := by decide +kernel
theorem dX8_picture_14 : decode cX8_picture 14 = .ok (.ireturn, 1) := by decide +kernel
theorem dX8_notice_0 : decode cX8_notice 0 = .ok (.aload_n 0, 1) := by decide +kernel
theorem dX8_notice_1 : decode cX8_notice 1 = .ok (.iload_n 1, 1) := by decide +kernel
theorem dX8_notice_2 : decode cX8_notice 2 = .ok (.invokevirtual 151, 3) := by decide +kernel
theorem dX8_notice_5 : decode cX8_notice 5 = .ok (.aload_n 0, 1) := by decide +kernel
theorem dX8_notice_6 : decode cX8_notice 6 = .ok (.getfield 42, 3) := by decide +kernel
theorem dX8_notice_9 : decode cX8_notice 9 = .ok (.iload_n 1, 1) := by decide +kernel
theorem dX8_notice_10 : decode cX8_notice 10 = .ok (.iload_n 2, 1) := by decide +kernel
theorem dX8_notice_11 : decode cX8_notice 11 = .ok (.invokevirtual 192, 3) := by decide +kernel
theorem dX8_notice_14 : decode cX8_notice 14 = .ok (.ireturn, 1) := by decide +kernel
theorem dX8_habit_0 : decode cX8_habit 0 = .ok (.aload_n 0, 1) := by decide +kernel
theorem dX8_habit_1 : decode cX8_habit 1 = .ok (.iload_n 1, 1) := by decide +kernel
theorem dX8_habit_2 : decode cX8_habit 2 = .ok (.invokevirtual 151, 3) := by decide +kernel
theorem dX8_habit_5 : decode cX8_habit 5 = .ok (.aload_n 0, 1) := by decide +kernel
theorem dX8_habit_6 : decode cX8_habit 6 = .ok (.getfield 42, 3) := by decide +kernel
theorem dX8_habit_9 : decode cX8_habit 9 = .ok (.getfield 120, 3) := by decide +kernel
theorem dX8_habit_12 : decode cX8_habit 12 = .ok (.iload_n 1, 1) := by decide +kernel
theorem dX8_habit_13 : decode cX8_habit 13 = .ok (.invokevirtual 196, 3) := by decide +kernel
theorem dX8_habit_16 : decode cX8_habit 16 = .ok (.ireturn, 1) := by decide +kernel
theorem dX8_promise_0 : decode cX8_promise 0 = .ok (.aload_n 0, 1) := by decide +kernel
theorem dX8_promise_1 : decode cX8_promise 1 = .ok (.iload_n 1, 1) := by decide +kernel
theorem dX8_promise_2 : decode cX8_promise 2 = .ok (.invokevirtual 151, 3) := by decide +kernel
theorem dX8_promise_5 : decode cX8_promise 5 = .ok (.aload_n 0, 1) := by decide +kernel
theorem dX8_promise_6 : decode cX8_promise 6 = .ok (.getfield 42, 3) := by decide +kernel
theorem dX8_promise_9 : decode cX8_promise 9 = .ok (.getfield 120, 3) := by decide +kernel
theorem dX8_promise_12 : decode cX8_promise 12 = .ok (.iload_n 1, 1) := by decide +kernel
theorem dX8_promise_13 : decode cX8_promise 13 = .ok (.aload_n 0, 1) := by decide +kernel
theorem dX8_promise_14 : decode cX8_promise 14 = .ok (.getfield 42, 3) := by decide +kernel
theorem dX8_promise_17 : decode cX8_promise 17 = .ok (.getfield 117, 3) := by decide +kernel
theorem dX8_promise_20 : decode cX8_promise 20 = .ok (.aload_n 0, 1) := by decide +kernel
theorem dX8_promise_21 : decode cX8_promise 21 = .ok (.getfield 42, 3) := by decide +kernel
theorem dX8_promise_24 : decode cX8_promise 24 = .ok (.getfield 114, 3) := by decide +kernel
theorem dX8_promise_27 : decode cX8_promise 27 = .ok (.invokevirtual 199, 3) := by decide +kernel
theorem dX8_promise_30 : decode cX8_promise 30 = .ok (.ireturn, 1) := by decide +kernel
theorem dX8_followed_0 : decode cX8_followed 0 = .ok (.aload_n 0, 1) := by decide +kernel
theorem dX8_followed_1 : decode cX8_followed 1 = .ok (.iload_n 1, 1) := by decide +kernel
theorem dX8_followed_2 : decode cX8_followed 2 = .ok (.invokevirtual 151, 3) := by decide +kernel
theorem dX8_followed_5 : decode cX8_followed 5 = .ok (.aload_n 0, 1) := by decide +kernel
theorem dX8_followed_6 : decode cX8_followed 6 = .ok (.iload_n 2, 1) := by decide +kernel
theorem dX8_followed_7 : decode cX8_followed 7 = .ok (.invokevirtual 151, 3) := by decide +kernel
theorem dX8_followed_10 : decode cX8_followed 10 = .ok (.aload_n 0, 1) := by decide +kernel
theorem dX8_followed_11 : decode cX8_followed 11 = .ok (.getfield 42, 3) := by decide +kernel
theorem dX8_followed_14 : decode cX8_followed 14 = .ok (.getfield 120, 3) := by decide +kernel
theorem dX8_followed_17 : decode cX8_followed 17 = .ok (.iload_n 1, 1) := by decide +kernel
theorem dX8_followed_18 : decode cX8_followed 18 = .ok (.iload_n 2, 1) := by decide +kernel
theorem dX8_followed_19 : decode cX8_followed 19 = .ok (.invokevirtual 203, 3) := by decide +kernel
theorem dX8_followed_22 : decode cX8_followed 22 = .ok (.ireturn, 1) := by decide +kernel
theorem dX8_likeliest_0 : decode cX8_likeliest 0 = .ok (.aload_n 0, 1) := by decide +kernel
theorem dX8_likeliest_1 : decode cX8_likeliest 1 = .ok (.iload_n 1, 1) := by decide +kernel
theorem dX8_likeliest_2 : decode cX8_likeliest 2 = .ok (.invokevirtual 151, 3) := by decide +kernel
theorem dX8_likeliest_5 : decode cX8_likeliest 5 = .ok (.aload_n 0, 1) := by decide +kernel
theorem dX8_likeliest_6 : decode cX8_likeliest 6 = .ok (.getfield 42, 3) := by decide +kernel
theorem dX8_likeliest_9 : decode cX8_likeliest 9 = .ok (.getfield 120, 3) := by decide +kernel
theorem dX8_likeliest_12 : decode cX8_likeliest 12 = .ok (.iload_n 1, 1) := by decide +kernel
theorem dX8_likeliest_13 : decode cX8_likeliest 13 = .ok (.invokevirtual 206, 3) := by decide +kernel
theorem dX8_likeliest_16 : decode cX8_likeliest 16 = .ok (.ireturn, 1) := by decide +kernel
theorem dX8_checkStep_0 : decode cX8_checkStep 0 = .ok (.iload_n 0, 1) := by decide +kernel
theorem dX8_checkStep_1 : decode cX8_checkStep 1 = .ok (.iconst 1, 1) := by decide +kernel
theorem dX8_checkStep_2 : decode cX8_checkStep 2 = .ok (.if_icmp .lt 9, 3) := by decide +kernel
theorem dX8_checkStep_5 : decode cX8_checkStep 5 = .ok (.iload_n 0, 1) := by decide +kernel
theorem dX8_checkStep_6 : decode cX8_checkStep 6 = .ok (.bipush 6, 2) := by decide +kernel
theorem dX8_checkStep_8 : decode cX8_checkStep 8 = .ok (.if_icmp .le 13, 3) := by decide +kernel
theorem dX8_checkStep_11 : decode cX8_checkStep 11 = .ok (.new 74, 3) := by decide +kernel
theorem dX8_checkStep_14 : decode cX8_checkStep 14 = .ok (.dup, 1) := by decide +kernel
theorem dX8_checkStep_15 : decode cX8_checkStep 15 = .ok (.ldc 209, 2) := by decide +kernel
theorem dX8_checkStep_17 : decode cX8_checkStep 17 = .ok (.invokespecial 78, 3) := by decide +kernel
theorem dX8_checkStep_20 : decode cX8_checkStep 20 = .ok (.athrow, 1) := by decide +kernel
theorem dX8_checkStep_21 : decode cX8_checkStep 21 = .ok (.return_, 1) := by decide +kernel
theorem dX8_victim_0 : decode cX8_victim 0 = .ok (.iload_n 1, 1) := by decide +kernel
theorem dX8_victim_1 : decode cX8_victim 1 = .ok (.invokestatic 211, 3) := by decide +kernel
theorem dX8_victim_4 : decode cX8_victim 4 = .ok (.aload_n 0, 1) := by decide +kernel
theorem dX8_victim_5 : decode cX8_victim 5 = .ok (.getfield 42, 3) := by decide +kernel
theorem dX8_victim_8 : decode cX8_victim 8 = .ok (.invokevirtual 214, 3) := by decide +kernel
theorem dX8_victim_11 : decode cX8_victim 11 = .ok (.aload_n 0, 1) := by decide +kernel
theorem dX8_victim_12 : decode cX8_victim 12 = .ok (.getfield 33, 3) := by decide +kernel
theorem dX8_victim_15 : decode cX8_victim 15 = .ok (.iload_n 1, 1) := by decide +kernel
theorem dX8_victim_16 : decode cX8_victim 16 = .ok (.invokevirtual 217, 3) := by decide +kernel
theorem dX8_victim_19 : decode cX8_victim 19 = .ok (.ireturn, 1) := by decide +kernel
theorem dX8_freed_0 : decode cX8_freed 0 = .ok (.iload_n 1, 1) := by decide +kernel
theorem dX8_freed_1 : decode cX8_freed 1 = .ok (.invokestatic 211, 3) := by decide +kernel
theorem dX8_freed_4 : decode cX8_freed 4 = .ok (.aload_n 0, 1) := by decide +kernel
theorem dX8_freed_5 : decode cX8_freed 5 = .ok (.getfield 42, 3) := by decide +kernel
theorem dX8_freed_8 : decode cX8_freed 8 = .ok (.invokevirtual 214, 3) := by decide +kernel
theorem dX8_freed_11 : decode cX8_freed 11 = .ok (.aload_n 0, 1) := by decide +kernel
theorem dX8_freed_12 : decode cX8_freed 12 = .ok (.getfield 33, 3) := by decide +kernel
theorem dX8_freed_15 : decode cX8_freed 15 = .ok (.iload_n 1, 1) := by decide +kernel
theorem dX8_freed_16 : decode cX8_freed 16 = .ok (.invokevirtual 217, 3) := by decide +kernel
theorem dX8_freed_19 : decode cX8_freed 19 = .ok (.istore_n 2, 1) := by decide +kernel
theorem dX8_freed_20 : decode cX8_freed 20 = .ok (.iload_n 2, 1) := by decide +kernel
theorem dX8_freed_21 : decode cX8_freed 21 = .ok (.iconst (-1), 1) := by decide +kernel
theorem dX8_freed_22 : decode cX8_freed 22 = .ok (.if_icmp .ne 7, 3) := by decide +kernel
theorem dX8_freed_25 : decode cX8_freed 25 = .ok (.iconst 0, 1) := by decide +kernel
theorem dX8_freed_26 : decode cX8_freed 26 = .ok (.goto 12, 3) := by decide +kernel
theorem dX8_freed_29 : decode cX8_freed 29 = .ok (.aload_n 0, 1) := by decide +kernel
theorem dX8_freed_30 : decode cX8_freed 30 = .ok (.getfield 33, 3) := by decide +kernel
theorem dX8_freed_33 : decode cX8_freed 33 = .ok (.iload_n 1, 1) := by decide +kernel
theorem dX8_freed_34 : decode cX8_freed 34 = .ok (.iload_n 2, 1) := by decide +kernel
theorem dX8_freed_35 : decode cX8_freed 35 = .ok (.invokevirtual 220, 3) := by decide +kernel
theorem dX8_freed_38 : decode cX8_freed 38 = .ok (.ireturn, 1) := by decide +kernel
theorem dX8_waitOf_0 : decode cX8_waitOf 0 = .ok (.aload_n 0, 1) := by decide +kernel
theorem dX8_waitOf_1 : decode cX8_waitOf 1 = .ok (.iload_n 1, 1) := by decide +kernel
theorem dX8_waitOf_2 : decode cX8_waitOf 2 = .ok (.invokevirtual 151, 3) := by decide +kernel
theorem dX8_waitOf_5 : decode cX8_waitOf 5 = .ok (.aload_n 0, 1) := by decide +kernel
theorem dX8_waitOf_6 : decode cX8_waitOf 6 = .ok (.getfield 42, 3) := by decide +kernel
theorem dX8_waitOf_9 : decode cX8_waitOf 9 = .ok (.iload_n 1, 1) := by decide +kernel
theorem dX8_waitOf_10 : decode cX8_waitOf 10 = .ok (.invokevirtual 223, 3) := by decide +kernel
theorem dX8_waitOf_13 : decode cX8_waitOf 13 = .ok (.ireturn, 1) := by decide +kernel
theorem dX8_whyNotShow_0 : decode cX8_whyNotShow 0 = .ok (.aload_n 0, 1) := by decide +kernel
theorem dX8_whyNotShow_1 : decode cX8_whyNotShow 1 = .ok (.iload_n 1, 1) := by decide +kernel
theorem dX8_whyNotShow_2 : decode cX8_whyNotShow 2 = .ok (.invokevirtual 151, 3) := by decide +kernel
theorem dX8_whyNotShow_5 : decode cX8_whyNotShow 5 = .ok (.aload_n 0, 1) := by decide +kernel
theorem dX8_whyNotShow_6 : decode cX8_whyNotShow 6 = .ok (.iload_n 1, 1) := by decide +kernel
theorem dX8_whyNotShow_7 : decode cX8_whyNotShow 7 = .ok (.invokevirtual 226, 3) := by decide +kernel
theorem dX8_whyNotShow_10 : decode cX8_whyNotShow 10 = .ok (.ifCond .eq 5, 3) := by decide +kernel
theorem dX8_whyNotShow_13 : decode cX8_whyNotShow 13 = .ok (.iconst 0, 1) := by decide +kernel
theorem dX8_whyNotShow_14 : decode cX8_whyNotShow 14 = .ok (.ireturn, 1) := by decide +kernel
theorem dX8_whyNotShow_15 : decode cX8_whyNotShow 15 = .ok (.aload_n 0, 1) := by decide +kernel
theorem dX8_whyNotShow_16 : decode cX8_whyNotShow 16 = .ok (.getfield 42, 3) := by decide +kernel
theorem dX8_whyNotShow_19 : decode cX8_whyNotShow 19 = .ok (.getfield 101, 3) := by decide +kernel
theorem dX8_whyNotShow_22 : decode cX8_whyNotShow 22 = .ok (.iload_n 1, 1) := by decide +kernel
theorem dX8_whyNotShow_23 : decode cX8_whyNotShow 23 = .ok (.invokevirtual 229, 3) := by decide +kernel
theorem dX8_whyNotShow_26 : decode cX8_whyNotShow 26 = .ok (.aload_n 0, 1) := by decide +kernel
theorem dX8_whyNotShow_27 : decode cX8_whyNotShow 27 = .ok (.getfield 42, 3) := by decide +kernel
theorem dX8_whyNotShow_30 : decode cX8_whyNotShow 30 = .ok (.getfield 101, 3) := by decide +kernel
theorem dX8_whyNotShow_33 : decode cX8_whyNotShow 33 = .ok (.getfield 105, 3) := by decide +kernel
theorem dX8_whyNotShow_36 : decode cX8_whyNotShow 36 = .ok (.if_icmp .le 7, 3) := by decide +kernel
theorem dX8_whyNotShow_39 : decode cX8_whyNotShow 39 = .ok (.iconst 1, 1) := by decide +kernel
theorem dX8_whyNotShow_40 : decode cX8_whyNotShow 40 = .ok (.goto 4, 3) := by decide +kernel
theorem dX8_whyNotShow_43 : decode cX8_whyNotShow 43 = .ok (.iconst 2, 1) := by decide +kernel
theorem dX8_whyNotShow_44 : decode cX8_whyNotShow 44 = .ok (.ireturn, 1) := by decide +kernel
theorem dX8_trimsFor_0 : decode cX8_trimsFor 0 = .ok (.aload_n 0, 1) := by decide +kernel
theorem dX8_trimsFor_1 : decode cX8_trimsFor 1 = .ok (.iload_n 1, 1) := by decide +kernel
theorem dX8_trimsFor_2 : decode cX8_trimsFor 2 = .ok (.invokevirtual 151, 3) := by decide +kernel
theorem dX8_trimsFor_5 : decode cX8_trimsFor 5 = .ok (.aload_n 0, 1) := by decide +kernel
theorem dX8_trimsFor_6 : decode cX8_trimsFor 6 = .ok (.iload_n 1, 1) := by decide +kernel
theorem dX8_trimsFor_7 : decode cX8_trimsFor 7 = .ok (.invokevirtual 226, 3) := by decide +kernel
theorem dX8_trimsFor_10 : decode cX8_trimsFor 10 = .ok (.ifCond .eq 27, 3) := by decide +kernel
theorem dX8_trimsFor_13 : decode cX8_trimsFor 13 = .ok (.aload_n 0, 1) := by decide +kernel
theorem dX8_trimsFor_14 : decode cX8_trimsFor 14 = .ok (.getfield 46, 3) := by decide +kernel
theorem dX8_trimsFor_17 : decode cX8_trimsFor 17 = .ok (.getfield 232, 3) := by decide +kernel
theorem dX8_trimsFor_20 : decode cX8_trimsFor 20 = .ok (.invokevirtual 236, 3) := by decide +kernel
theorem dX8_trimsFor_23 : decode cX8_trimsFor 23 = .ok (.aload_n 0, 1) := by decide +kernel
theorem dX8_trimsFor_24 : decode cX8_trimsFor 24 = .ok (.getfield 42, 3) := by decide +kernel
theorem dX8_trimsFor_27 : decode cX8_trimsFor 27 = .ok (.getfield 232, 3) := by decide +kernel
theorem dX8_trimsFor_30 : decode cX8_trimsFor 30 = .ok (.invokevirtual 236, 3) := by decide +kernel
theorem dX8_trimsFor_33 : decode cX8_trimsFor 33 = .ok (.isub, 1) := by decide +kernel
theorem dX8_trimsFor_34 : decode cX8_trimsFor 34 = .ok (.goto 4, 3) := by decide +kernel
theorem dX8_trimsFor_37 : decode cX8_trimsFor 37 = .ok (.iconst (-1), 1) := by decide +kernel
theorem dX8_trimsFor_38 : decode cX8_trimsFor 38 = .ok (.ireturn, 1) := by decide +kernel
theorem dX8_stateAfter_0 : decode cX8_stateAfter 0 = .ok (.aload_n 0, 1) := by decide +kernel
theorem dX8_stateAfter_1 : decode cX8_stateAfter 1 = .ok (.iload_n 1, 1) := by decide +kernel
theorem dX8_stateAfter_2 : decode cX8_stateAfter 2 = .ok (.invokevirtual 151, 3) := by decide +kernel
theorem dX8_stateAfter_5 : decode cX8_stateAfter 5 = .ok (.aload_n 0, 1) := by decide +kernel
theorem dX8_stateAfter_6 : decode cX8_stateAfter 6 = .ok (.iload_n 2, 1) := by decide +kernel
theorem dX8_stateAfter_7 : decode cX8_stateAfter 7 = .ok (.invokevirtual 151, 3) := by decide +kernel
theorem dX8_stateAfter_10 : decode cX8_stateAfter 10 = .ok (.aload_n 0, 1) := by decide +kernel
theorem dX8_stateAfter_11 : decode cX8_stateAfter 11 = .ok (.iload_n 1, 1) := by decide +kernel
theorem dX8_stateAfter_12 : decode cX8_stateAfter 12 = .ok (.invokevirtual 226, 3) := by decide +kernel
theorem dX8_stateAfter_15 : decode cX8_stateAfter 15 = .ok (.ifCond .eq 18, 3) := by decide +kernel
theorem dX8_stateAfter_18 : decode cX8_stateAfter 18 = .ok (.aload_n 0, 1) := by decide +kernel
theorem dX8_stateAfter_19 : decode cX8_stateAfter 19 = .ok (.getfield 46, 3) := by decide +kernel
theorem dX8_stateAfter_22 : decode cX8_stateAfter 22 = .ok (.getfield 101, 3) := by decide +kernel
theorem dX8_stateAfter_25 : decode cX8_stateAfter 25 = .ok (.getfield 154, 3) := by decide +kernel
theorem dX8_stateAfter_28 : decode cX8_stateAfter 28 = .ok (.iload_n 2, 1) := by decide +kernel
theorem dX8_stateAfter_29 : decode cX8_stateAfter 29 = .ok (.iaload, 1) := by decide +kernel
theorem dX8_stateAfter_30 : decode cX8_stateAfter 30 = .ok (.goto 4, 3) := by decide +kernel
theorem dX8_stateAfter_33 : decode cX8_stateAfter 33 = .ok (.iconst (-1), 1) := by decide +kernel
theorem dX8_stateAfter_34 : decode cX8_stateAfter 34 = .ok (.ireturn, 1) := by decide +kernel
theorem dX8_waitsFor_0 : decode cX8_waitsFor 0 = .ok (.aload_n 0, 1) := by decide +kernel
theorem dX8_waitsFor_1 : decode cX8_waitsFor 1 = .ok (.iload_n 2, 1) := by decide +kernel
theorem dX8_waitsFor_2 : decode cX8_waitsFor 2 = .ok (.invokevirtual 151, 3) := by decide +kernel
theorem dX8_waitsFor_5 : decode cX8_waitsFor 5 = .ok (.aload_n 0, 1) := by decide +kernel
theorem dX8_waitsFor_6 : decode cX8_waitsFor 6 = .ok (.iload_n 3, 1) := by decide +kernel
theorem dX8_waitsFor_7 : decode cX8_waitsFor 7 = .ok (.invokevirtual 151, 3) := by decide +kernel
theorem dX8_waitsFor_10 : decode cX8_waitsFor 10 = .ok (.aload_n 0, 1) := by decide +kernel
theorem dX8_waitsFor_11 : decode cX8_waitsFor 11 = .ok (.iload 4, 2) := by decide +kernel
theorem dX8_waitsFor_13 : decode cX8_waitsFor 13 = .ok (.invokevirtual 151, 3) := by decide +kernel
theorem dX8_waitsFor_16 : decode cX8_waitsFor 16 = .ok (.iload_n 1, 1) := by decide +kernel
theorem dX8_waitsFor_17 : decode cX8_waitsFor 17 = .ok (.invokestatic 241, 3) := by decide +kernel
theorem dX8_waitsFor_20 : decode cX8_waitsFor 20 = .ok (.aload_n 0, 1) := by decide +kernel
theorem dX8_waitsFor_21 : decode cX8_waitsFor 21 = .ok (.getfield 49, 3) := by decide +kernel
theorem dX8_waitsFor_24 : decode cX8_waitsFor 24 = .ok (.aload_n 0, 1) := by decide +kernel
theorem dX8_waitsFor_25 : decode cX8_waitsFor 25 = .ok (.getfield 42, 3) := by decide +kernel
theorem dX8_waitsFor_28 : decode cX8_waitsFor 28 = .ok (.invokevirtual 244, 3) := by decide +kernel
theorem dX8_waitsFor_31 : decode cX8_waitsFor 31 = .ok (.aload_n 0, 1) := by decide +kernel
theorem dX8_waitsFor_32 : decode cX8_waitsFor 32 = .ok (.getfield 49, 3) := by decide +kernel
theorem dX8_waitsFor_35 : decode cX8_waitsFor 35 = .ok (.iload_n 1, 1) := by decide +kernel
theorem dX8_waitsFor_36 : decode cX8_waitsFor 36 = .ok (.putfield 129, 3) := by decide +kernel
theorem dX8_waitsFor_39 : decode cX8_waitsFor 39 = .ok (.aload_n 0, 1) := by decide +kernel
theorem dX8_waitsFor_40 : decode cX8_waitsFor 40 = .ok (.iload_n 2, 1) := by decide +kernel
theorem dX8_waitsFor_41 : decode cX8_waitsFor 41 = .ok (.invokevirtual 248, 3) := by decide +kernel
theorem dX8_waitsFor_44 : decode cX8_waitsFor 44 = .ok (.aload_n 0, 1) := by decide +kernel
theorem dX8_waitsFor_45 : decode cX8_waitsFor 45 = .ok (.iload_n 3, 1) := by decide +kernel
theorem dX8_waitsFor_46 : decode cX8_waitsFor 46 = .ok (.invokevirtual 248, 3) := by decide +kernel
theorem dX8_waitsFor_49 : decode cX8_waitsFor 49 = .ok (.iadd, 1) := by decide +kernel
theorem dX8_waitsFor_50 : decode cX8_waitsFor 50 = .ok (.aload_n 0, 1) := by decide +kernel
theorem dX8_waitsFor_51 : decode cX8_waitsFor 51 = .ok (.iload 4, 2) := by decide +kernel
theorem dX8_waitsFor_53 : decode cX8_waitsFor 53 = .ok (.invokevirtual 248, 3) := by decide +kernel
theorem dX8_waitsFor_56 : decode cX8_waitsFor 56 = .ok (.iadd, 1) := by decide +kernel
theorem dX8_waitsFor_57 : decode cX8_waitsFor 57 = .ok (.ireturn, 1) := by decide +kernel
theorem dX8_waitInSpare_0 : decode cX8_waitInSpare 0 = .ok (.aload_n 0, 1) := by decide +kernel
theorem dX8_waitInSpare_1 : decode cX8_waitInSpare 1 = .ok (.getfield 49, 3) := by decide +kernel
theorem dX8_waitInSpare_4 : decode cX8_waitInSpare 4 = .ok (.iload_n 1, 1) := by decide +kernel
theorem dX8_waitInSpare_5 : decode cX8_waitInSpare 5 = .ok (.invokevirtual 223, 3) := by decide +kernel
theorem dX8_waitInSpare_8 : decode cX8_waitInSpare 8 = .ok (.istore_n 2, 1) := by decide +kernel
theorem dX8_waitInSpare_9 : decode cX8_waitInSpare 9 = .ok (.aload_n 0, 1) := by decide +kernel
theorem dX8_waitInSpare_10 : decode cX8_waitInSpare 10 = .ok (.getfield 46, 3) := by decide +kernel
theorem dX8_waitInSpare_13 : decode cX8_waitInSpare 13 = .ok (.aload_n 0, 1) := by decide +kernel
theorem dX8_waitInSpare_14 : decode cX8_waitInSpare 14 = .ok (.getfield 49, 3) := by decide +kernel
theorem dX8_waitInSpare_17 : decode cX8_waitInSpare 17 = .ok (.invokevirtual 244, 3) := by decide +kernel
theorem dX8_waitInSpare_20 : decode cX8_waitInSpare 20 = .ok (.aload_n 0, 1) := by decide +kernel
theorem dX8_waitInSpare_21 : decode cX8_waitInSpare 21 = .ok (.getfield 46, 3) := by decide +kernel
theorem dX8_waitInSpare_24 : decode cX8_waitInSpare 24 = .ok (.iload_n 1, 1) := by decide +kernel
theorem dX8_waitInSpare_25 : decode cX8_waitInSpare 25 = .ok (.invokevirtual 251, 3) := by decide +kernel
theorem dX8_waitInSpare_28 : decode cX8_waitInSpare 28 = .ok (.ifCond .ne 5, 3) := by decide +kernel
theorem dX8_waitInSpare_31 : decode cX8_waitInSpare 31 = .ok (.iconst 0, 1) := by decide +kernel
theorem dX8_waitInSpare_32 : decode cX8_waitInSpare 32 = .ok (.ireturn, 1) := by decide +kernel
theorem dX8_waitInSpare_33 : decode cX8_waitInSpare 33 = .ok (.aload_n 0, 1) := by decide +kernel
theorem dX8_waitInSpare_34 : decode cX8_waitInSpare 34 = .ok (.getfield 46, 3) := by decide +kernel
theorem dX8_waitInSpare_37 : decode cX8_waitInSpare 37 = .ok (.astore_n 3, 1) := by decide +kernel
theorem dX8_waitInSpare_38 : decode cX8_waitInSpare 38 = .ok (.aload_n 0, 1) := by decide +kernel
theorem dX8_waitInSpare_39 : decode cX8_waitInSpare 39 = .ok (.aload_n 0, 1) := by decide +kernel
theorem dX8_waitInSpare_40 : decode cX8_waitInSpare 40 = .ok (.getfield 49, 3) := by decide +kernel
theorem dX8_waitInSpare_43 : decode cX8_waitInSpare 43 = .ok (.putfield 46, 3) := by decide +kernel
theorem dX8_waitInSpare_46 : decode cX8_waitInSpare 46 = .ok (.aload_n 0, 1) := by decide +kernel
theorem dX8_waitInSpare_47 : decode cX8_waitInSpare 47 = .ok (.aload_n 3, 1) := by decide +kernel
theorem dX8_waitInSpare_48 : decode cX8_waitInSpare 48 = .ok (.putfield 49, 3) := by decide +kernel
theorem dX8_waitInSpare_51 : decode cX8_waitInSpare 51 = .ok (.iload_n 2, 1) := by decide +kernel
theorem dX8_waitInSpare_52 : decode cX8_waitInSpare 52 = .ok (.ireturn, 1) := by decide +kernel
theorem dX8_triedShowing_0 : decode cX8_triedShowing 0 = .ok (.aload_n 0, 1) := by decide +kernel
theorem dX8_triedShowing_1 : decode cX8_triedShowing 1 = .ok (.getfield 46, 3) := by decide +kernel
theorem dX8_triedShowing_4 : decode cX8_triedShowing 4 = .ok (.aload_n 0, 1) := by decide +kernel
theorem dX8_triedShowing_5 : decode cX8_triedShowing 5 = .ok (.getfield 42, 3) := by decide +kernel
theorem dX8_triedShowing_8 : decode cX8_triedShowing 8 = .ok (.invokevirtual 244, 3) := by decide +kernel
theorem dX8_triedShowing_11 : decode cX8_triedShowing 11 = .ok (.aload_n 0, 1) := by decide +kernel
theorem dX8_triedShowing_12 : decode cX8_triedShowing 12 = .ok (.getfield 46, 3) := by decide +kernel
theorem dX8_triedShowing_15 : decode cX8_triedShowing 15 = .ok (.iload_n 1, 1) := by decide +kernel
theorem dX8_triedShowing_16 : decode cX8_triedShowing 16 = .ok (.invokevirtual 251, 3) := by decide +kernel
theorem dX8_triedShowing_19 : decode cX8_triedShowing 19 = .ok (.ireturn, 1) := by decide +kernel
theorem dX8_log_0 : decode cX8_log 0 = .ok (.iload_n 2, 1) := by decide +kernel
theorem dX8_log_1 : decode cX8_log 1 = .ok (.ifCond .lt 8, 3) := by decide +kernel
theorem dX8_log_4 : decode cX8_log 4 = .ok (.iload_n 2, 1) := by decide +kernel
theorem dX8_log_5 : decode cX8_log 5 = .ok (.iconst 3, 1) := by decide +kernel
theorem dX8_log_6 : decode cX8_log 6 = .ok (.if_icmp .lt 13, 3) := by decide +kernel
theorem dX8_log_9 : decode cX8_log 9 = .ok (.new 74, 3) := by decide +kernel
theorem dX8_log_12 : decode cX8_log 12 = .ok (.dup, 1) := by decide +kernel
theorem dX8_log_13 : decode cX8_log 13 = .ok (.ldc 254, 2) := by decide +kernel
theorem dX8_log_15 : decode cX8_log 15 = .ok (.invokespecial 78, 3) := by decide +kernel
theorem dX8_log_18 : decode cX8_log 18 = .ok (.athrow, 1) := by decide +kernel
theorem dX8_log_19 : decode cX8_log 19 = .ok (.aload_n 0, 1) := by decide +kernel
theorem dX8_log_20 : decode cX8_log 20 = .ok (.getfield 42, 3) := by decide +kernel
theorem dX8_log_23 : decode cX8_log 23 = .ok (.getfield 232, 3) := by decide +kernel
theorem dX8_log_26 : decode cX8_log 26 = .ok (.iload_n 1, 1) := by decide +kernel
theorem dX8_log_27 : decode cX8_log 27 = .ok (.iload_n 2, 1) := by decide +kernel
theorem dX8_log_28 : decode cX8_log 28 = .ok (.invokevirtual 256, 3) := by decide +kernel
theorem dX8_log_31 : decode cX8_log 31 = .ok (.ireturn, 1) := by decide +kernel
theorem dX8_account_0 : decode cX8_account 0 = .ok (.iload_n 1, 1) := by decide +kernel
theorem dX8_account_1 : decode cX8_account 1 = .ok (.iconst 1, 1) := by decide +kernel
theorem dX8_account_2 : decode cX8_account 2 = .ok (.if_icmp .lt 9, 3) := by decide +kernel
theorem dX8_account_5 : decode cX8_account 5 = .ok (.iload_n 1, 1) := by decide +kernel
theorem dX8_account_6 : decode cX8_account 6 = .ok (.bipush 9, 2) := by decide +kernel
theorem dX8_account_8 : decode cX8_account 8 = .ok (.if_icmp .le 14, 3) := by decide +kernel
theorem dX8_account_11 : decode cX8_account 11 = .ok (.new 74, 3) := by decide +kernel
theorem dX8_account_14 : decode cX8_account 14 = .ok (.dup, 1) := by decide +kernel
theorem dX8_account_15 : decode cX8_account 15 = .ok (.ldc_w 259, 3) := by decide +kernel
theorem dX8_account_18 : decode cX8_account 18 = .ok (.invokespecial 78, 3) := by decide +kernel
theorem dX8_account_21 : decode cX8_account 21 = .ok (.athrow, 1) := by decide +kernel
theorem dX8_account_22 : decode cX8_account 22 = .ok (.aload_n 0, 1) := by decide +kernel
theorem dX8_account_23 : decode cX8_account 23 = .ok (.getfield 42, 3) := by decide +kernel
theorem dX8_account_26 : decode cX8_account 26 = .ok (.getfield 232, 3) := by decide +kernel
theorem dX8_account_29 : decode cX8_account 29 = .ok (.getfield 261, 3) := by decide +kernel
theorem dX8_account_32 : decode cX8_account 32 = .ok (.iload_n 1, 1) := by decide +kernel
theorem dX8_account_33 : decode cX8_account 33 = .ok (.iaload, 1) := by decide +kernel
theorem dX8_account_34 : decode cX8_account 34 = .ok (.ireturn, 1) := by decide +kernel
theorem dX8_acceptTrial_0 : decode cX8_acceptTrial 0 = .ok (.aload_n 0, 1) := by decide +kernel
theorem dX8_acceptTrial_1 : decode cX8_acceptTrial 1 = .ok (.getfield 55, 3) := by decide +kernel
theorem dX8_acceptTrial_4 : decode cX8_acceptTrial 4 = .ok (.aload_n 0, 1) := by decide +kernel
theorem dX8_acceptTrial_5 : decode cX8_acceptTrial 5 = .ok (.getfield 42, 3) := by decide +kernel
theorem dX8_acceptTrial_8 : decode cX8_acceptTrial 8 = .ok (.invokevirtual 264, 3) := by decide +kernel
theorem dX8_acceptTrial_11 : decode cX8_acceptTrial 11 = .ok (.astore_n 1, 1) := by decide +kernel
theorem dX8_acceptTrial_12 : decode cX8_acceptTrial 12 = .ok (.aload_n 0, 1) := by decide +kernel
theorem dX8_acceptTrial_13 : decode cX8_acceptTrial 13 = .ok (.aload_n 0, 1) := by decide +kernel
theorem dX8_acceptTrial_14 : decode cX8_acceptTrial 14 = .ok (.getfield 46, 3) := by decide +kernel
theorem dX8_acceptTrial_17 : decode cX8_acceptTrial 17 = .ok (.putfield 42, 3) := by decide +kernel
theorem dX8_acceptTrial_20 : decode cX8_acceptTrial 20 = .ok (.aload_n 0, 1) := by decide +kernel
theorem dX8_acceptTrial_21 : decode cX8_acceptTrial 21 = .ok (.aload_n 1, 1) := by decide +kernel
theorem dX8_acceptTrial_22 : decode cX8_acceptTrial 22 = .ok (.putfield 46, 3) := by decide +kernel
theorem dX8_acceptTrial_25 : decode cX8_acceptTrial 25 = .ok (.return_, 1) := by decide +kernel
theorem dX8_show_0 : decode cX8_show 0 = .ok (.aload_n 0, 1) := by decide +kernel
theorem dX8_show_1 : decode cX8_show 1 = .ok (.iload_n 1, 1) := by decide +kernel
theorem dX8_show_2 : decode cX8_show 2 = .ok (.invokevirtual 151, 3) := by decide +kernel
theorem dX8_show_5 : decode cX8_show 5 = .ok (.aload_n 0, 1) := by decide +kernel
theorem dX8_show_6 : decode cX8_show 6 = .ok (.getfield 42, 3) := by decide +kernel
theorem dX8_show_9 : decode cX8_show 9 = .ok (.iload_n 1, 1) := by decide +kernel
theorem dX8_show_10 : decode cX8_show 10 = .ok (.invokevirtual 223, 3) := by decide +kernel
theorem dX8_show_13 : decode cX8_show 13 = .ok (.istore_n 2, 1) := by decide +kernel
theorem dX8_show_14 : decode cX8_show 14 = .ok (.aload_n 0, 1) := by decide +kernel
theorem dX8_show_15 : decode cX8_show 15 = .ok (.iload_n 1, 1) := by decide +kernel
theorem dX8_show_16 : decode cX8_show 16 = .ok (.invokevirtual 226, 3) := by decide +kernel
theorem dX8_show_19 : decode cX8_show 19 = .ok (.ifCond .ne 14, 3) := by decide +kernel
theorem dX8_show_22 : decode cX8_show 22 = .ok (.new 268, 3) := by decide +kernel
theorem dX8_show_25 : decode cX8_show 25 = .ok (.dup, 1) := by decide +kernel
theorem dX8_show_26 : decode cX8_show 26 = .ok (.ldc_w 270, 3) := by decide +kernel
theorem dX8_show_29 : decode cX8_show 29 = .ok (.invokespecial 272, 3) := by decide +kernel
theorem dX8_show_32 : decode cX8_show 32 = .ok (.athrow, 1) := by decide +kernel
theorem dX8_show_33 : decode cX8_show 33 = .ok (.aload_n 0, 1) := by decide +kernel
theorem dX8_show_34 : decode cX8_show 34 = .ok (.invokevirtual 273, 3) := by decide +kernel
theorem dX8_show_37 : decode cX8_show 37 = .ok (.iload_n 2, 1) := by decide +kernel
theorem dX8_show_38 : decode cX8_show 38 = .ok (.ireturn, 1) := by decide +kernel
theorem dX8_home_0 : decode cX8_home 0 = .ok (.aload_n 0, 1) := by decide +kernel
theorem dX8_home_1 : decode cX8_home 1 = .ok (.getfield 42, 3) := by decide +kernel
theorem dX8_home_4 : decode cX8_home 4 = .ok (.getfield 117, 3) := by decide +kernel
theorem dX8_home_7 : decode cX8_home 7 = .ok (.istore_n 1, 1) := by decide +kernel
theorem dX8_home_8 : decode cX8_home 8 = .ok (.aload_n 0, 1) := by decide +kernel
theorem dX8_home_9 : decode cX8_home 9 = .ok (.getfield 46, 3) := by decide +kernel
theorem dX8_home_12 : decode cX8_home 12 = .ok (.aload_n 0, 1) := by decide +kernel
theorem dX8_home_13 : decode cX8_home 13 = .ok (.getfield 42, 3) := by decide +kernel
theorem dX8_home_16 : decode cX8_home 16 = .ok (.invokevirtual 244, 3) := by decide +kernel
theorem dX8_home_19 : decode cX8_home 19 = .ok (.aload_n 0, 1) := by decide +kernel
theorem dX8_home_20 : decode cX8_home 20 = .ok (.getfield 46, 3) := by decide +kernel
theorem dX8_home_23 : decode cX8_home 23 = .ok (.invokevirtual 276, 3) := by decide +kernel
theorem dX8_home_26 : decode cX8_home 26 = .ok (.aload_n 0, 1) := by decide +kernel
theorem dX8_home_27 : decode cX8_home 27 = .ok (.invokevirtual 273, 3) := by decide +kernel
theorem dX8_home_30 : decode cX8_home 30 = .ok (.iload_n 1, 1) := by decide +kernel
theorem dX8_home_31 : decode cX8_home 31 = .ok (.ireturn, 1) := by decide +kernel
theorem dX8_pass_0 : decode cX8_pass 0 = .ok (.iload_n 1, 1) := by decide +kernel
theorem dX8_pass_1 : decode cX8_pass 1 = .ok (.iconst 1, 1) := by decide +kernel
theorem dX8_pass_2 : decode cX8_pass 2 = .ok (.if_icmp .lt 10, 3) := by decide +kernel
theorem dX8_pass_5 : decode cX8_pass 5 = .ok (.iload_n 1, 1) := by decide +kernel
theorem dX8_pass_6 : decode cX8_pass 6 = .ok (.sipush 240, 3) := by decide +kernel
theorem dX8_pass_9 : decode cX8_pass 9 = .ok (.if_icmp .le 14, 3) := by decide +kernel
theorem dX8_pass_12 : decode cX8_pass 12 = .ok (.new 74, 3) := by decide +kernel
theorem dX8_pass_15 : decode cX8_pass 15 = .ok (.dup, 1) := by decide +kernel
theorem dX8_pass_16 : decode cX8_pass 16 = .ok (.ldc_w 279, 3) := by decide +kernel
theorem dX8_pass_19 : decode cX8_pass 19 = .ok (.invokespecial 78, 3) := by decide +kernel
theorem dX8_pass_22 : decode cX8_pass 22 = .ok (.athrow, 1) := by decide +kernel
theorem dX8_pass_23 : decode cX8_pass 23 = .ok (.aload_n 0, 1) := by decide +kernel
theorem dX8_pass_24 : decode cX8_pass 24 = .ok (.getfield 42, 3) := by decide +kernel
theorem dX8_pass_27 : decode cX8_pass 27 = .ok (.getfield 232, 3) := by decide +kernel
theorem dX8_pass_30 : decode cX8_pass 30 = .ok (.invokevirtual 236, 3) := by decide +kernel
theorem dX8_pass_33 : decode cX8_pass 33 = .ok (.istore_n 2, 1) := by decide +kernel
theorem dX8_pass_34 : decode cX8_pass 34 = .ok (.aload_n 0, 1) := by decide +kernel
theorem dX8_pass_35 : decode cX8_pass 35 = .ok (.getfield 46, 3) := by decide +kernel
theorem dX8_pass_38 : decode cX8_pass 38 = .ok (.aload_n 0, 1) := by decide +kernel
theorem dX8_pass_39 : decode cX8_pass 39 = .ok (.getfield 42, 3) := by decide +kernel
theorem dX8_pass_42 : decode cX8_pass 42 = .ok (.invokevirtual 244, 3) := by decide +kernel
theorem dX8_pass_45 : decode cX8_pass 45 = .ok (.iconst 0, 1) := by decide +kernel
theorem dX8_pass_46 : decode cX8_pass 46 = .ok (.istore_n 3, 1) := by decide +kernel
theorem dX8_pass_47 : decode cX8_pass 47 = .ok (.iload_n 3, 1) := by decide +kernel
theorem dX8_pass_48 : decode cX8_pass 48 = .ok (.iload_n 1, 1) := by decide +kernel
theorem dX8_pass_49 : decode cX8_pass 49 = .ok (.if_icmp .ge 16, 3) := by decide +kernel
theorem dX8_pass_52 : decode cX8_pass 52 = .ok (.aload_n 0, 1) := by decide +kernel
theorem dX8_pass_53 : decode cX8_pass 53 = .ok (.getfield 46, 3) := by decide +kernel
theorem dX8_pass_56 : decode cX8_pass 56 = .ok (.invokevirtual 281, 3) := by decide +kernel
theorem dX8_pass_59 : decode cX8_pass 59 = .ok (.iinc 3 1, 3) := by decide +kernel
theorem dX8_pass_62 : decode cX8_pass 62 = .ok (.goto (-15), 3) := by decide +kernel
theorem dX8_pass_65 : decode cX8_pass 65 = .ok (.aload_n 0, 1) := by decide +kernel
theorem dX8_pass_66 : decode cX8_pass 66 = .ok (.invokevirtual 273, 3) := by decide +kernel
theorem dX8_pass_69 : decode cX8_pass 69 = .ok (.aload_n 0, 1) := by decide +kernel
theorem dX8_pass_70 : decode cX8_pass 70 = .ok (.getfield 42, 3) := by decide +kernel
theorem dX8_pass_73 : decode cX8_pass 73 = .ok (.getfield 232, 3) := by decide +kernel
theorem dX8_pass_76 : decode cX8_pass 76 = .ok (.invokevirtual 236, 3) := by decide +kernel
theorem dX8_pass_79 : decode cX8_pass 79 = .ok (.iload_n 2, 1) := by decide +kernel
theorem dX8_pass_80 : decode cX8_pass 80 = .ok (.isub, 1) := by decide +kernel
theorem dX8_pass_81 : decode cX8_pass 81 = .ok (.ireturn, 1) := by decide +kernel
theorem dX8_checkNotice_0 : decode cX8_checkNotice 0 = .ok (.iload_n 0, 1) := by decide +kernel
theorem dX8_checkNotice_1 : decode cX8_checkNotice 1 = .ok (.ifCond .lt 10, 3) := by decide +kernel
theorem dX8_checkNotice_4 : decode cX8_checkNotice 4 = .ok (.iload_n 0, 1) := by decide +kernel
theorem dX8_checkNotice_5 : decode cX8_checkNotice 5 = .ok (.sipush 999, 3) := by decide +kernel
theorem dX8_checkNotice_8 : decode cX8_checkNotice 8 = .ok (.if_icmp .le 14, 3) := by decide +kernel
theorem dX8_checkNotice_11 : decode cX8_checkNotice 11 = .ok (.new 74, 3) := by decide +kernel
theorem dX8_checkNotice_14 : decode cX8_checkNotice 14 = .ok (.dup, 1) := by decide +kernel
theorem dX8_checkNotice_15 : decode cX8_checkNotice 15 = .ok (.ldc_w 284, 3) := by decide +kernel
theorem dX8_checkNotice_18 : decode cX8_checkNotice 18 = .ok (.invokespecial 78, 3) := by decide +kernel
theorem dX8_checkNotice_21 : decode cX8_checkNotice 21 = .ok (.athrow, 1) := by decide +kernel
theorem dX8_checkNotice_22 : decode cX8_checkNotice 22 = .ok (.return_, 1) := by decide +kernel
theorem dX8_touch_0 : decode cX8_touch 0 = .ok (.iload_n 1, 1) := by decide +kernel
theorem dX8_touch_1 : decode cX8_touch 1 = .ok (.invokestatic 286, 3) := by decide +kernel
theorem dX8_touch_4 : decode cX8_touch 4 = .ok (.aload_n 0, 1) := by decide +kernel
theorem dX8_touch_5 : decode cX8_touch 5 = .ok (.getfield 42, 3) := by decide +kernel
theorem dX8_touch_8 : decode cX8_touch 8 = .ok (.getfield 117, 3) := by decide +kernel
theorem dX8_touch_11 : decode cX8_touch 11 = .ok (.istore_n 2, 1) := by decide +kernel
theorem dX8_touch_12 : decode cX8_touch 12 = .ok (.iload_n 2, 1) := by decide +kernel
theorem dX8_touch_13 : decode cX8_touch 13 = .ok (.ifCond .ge 14, 3) := by decide +kernel
theorem dX8_touch_16 : decode cX8_touch 16 = .ok (.new 268, 3) := by decide +kernel
theorem dX8_touch_19 : decode cX8_touch 19 = .ok (.dup, 1) := by decide +kernel
theorem dX8_touch_20 : decode cX8_touch 20 = .ok (.ldc_w 289, 3) := by decide +kernel
theorem dX8_touch_23 : decode cX8_touch 23 = .ok (.invokespecial 272, 3) := by decide +kernel
theorem dX8_touch_26 : decode cX8_touch 26 = .ok (.athrow, 1) := by decide +kernel
theorem dX8_touch_27 : decode cX8_touch 27 = .ok (.aload_n 0, 1) := by decide +kernel
theorem dX8_touch_28 : decode cX8_touch 28 = .ok (.getfield 46, 3) := by decide +kernel
theorem dX8_touch_31 : decode cX8_touch 31 = .ok (.aload_n 0, 1) := by decide +kernel
theorem dX8_touch_32 : decode cX8_touch 32 = .ok (.getfield 42, 3) := by decide +kernel
theorem dX8_touch_35 : decode cX8_touch 35 = .ok (.invokevirtual 244, 3) := by decide +kernel
theorem dX8_touch_38 : decode cX8_touch 38 = .ok (.aload_n 0, 1) := by decide +kernel
theorem dX8_touch_39 : decode cX8_touch 39 = .ok (.getfield 46, 3) := by decide +kernel
theorem dX8_touch_42 : decode cX8_touch 42 = .ok (.iload_n 2, 1) := by decide +kernel
theorem dX8_touch_43 : decode cX8_touch 43 = .ok (.iload_n 1, 1) := by decide +kernel
theorem dX8_touch_44 : decode cX8_touch 44 = .ok (.invokevirtual 291, 3) := by decide +kernel
theorem dX8_touch_47 : decode cX8_touch 47 = .ok (.aload_n 0, 1) := by decide +kernel
theorem dX8_touch_48 : decode cX8_touch 48 = .ok (.invokevirtual 273, 3) := by decide +kernel
theorem dX8_touch_51 : decode cX8_touch 51 = .ok (.aload_n 0, 1) := by decide +kernel
theorem dX8_touch_52 : decode cX8_touch 52 = .ok (.getfield 42, 3) := by decide +kernel
theorem dX8_touch_55 : decode cX8_touch 55 = .ok (.getfield 189, 3) := by decide +kernel
theorem dX8_touch_58 : decode cX8_touch 58 = .ok (.iload_n 2, 1) := by decide +kernel
theorem dX8_touch_59 : decode cX8_touch 59 = .ok (.iaload, 1) := by decide +kernel
theorem dX8_touch_60 : decode cX8_touch 60 = .ok (.ireturn, 1) := by decide +kernel
theorem dX8_send_0 : decode cX8_send 0 = .ok (.aload_n 0, 1) := by decide +kernel
theorem dX8_send_1 : decode cX8_send 1 = .ok (.iload_n 1, 1) := by decide +kernel
theorem dX8_send_2 : decode cX8_send 2 = .ok (.invokevirtual 151, 3) := by decide +kernel
theorem dX8_send_5 : decode cX8_send 5 = .ok (.iload_n 2, 1) := by decide +kernel
theorem dX8_send_6 : decode cX8_send 6 = .ok (.invokestatic 286, 3) := by decide +kernel
theorem dX8_send_9 : decode cX8_send 9 = .ok (.aload_n 0, 1) := by decide +kernel
theorem dX8_send_10 : decode cX8_send 10 = .ok (.getfield 46, 3) := by decide +kernel
theorem dX8_send_13 : decode cX8_send 13 = .ok (.aload_n 0, 1) := by decide +kernel
theorem dX8_send_14 : decode cX8_send 14 = .ok (.getfield 42, 3) := by decide +kernel
theorem dX8_send_17 : decode cX8_send 17 = .ok (.invokevirtual 244, 3) := by decide +kernel
theorem dX8_send_20 : decode cX8_send 20 = .ok (.aload_n 0, 1) := by decide +kernel
theorem dX8_send_21 : decode cX8_send 21 = .ok (.getfield 46, 3) := by decide +kernel
theorem dX8_send_24 : decode cX8_send 24 = .ok (.iload_n 1, 1) := by decide +kernel
theorem dX8_send_25 : decode cX8_send 25 = .ok (.iload_n 2, 1) := by decide +kernel
theorem dX8_send_26 : decode cX8_send 26 = .ok (.invokevirtual 295, 3) := by decide +kernel
theorem dX8_send_29 : decode cX8_send 29 = .ok (.aload_n 0, 1) := by decide +kernel
theorem dX8_send_30 : decode cX8_send 30 = .ok (.invokevirtual 273, 3) := by decide +kernel
theorem dX8_send_33 : decode cX8_send 33 = .ok (.aload_n 0, 1) := by decide +kernel
theorem dX8_send_34 : decode cX8_send 34 = .ok (.getfield 42, 3) := by decide +kernel
theorem dX8_send_37 : decode cX8_send 37 = .ok (.getfield 171, 3) := by decide +kernel
theorem dX8_send_40 : decode cX8_send 40 = .ok (.iload_n 1, 1) := by decide +kernel
theorem dX8_send_41 : decode cX8_send 41 = .ok (.iaload, 1) := by decide +kernel
theorem dX8_send_42 : decode cX8_send 42 = .ok (.ireturn, 1) := by decide +kernel
theorem dX8_read_0 : decode cX8_read 0 = .ok (.aload_n 0, 1) := by decide +kernel
theorem dX8_read_1 : decode cX8_read 1 = .ok (.getfield 42, 3) := by decide +kernel
theorem dX8_read_4 : decode cX8_read 4 = .ok (.getfield 117, 3) := by decide +kernel
theorem dX8_read_7 : decode cX8_read 7 = .ok (.istore_n 1, 1) := by decide +kernel
theorem dX8_read_8 : decode cX8_read 8 = .ok (.iload_n 1, 1) := by decide +kernel
theorem dX8_read_9 : decode cX8_read 9 = .ok (.ifCond .ge 14, 3) := by decide +kernel
theorem dX8_read_12 : decode cX8_read 12 = .ok (.new 268, 3) := by decide +kernel
theorem dX8_read_15 : decode cX8_read 15 = .ok (.dup, 1) := by decide +kernel
theorem dX8_read_16 : decode cX8_read 16 = .ok (.ldc_w 289, 3) := by decide +kernel
theorem dX8_read_19 : decode cX8_read 19 = .ok (.invokespecial 272, 3) := by decide +kernel
theorem dX8_read_22 : decode cX8_read 22 = .ok (.athrow, 1) := by decide +kernel
theorem dX8_read_23 : decode cX8_read 23 = .ok (.aload_n 0, 1) := by decide +kernel
theorem dX8_read_24 : decode cX8_read 24 = .ok (.getfield 42, 3) := by decide +kernel
theorem dX8_read_27 : decode cX8_read 27 = .ok (.getfield 171, 3) := by decide +kernel
theorem dX8_read_30 : decode cX8_read 30 = .ok (.iload_n 1, 1) := by decide +kernel
theorem dX8_read_31 : decode cX8_read 31 = .ok (.iaload, 1) := by decide +kernel
theorem dX8_read_32 : decode cX8_read 32 = .ok (.iconst 1, 1) := by decide +kernel
theorem dX8_read_33 : decode cX8_read 33 = .ok (.if_icmp .ge 14, 3) := by decide +kernel
theorem dX8_read_36 : decode cX8_read 36 = .ok (.new 268, 3) := by decide +kernel
theorem dX8_read_39 : decode cX8_read 39 = .ok (.dup, 1) := by decide +kernel
theorem dX8_read_40 : decode cX8_read 40 = .ok (.ldc_w 298, 3) := by decide +kernel
theorem dX8_read_43 : decode cX8_read 43 = .ok (.invokespecial 272, 3) := by decide +kernel
theorem dX8_read_46 : decode cX8_read 46 = .ok (.athrow, 1) := by decide +kernel
theorem dX8_read_47 : decode cX8_read 47 = .ok (.aload_n 0, 1) := by decide +kernel
theorem dX8_read_48 : decode cX8_read 48 = .ok (.getfield 46, 3) := by decide +kernel
theorem dX8_read_51 : decode cX8_read 51 = .ok (.aload_n 0, 1) := by decide +kernel
theorem dX8_read_52 : decode cX8_read 52 = .ok (.getfield 42, 3) := by decide +kernel
theorem dX8_read_55 : decode cX8_read 55 = .ok (.invokevirtual 244, 3) := by decide +kernel
theorem dX8_read_58 : decode cX8_read 58 = .ok (.aload_n 0, 1) := by decide +kernel
theorem dX8_read_59 : decode cX8_read 59 = .ok (.getfield 46, 3) := by decide +kernel
theorem dX8_read_62 : decode cX8_read 62 = .ok (.iload_n 1, 1) := by decide +kernel
theorem dX8_read_63 : decode cX8_read 63 = .ok (.invokevirtual 300, 3) := by decide +kernel
theorem dX8_read_66 : decode cX8_read 66 = .ok (.aload_n 0, 1) := by decide +kernel
theorem dX8_read_67 : decode cX8_read 67 = .ok (.invokevirtual 273, 3) := by decide +kernel
theorem dX8_read_70 : decode cX8_read 70 = .ok (.aload_n 0, 1) := by decide +kernel
theorem dX8_read_71 : decode cX8_read 71 = .ok (.getfield 42, 3) := by decide +kernel
theorem dX8_read_74 : decode cX8_read 74 = .ok (.getfield 189, 3) := by decide +kernel
theorem dX8_read_77 : decode cX8_read 77 = .ok (.iload_n 1, 1) := by decide +kernel
theorem dX8_read_78 : decode cX8_read 78 = .ok (.iaload, 1) := by decide +kernel
theorem dX8_read_79 : decode cX8_read 79 = .ok (.ireturn, 1) := by decide +kernel
theorem dX8_pin_0 : decode cX8_pin 0 = .ok (.aload_n 0, 1) := by decide +kernel
theorem dX8_pin_1 : decode cX8_pin 1 = .ok (.iload_n 1, 1) := by decide +kernel
theorem dX8_pin_2 : decode cX8_pin 2 = .ok (.invokevirtual 151, 3) := by decide +kernel
theorem dX8_pin_5 : decode cX8_pin 5 = .ok (.aload_n 0, 1) := by decide +kernel
theorem dX8_pin_6 : decode cX8_pin 6 = .ok (.getfield 42, 3) := by decide +kernel
theorem dX8_pin_9 : decode cX8_pin 9 = .ok (.getfield 101, 3) := by decide +kernel
theorem dX8_pin_12 : decode cX8_pin 12 = .ok (.getfield 174, 3) := by decide +kernel
theorem dX8_pin_15 : decode cX8_pin 15 = .ok (.iload_n 1, 1) := by decide +kernel
theorem dX8_pin_16 : decode cX8_pin 16 = .ok (.baload, 1) := by decide +kernel
theorem dX8_pin_17 : decode cX8_pin 17 = .ok (.istore_n 3, 1) := by decide +kernel
theorem dX8_pin_18 : decode cX8_pin 18 = .ok (.aload_n 0, 1) := by decide +kernel
theorem dX8_pin_19 : decode cX8_pin 19 = .ok (.getfield 46, 3) := by decide +kernel
theorem dX8_pin_22 : decode cX8_pin 22 = .ok (.aload_n 0, 1) := by decide +kernel
theorem dX8_pin_23 : decode cX8_pin 23 = .ok (.getfield 42, 3) := by decide +kernel
theorem dX8_pin_26 : decode cX8_pin 26 = .ok (.invokevirtual 244, 3) := by decide +kernel
theorem dX8_pin_29 : decode cX8_pin 29 = .ok (.aload_n 0, 1) := by decide +kernel
theorem dX8_pin_30 : decode cX8_pin 30 = .ok (.getfield 46, 3) := by decide +kernel
theorem dX8_pin_33 : decode cX8_pin 33 = .ok (.getfield 101, 3) := by decide +kernel
theorem dX8_pin_36 : decode cX8_pin 36 = .ok (.getfield 174, 3) := by decide +kernel
theorem dX8_pin_39 : decode cX8_pin 39 = .ok (.iload_n 1, 1) := by decide +kernel
theorem dX8_pin_40 : decode cX8_pin 40 = .ok (.iload_n 2, 1) := by decide +kernel
theorem dX8_pin_41 : decode cX8_pin 41 = .ok (.bastore, 1) := by decide +kernel
theorem dX8_pin_42 : decode cX8_pin 42 = .ok (.aload_n 0, 1) := by decide +kernel
theorem dX8_pin_43 : decode cX8_pin 43 = .ok (.invokevirtual 273, 3) := by decide +kernel
theorem dX8_pin_46 : decode cX8_pin 46 = .ok (.iload_n 3, 1) := by decide +kernel
theorem dX8_pin_47 : decode cX8_pin 47 = .ok (.ireturn, 1) := by decide +kernel
theorem dX8_trim_0 : decode cX8_trim 0 = .ok (.iload_n 1, 1) := by decide +kernel
theorem dX8_trim_1 : decode cX8_trim 1 = .ok (.invokestatic 211, 3) := by decide +kernel
theorem dX8_trim_4 : decode cX8_trim 4 = .ok (.aload_n 0, 1) := by decide +kernel
theorem dX8_trim_5 : decode cX8_trim 5 = .ok (.getfield 42, 3) := by decide +kernel
theorem dX8_trim_8 : decode cX8_trim 8 = .ok (.invokevirtual 214, 3) := by decide +kernel
theorem dX8_trim_11 : decode cX8_trim 11 = .ok (.aload_n 0, 1) := by decide +kernel
theorem dX8_trim_12 : decode cX8_trim 12 = .ok (.getfield 33, 3) := by decide +kernel
theorem dX8_trim_15 : decode cX8_trim 15 = .ok (.iload_n 1, 1) := by decide +kernel
theorem dX8_trim_16 : decode cX8_trim 16 = .ok (.invokevirtual 217, 3) := by decide +kernel
theorem dX8_trim_19 : decode cX8_trim 19 = .ok (.istore_n 2, 1) := by decide +kernel
theorem dX8_trim_20 : decode cX8_trim 20 = .ok (.iload_n 2, 1) := by decide +kernel
theorem dX8_trim_21 : decode cX8_trim 21 = .ok (.iconst (-1), 1) := by decide +kernel
theorem dX8_trim_22 : decode cX8_trim 22 = .ok (.if_icmp .ne 14, 3) := by decide +kernel
theorem dX8_trim_25 : decode cX8_trim 25 = .ok (.new 268, 3) := by decide +kernel
theorem dX8_trim_28 : decode cX8_trim 28 = .ok (.dup, 1) := by decide +kernel
theorem dX8_trim_29 : decode cX8_trim 29 = .ok (.ldc_w 303, 3) := by decide +kernel
theorem dX8_trim_32 : decode cX8_trim 32 = .ok (.invokespecial 272, 3) := by decide +kernel
theorem dX8_trim_35 : decode cX8_trim 35 = .ok (.athrow, 1) := by decide +kernel
theorem dX8_trim_36 : decode cX8_trim 36 = .ok (.aload_n 0, 1) := by decide +kernel
theorem dX8_trim_37 : decode cX8_trim 37 = .ok (.getfield 46, 3) := by decide +kernel
theorem dX8_trim_40 : decode cX8_trim 40 = .ok (.aload_n 0, 1) := by decide +kernel
theorem dX8_trim_41 : decode cX8_trim 41 = .ok (.getfield 42, 3) := by decide +kernel
theorem dX8_trim_44 : decode cX8_trim 44 = .ok (.invokevirtual 244, 3) := by decide +kernel
theorem dX8_trim_47 : decode cX8_trim 47 = .ok (.aload_n 0, 1) := by decide +kernel
theorem dX8_trim_48 : decode cX8_trim 48 = .ok (.getfield 46, 3) := by decide +kernel
theorem dX8_trim_51 : decode cX8_trim 51 = .ok (.iload_n 1, 1) := by decide +kernel
theorem dX8_trim_52 : decode cX8_trim 52 = .ok (.iload_n 2, 1) := by decide +kernel
theorem dX8_trim_53 : decode cX8_trim 53 = .ok (.invokevirtual 305, 3) := by decide +kernel
theorem dX8_trim_56 : decode cX8_trim 56 = .ok (.aload_n 0, 1) := by decide +kernel
theorem dX8_trim_57 : decode cX8_trim 57 = .ok (.getfield 46, 3) := by decide +kernel
theorem dX8_trim_60 : decode cX8_trim 60 = .ok (.getfield 101, 3) := by decide +kernel
theorem dX8_trim_63 : decode cX8_trim 63 = .ok (.invokevirtual 308, 3) := by decide +kernel
theorem dX8_trim_66 : decode cX8_trim 66 = .ok (.ifCond .eq 14, 3) := by decide +kernel
theorem dX8_trim_69 : decode cX8_trim 69 = .ok (.new 268, 3) := by decide +kernel
theorem dX8_trim_72 : decode cX8_trim 72 = .ok (.dup, 1) := by decide +kernel
theorem dX8_trim_73 : decode cX8_trim 73 = .ok (.ldc_w 270, 3) := by decide +kernel
theorem dX8_trim_76 : decode cX8_trim 76 = .ok (.invokespecial 272, 3) := by decide +kernel
theorem dX8_trim_79 : decode cX8_trim 79 = .ok (.athrow, 1) := by decide +kernel
theorem dX8_trim_80 : decode cX8_trim 80 = .ok (.aload_n 0, 1) := by decide +kernel
theorem dX8_trim_81 : decode cX8_trim 81 = .ok (.invokevirtual 273, 3) := by decide +kernel
theorem dX8_trim_84 : decode cX8_trim 84 = .ok (.iload_n 2, 1) := by decide +kernel
theorem dX8_trim_85 : decode cX8_trim 85 = .ok (.ireturn, 1) := by decide +kernel
theorem dX8_close_0 : decode cX8_close 0 = .ok (.aload_n 0, 1) := by decide +kernel
theorem dX8_close_1 : decode cX8_close 1 = .ok (.iload_n 1, 1) := by decide +kernel
theorem dX8_close_2 : decode cX8_close 2 = .ok (.invokevirtual 151, 3) := by decide +kernel
theorem dX8_close_5 : decode cX8_close 5 = .ok (.aload_n 0, 1) := by decide +kernel
theorem dX8_close_6 : decode cX8_close 6 = .ok (.getfield 42, 3) := by decide +kernel
theorem dX8_close_9 : decode cX8_close 9 = .ok (.getfield 101, 3) := by decide +kernel
theorem dX8_close_12 : decode cX8_close 12 = .ok (.getfield 154, 3) := by decide +kernel
theorem dX8_close_15 : decode cX8_close 15 = .ok (.iload_n 1, 1) := by decide +kernel
theorem dX8_close_16 : decode cX8_close 16 = .ok (.iaload, 1) := by decide +kernel
theorem dX8_close_17 : decode cX8_close 17 = .ok (.ifCond .ne 14, 3) := by decide +kernel
theorem dX8_close_20 : decode cX8_close 20 = .ok (.new 268, 3) := by decide +kernel
theorem dX8_close_23 : decode cX8_close 23 = .ok (.dup, 1) := by decide +kernel
theorem dX8_close_24 : decode cX8_close 24 = .ok (.ldc_w 312, 3) := by decide +kernel
theorem dX8_close_27 : decode cX8_close 27 = .ok (.invokespecial 272, 3) := by decide +kernel
theorem dX8_close_30 : decode cX8_close 30 = .ok (.athrow, 1) := by decide +kernel
theorem dX8_close_31 : decode cX8_close 31 = .ok (.aload_n 0, 1) := by decide +kernel
theorem dX8_close_32 : decode cX8_close 32 = .ok (.getfield 42, 3) := by decide +kernel
theorem dX8_close_35 : decode cX8_close 35 = .ok (.getfield 101, 3) := by decide +kernel
theorem dX8_close_38 : decode cX8_close 38 = .ok (.iload_n 1, 1) := by decide +kernel
theorem dX8_close_39 : decode cX8_close 39 = .ok (.invokevirtual 164, 3) := by decide +kernel
theorem dX8_close_42 : decode cX8_close 42 = .ok (.istore_n 2, 1) := by decide +kernel
theorem dX8_close_43 : decode cX8_close 43 = .ok (.aload_n 0, 1) := by decide +kernel
theorem dX8_close_44 : decode cX8_close 44 = .ok (.getfield 46, 3) := by decide +kernel
theorem dX8_close_47 : decode cX8_close 47 = .ok (.aload_n 0, 1) := by decide +kernel
theorem dX8_close_48 : decode cX8_close 48 = .ok (.getfield 42, 3) := by decide +kernel
theorem dX8_close_51 : decode cX8_close 51 = .ok (.invokevirtual 244, 3) := by decide +kernel
theorem dX8_close_54 : decode cX8_close 54 = .ok (.aload_n 0, 1) := by decide +kernel
theorem dX8_close_55 : decode cX8_close 55 = .ok (.getfield 46, 3) := by decide +kernel
theorem dX8_close_58 : decode cX8_close 58 = .ok (.iload_n 1, 1) := by decide +kernel
theorem dX8_close_59 : decode cX8_close 59 = .ok (.invokevirtual 314, 3) := by decide +kernel
theorem dX8_close_62 : decode cX8_close 62 = .ok (.aload_n 0, 1) := by decide +kernel
theorem dX8_close_63 : decode cX8_close 63 = .ok (.invokevirtual 273, 3) := by decide +kernel
theorem dX8_close_66 : decode cX8_close 66 = .ok (.iload_n 2, 1) := by decide +kernel
theorem dX8_close_67 : decode cX8_close 67 = .ok (.ireturn, 1) := by decide +kernel
theorem dX8_setLimit_0 : decode cX8_setLimit 0 = .ok (.iload_n 1, 1) := by decide +kernel
theorem dX8_setLimit_1 : decode cX8_setLimit 1 = .ok (.bipush 50, 2) := by decide +kernel
theorem dX8_setLimit_3 : decode cX8_setLimit 3 = .ok (.if_icmp .lt 10, 3) := by decide +kernel
theorem dX8_setLimit_6 : decode cX8_setLimit 6 = .ok (.iload_n 1, 1) := by decide +kernel
theorem dX8_setLimit_7 : decode cX8_setLimit 7 = .ok (.sipush 2000, 3) := by decide +kernel
theorem dX8_setLimit_10 : decode cX8_setLimit 10 = .ok (.if_icmp .le 14, 3) := by decide +kernel
theorem dX8_setLimit_13 : decode cX8_setLimit 13 = .ok (.new 74, 3) := by decide +kernel
theorem dX8_setLimit_16 : decode cX8_setLimit 16 = .ok (.dup, 1) := by decide +kernel
theorem dX8_setLimit_17 : decode cX8_setLimit 17 = .ok (.ldc_w 317, 3) := by decide +kernel
theorem dX8_setLimit_20 : decode cX8_setLimit 20 = .ok (.invokespecial 78, 3) := by decide +kernel
theorem dX8_setLimit_23 : decode cX8_setLimit 23 = .ok (.athrow, 1) := by decide +kernel
theorem dX8_setLimit_24 : decode cX8_setLimit 24 = .ok (.aload_n 0, 1) := by decide +kernel
theorem dX8_setLimit_25 : decode cX8_setLimit 25 = .ok (.getfield 42, 3) := by decide +kernel
theorem dX8_setLimit_28 : decode cX8_setLimit 28 = .ok (.getfield 232, 3) := by decide +kernel
theorem dX8_setLimit_31 : decode cX8_setLimit 31 = .ok (.invokevirtual 236, 3) := by decide +kernel
theorem dX8_setLimit_34 : decode cX8_setLimit 34 = .ok (.istore_n 2, 1) := by decide +kernel
theorem dX8_setLimit_35 : decode cX8_setLimit 35 = .ok (.aload_n 0, 1) := by decide +kernel
theorem dX8_setLimit_36 : decode cX8_setLimit 36 = .ok (.getfield 46, 3) := by decide +kernel
theorem dX8_setLimit_39 : decode cX8_setLimit 39 = .ok (.aload_n 0, 1) := by decide +kernel
theorem dX8_setLimit_40 : decode cX8_setLimit 40 = .ok (.getfield 42, 3) := by decide +kernel
theorem dX8_setLimit_43 : decode cX8_setLimit 43 = .ok (.invokevirtual 244, 3) := by decide +kernel
theorem dX8_setLimit_46 : decode cX8_setLimit 46 = .ok (.aload_n 0, 1) := by decide +kernel
theorem dX8_setLimit_47 : decode cX8_setLimit 47 = .ok (.getfield 46, 3) := by decide +kernel
theorem dX8_setLimit_50 : decode cX8_setLimit 50 = .ok (.getfield 101, 3) := by decide +kernel
theorem dX8_setLimit_53 : decode cX8_setLimit 53 = .ok (.iload_n 1, 1) := by decide +kernel
theorem dX8_setLimit_54 : decode cX8_setLimit 54 = .ok (.putfield 105, 3) := by decide +kernel
theorem dX8_setLimit_57 : decode cX8_setLimit 57 = .ok (.aload_n 0, 1) := by decide +kernel
theorem dX8_setLimit_58 : decode cX8_setLimit 58 = .ok (.getfield 46, 3) := by decide +kernel
theorem dX8_setLimit_61 : decode cX8_setLimit 61 = .ok (.invokevirtual 319, 3) := by decide +kernel
theorem dX8_setLimit_64 : decode cX8_setLimit 64 = .ok (.ifCond .ne 14, 3) := by decide +kernel
theorem dX8_setLimit_67 : decode cX8_setLimit 67 = .ok (.new 268, 3) := by decide +kernel
theorem dX8_setLimit_70 : decode cX8_setLimit 70 = .ok (.dup, 1) := by decide +kernel
theorem dX8_setLimit_71 : decode cX8_setLimit 71 = .ok (.ldc_w 270, 3) := by decide +kernel
theorem dX8_setLimit_74 : decode cX8_setLimit 74 = .ok (.invokespecial 272, 3) := by decide +kernel
theorem dX8_setLimit_77 : decode cX8_setLimit 77 = .ok (.athrow, 1) := by decide +kernel
theorem dX8_setLimit_78 : decode cX8_setLimit 78 = .ok (.aload_n 0, 1) := by decide +kernel
theorem dX8_setLimit_79 : decode cX8_setLimit 79 = .ok (.invokevirtual 273, 3) := by decide +kernel
theorem dX8_setLimit_82 : decode cX8_setLimit 82 = .ok (.aload_n 0, 1) := by decide +kernel
theorem dX8_setLimit_83 : decode cX8_setLimit 83 = .ok (.getfield 42, 3) := by decide +kernel
theorem dX8_setLimit_86 : decode cX8_setLimit 86 = .ok (.getfield 232, 3) := by decide +kernel
theorem dX8_setLimit_89 : decode cX8_setLimit 89 = .ok (.invokevirtual 236, 3) := by decide +kernel
theorem dX8_setLimit_92 : decode cX8_setLimit 92 = .ok (.iload_n 2, 1) := by decide +kernel
theorem dX8_setLimit_93 : decode cX8_setLimit 93 = .ok (.isub, 1) := by decide +kernel
theorem dX8_setLimit_94 : decode cX8_setLimit 94 = .ok (.ireturn, 1) := by decide +kernel
theorem dX8_checkPolicy_0 : decode cX8_checkPolicy 0 = .ok (.iload_n 0, 1) := by decide +kernel
theorem dX8_checkPolicy_1 : decode cX8_checkPolicy 1 = .ok (.ifCond .lt 8, 3) := by decide +kernel
theorem dX8_checkPolicy_4 : decode cX8_checkPolicy 4 = .ok (.iload_n 0, 1) := by decide +kernel
theorem dX8_checkPolicy_5 : decode cX8_checkPolicy 5 = .ok (.iconst 2, 1) := by decide +kernel
theorem dX8_checkPolicy_6 : decode cX8_checkPolicy 6 = .ok (.if_icmp .le 14, 3) := by decide +kernel
theorem dX8_checkPolicy_9 : decode cX8_checkPolicy 9 = .ok (.new 74, 3) := by decide +kernel
theorem dX8_checkPolicy_12 : decode cX8_checkPolicy 12 = .ok (.dup, 1) := by decide +kernel
theorem dX8_checkPolicy_13 : decode cX8_checkPolicy 13 = .ok (.ldc_w 322, 3) := by decide +kernel
theorem dX8_checkPolicy_16 : decode cX8_checkPolicy 16 = .ok (.invokespecial 78, 3) := by decide +kernel
theorem dX8_checkPolicy_19 : decode cX8_checkPolicy 19 = .ok (.athrow, 1) := by decide +kernel
theorem dX8_checkPolicy_20 : decode cX8_checkPolicy 20 = .ok (.return_, 1) := by decide +kernel
theorem dX8_setPolicy_0 : decode cX8_setPolicy 0 = .ok (.iload_n 1, 1) := by decide +kernel
theorem dX8_setPolicy_1 : decode cX8_setPolicy 1 = .ok (.invokestatic 241, 3) := by decide +kernel
theorem dX8_setPolicy_4 : decode cX8_setPolicy 4 = .ok (.aload_n 0, 1) := by decide +kernel
theorem dX8_setPolicy_5 : decode cX8_setPolicy 5 = .ok (.getfield 42, 3) := by decide +kernel
theorem dX8_setPolicy_8 : decode cX8_setPolicy 8 = .ok (.getfield 129, 3) := by decide +kernel
theorem dX8_setPolicy_11 : decode cX8_setPolicy 11 = .ok (.istore_n 2, 1) := by decide +kernel
theorem dX8_setPolicy_12 : decode cX8_setPolicy 12 = .ok (.aload_n 0, 1) := by decide +kernel
theorem dX8_setPolicy_13 : decode cX8_setPolicy 13 = .ok (.getfield 46, 3) := by decide +kernel
theorem dX8_setPolicy_16 : decode cX8_setPolicy 16 = .ok (.aload_n 0, 1) := by decide +kernel
theorem dX8_setPolicy_17 : decode cX8_setPolicy 17 = .ok (.getfield 42, 3) := by decide +kernel
theorem dX8_setPolicy_20 : decode cX8_setPolicy 20 = .ok (.invokevirtual 244, 3) := by decide +kernel
theorem dX8_setPolicy_23 : decode cX8_setPolicy 23 = .ok (.aload_n 0, 1) := by decide +kernel
theorem dX8_setPolicy_24 : decode cX8_setPolicy 24 = .ok (.getfield 46, 3) := by decide +kernel
theorem dX8_setPolicy_27 : decode cX8_setPolicy 27 = .ok (.iload_n 1, 1) := by decide +kernel
theorem dX8_setPolicy_28 : decode cX8_setPolicy 28 = .ok (.putfield 129, 3) := by decide +kernel
theorem dX8_setPolicy_31 : decode cX8_setPolicy 31 = .ok (.aload_n 0, 1) := by decide +kernel
theorem dX8_setPolicy_32 : decode cX8_setPolicy 32 = .ok (.invokevirtual 273, 3) := by decide +kernel
theorem dX8_setPolicy_35 : decode cX8_setPolicy 35 = .ok (.iload_n 2, 1) := by decide +kernel
theorem dX8_setPolicy_36 : decode cX8_setPolicy 36 = .ok (.ireturn, 1) := by decide +kernel
theorem dX8_undo_0 : decode cX8_undo 0 = .ok (.aload_n 0, 1) := by decide +kernel
theorem dX8_undo_1 : decode cX8_undo 1 = .ok (.getfield 55, 3) := by decide +kernel
theorem dX8_undo_4 : decode cX8_undo 4 = .ok (.getfield 135, 3) := by decide +kernel
theorem dX8_undo_7 : decode cX8_undo 7 = .ok (.iconst 1, 1) := by decide +kernel
theorem dX8_undo_8 : decode cX8_undo 8 = .ok (.if_icmp .ge 5, 3) := by decide +kernel
theorem dX8_undo_11 : decode cX8_undo 11 = .ok (.iconst (-1), 1) := by decide +kernel
theorem dX8_undo_12 : decode cX8_undo 12 = .ok (.ireturn, 1) := by decide +kernel
theorem dX8_undo_13 : decode cX8_undo 13 = .ok (.aload_n 0, 1) := by decide +kernel
theorem dX8_undo_14 : decode cX8_undo 14 = .ok (.aload_n 0, 1) := by decide +kernel
theorem dX8_undo_15 : decode cX8_undo 15 = .ok (.getfield 55, 3) := by decide +kernel
theorem dX8_undo_18 : decode cX8_undo 18 = .ok (.aload_n 0, 1) := by decide +kernel
theorem dX8_undo_19 : decode cX8_undo 19 = .ok (.getfield 42, 3) := by decide +kernel
theorem dX8_undo_22 : decode cX8_undo 22 = .ok (.invokevirtual 324, 3) := by decide +kernel
theorem dX8_undo_25 : decode cX8_undo 25 = .ok (.putfield 42, 3) := by decide +kernel
theorem dX8_undo_28 : decode cX8_undo 28 = .ok (.aload_n 0, 1) := by decide +kernel
theorem dX8_undo_29 : decode cX8_undo 29 = .ok (.getfield 55, 3) := by decide +kernel
theorem dX8_undo_32 : decode cX8_undo 32 = .ok (.getfield 135, 3) := by decide +kernel
theorem dX8_undo_35 : decode cX8_undo 35 = .ok (.ireturn, 1) := by decide +kernel
theorem dX8_checkSlot_0 : decode cX8_checkSlot 0 = .ok (.iload_n 0, 1) := by decide +kernel
theorem dX8_checkSlot_1 : decode cX8_checkSlot 1 = .ok (.ifCond .lt 8, 3) := by decide +kernel
theorem dX8_checkSlot_4 : decode cX8_checkSlot 4 = .ok (.iload_n 0, 1) := by decide +kernel
theorem dX8_checkSlot_5 : decode cX8_checkSlot 5 = .ok (.iconst 2, 1) := by decide +kernel
theorem dX8_checkSlot_6 : decode cX8_checkSlot 6 = .ok (.if_icmp .lt 14, 3) := by decide +kernel
theorem dX8_checkSlot_9 : decode cX8_checkSlot 9 = .ok (.new 146, 3) := by decide +kernel
theorem dX8_checkSlot_12 : decode cX8_checkSlot 12 = .ok (.dup, 1) := by decide +kernel
theorem dX8_checkSlot_13 : decode cX8_checkSlot 13 = .ok (.ldc_w 327, 3) := by decide +kernel
theorem dX8_checkSlot_16 : decode cX8_checkSlot 16 = .ok (.invokespecial 150, 3) := by decide +kernel
theorem dX8_checkSlot_19 : decode cX8_checkSlot 19 = .ok (.athrow, 1) := by decide +kernel
theorem dX8_checkSlot_20 : decode cX8_checkSlot 20 = .ok (.return_, 1) := by decide +kernel
theorem dX8_saveSnapshot_0 : decode cX8_saveSnapshot 0 = .ok (.iload_n 1, 1) := by decide +kernel
theorem dX8_saveSnapshot_1 : decode cX8_saveSnapshot 1 = .ok (.invokestatic 329, 3) := by decide +kernel
theorem dX8_saveSnapshot_4 : decode cX8_saveSnapshot 4 = .ok (.aload_n 0, 1) := by decide +kernel
theorem dX8_saveSnapshot_5 : decode cX8_saveSnapshot 5 = .ok (.getfield 63, 3) := by decide +kernel
theorem dX8_saveSnapshot_8 : decode cX8_saveSnapshot 8 = .ok (.iload_n 1, 1) := by decide +kernel
theorem dX8_saveSnapshot_9 : decode cX8_saveSnapshot 9 = .ok (.baload, 1) := by decide +kernel
theorem dX8_saveSnapshot_10 : decode cX8_saveSnapshot 10 = .ok (.istore_n 2, 1) := by decide +kernel
theorem dX8_saveSnapshot_11 : decode cX8_saveSnapshot 11 = .ok (.aload_n 0, 1) := by decide +kernel
theorem dX8_saveSnapshot_12 : decode cX8_saveSnapshot 12 = .ok (.getfield 59, 3) := by decide +kernel
theorem dX8_saveSnapshot_15 : decode cX8_saveSnapshot 15 = .ok (.iload_n 1, 1) := by decide +kernel
theorem dX8_saveSnapshot_16 : decode cX8_saveSnapshot 16 = .ok (.aaload, 1) := by decide +kernel
theorem dX8_saveSnapshot_17 : decode cX8_saveSnapshot 17 = .ok (.aload_n 0, 1) := by decide +kernel
theorem dX8_saveSnapshot_18 : decode cX8_saveSnapshot 18 = .ok (.getfield 42, 3) := by decide +kernel
theorem dX8_saveSnapshot_21 : decode cX8_saveSnapshot 21 = .ok (.invokevirtual 244, 3) := by decide +kernel
theorem dX8_saveSnapshot_24 : decode cX8_saveSnapshot 24 = .ok (.aload_n 0, 1) := by decide +kernel
theorem dX8_saveSnapshot_25 : decode cX8_saveSnapshot 25 = .ok (.getfield 63, 3) := by decide +kernel
theorem dX8_saveSnapshot_28 : decode cX8_saveSnapshot 28 = .ok (.iload_n 1, 1) := by decide +kernel
theorem dX8_saveSnapshot_29 : decode cX8_saveSnapshot 29 = .ok (.iconst 1, 1) := by decide +kernel
theorem dX8_saveSnapshot_30 : decode cX8_saveSnapshot 30 = .ok (.bastore, 1) := by decide +kernel
theorem dX8_saveSnapshot_31 : decode cX8_saveSnapshot 31 = .ok (.iload_n 2, 1) := by decide +kernel
theorem dX8_saveSnapshot_32 : decode cX8_saveSnapshot 32 = .ok (.ireturn, 1) := by decide +kernel
theorem dX8_restoreSnapshot_0 : decode cX8_restoreSnapshot 0 = .ok (.iload_n 1, 1) := by decide +kernel
theorem dX8_restoreSnapshot_1 : decode cX8_restoreSnapshot 1 = .ok (.invokestatic 329, 3) := by decide +kernel
theorem dX8_restoreSnapshot_4 : decode cX8_restoreSnapshot 4 = .ok (.aload_n 0, 1) := by decide +kernel
theorem dX8_restoreSnapshot_5 : decode cX8_restoreSnapshot 5 = .ok (.getfield 63, 3) := by decide +kernel
theorem dX8_restoreSnapshot_8 : decode cX8_restoreSnapshot 8 = .ok (.iload_n 1, 1) := by decide +kernel
theorem dX8_restoreSnapshot_9 : decode cX8_restoreSnapshot 9 = .ok (.baload, 1) := by decide +kernel
theorem dX8_restoreSnapshot_10 : decode cX8_restoreSnapshot 10 = .ok (.ifCond .ne 14, 3) := by decide +kernel
theorem dX8_restoreSnapshot_13 : decode cX8_restoreSnapshot 13 = .ok (.new 268, 3) := by decide +kernel
theorem dX8_restoreSnapshot_16 : decode cX8_restoreSnapshot 16 = .ok (.dup, 1) := by decide +kernel
theorem dX8_restoreSnapshot_17 : decode cX8_restoreSnapshot 17 = .ok (.ldc_w 332, 3) := by decide +kernel
theorem dX8_restoreSnapshot_20 : decode cX8_restoreSnapshot 20 = .ok (.invokespecial 272, 3) := by decide +kernel
theorem dX8_restoreSnapshot_23 : decode cX8_restoreSnapshot 23 = .ok (.athrow, 1) := by decide +kernel
theorem dX8_restoreSnapshot_24 : decode cX8_restoreSnapshot 24 = .ok (.aload_n 0, 1) := by decide +kernel
theorem dX8_restoreSnapshot_25 : decode cX8_restoreSnapshot 25 = .ok (.getfield 42, 3) := by decide +kernel
theorem dX8_restoreSnapshot_28 : decode cX8_restoreSnapshot 28 = .ok (.aload_n 0, 1) := by decide +kernel
theorem dX8_restoreSnapshot_29 : decode cX8_restoreSnapshot 29 = .ok (.getfield 59, 3) := by decide +kernel
theorem dX8_restoreSnapshot_32 : decode cX8_restoreSnapshot 32 = .ok (.iload_n 1, 1) := by decide +kernel
theorem dX8_restoreSnapshot_33 : decode cX8_restoreSnapshot 33 = .ok (.aaload, 1) := by decide +kernel
theorem dX8_restoreSnapshot_34 : decode cX8_restoreSnapshot 34 = .ok (.invokevirtual 244, 3) := by decide +kernel
theorem dX8_restoreSnapshot_37 : decode cX8_restoreSnapshot 37 = .ok (.aload_n 0, 1) := by decide +kernel
theorem dX8_restoreSnapshot_38 : decode cX8_restoreSnapshot 38 = .ok (.getfield 55, 3) := by decide +kernel
theorem dX8_restoreSnapshot_41 : decode cX8_restoreSnapshot 41 = .ok (.invokevirtual 95, 3) := by decide +kernel
theorem dX8_restoreSnapshot_44 : decode cX8_restoreSnapshot 44 = .ok (.aload_n 0, 1) := by decide +kernel
theorem dX8_restoreSnapshot_45 : decode cX8_restoreSnapshot 45 = .ok (.getfield 42, 3) := by decide +kernel
theorem dX8_restoreSnapshot_48 : decode cX8_restoreSnapshot 48 = .ok (.getfield 114, 3) := by decide +kernel
theorem dX8_restoreSnapshot_51 : decode cX8_restoreSnapshot 51 = .ok (.ireturn, 1) := by decide +kernel
theorem dJ7_fill_53178_0 : decode cJ7_fill_53178 0 = .ok (.iconst 0, 1) := by decide +kernel
theorem dJ7_fill_53178_1 : decode cJ7_fill_53178 1 = .ok (.istore_n 2, 1) := by decide +kernel
theorem dJ7_fill_53178_2 : decode cJ7_fill_53178 2 = .ok (.aload_n 0, 1) := by decide +kernel
theorem dJ7_fill_53178_3 : decode cJ7_fill_53178 3 = .ok (.arraylength, 1) := by decide +kernel
theorem dJ7_fill_53178_4 : decode cJ7_fill_53178 4 = .ok (.istore_n 3, 1) := by decide +kernel
theorem dJ7_fill_53178_5 : decode cJ7_fill_53178 5 = .ok (.iload_n 2, 1) := by decide +kernel
theorem dJ7_fill_53178_6 : decode cJ7_fill_53178 6 = .ok (.iload_n 3, 1) := by decide +kernel
theorem dJ7_fill_53178_7 : decode cJ7_fill_53178 7 = .ok (.if_icmp .ge 13, 3) := by decide +kernel
theorem dJ7_fill_53178_10 : decode cJ7_fill_53178 10 = .ok (.aload_n 0, 1) := by decide +kernel
theorem dJ7_fill_53178_11 : decode cJ7_fill_53178 11 = .ok (.iload_n 2, 1) := by decide +kernel
theorem dJ7_fill_53178_12 : decode cJ7_fill_53178 12 = .ok (.iload_n 1, 1) := by decide +kernel
theorem dJ7_fill_53178_13 : decode cJ7_fill_53178 13 = .ok (.iastore, 1) := by decide +kernel
theorem dJ7_fill_53178_14 : decode cJ7_fill_53178 14 = .ok (.iinc 2 1, 3) := by decide +kernel
theorem dJ7_fill_53178_17 : decode cJ7_fill_53178 17 = .ok (.goto (-12), 3) := by decide +kernel
theorem dJ7_fill_53178_20 : decode cJ7_fill_53178 20 = .ok (.return_, 1) := by decide +kernel
