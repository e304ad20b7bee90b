theorem dX6_init_0 : decode cX6_init 0 = .ok (.aload_n 0, 1) := by decide +kernel
theorem dX6_init_1 : decode cX6_init 1 = .ok (.invokespecial 3, 3) := by decide +kernel
theorem dX6_init_4 : decode cX6_init 4 = .ok (.aload_n 0, 1) := by decide +kernel
theorem dX6_init_5 : decode cX6_init 5 = .ok (.bipush 10, 2) := by decide +kernel
theorem dX6_init_7 : decode cX6_init 7 = .ok (.newarray .int, 2) := by decide +kernel
theorem dX6_init_9 : decode cX6_init 9 = .ok (.putfield 9, 3) := by decide +kernel
theorem dX6_init_12 : decode cX6_init 12 = .ok (.aload_n 0, 1) := by decide +kernel
theorem dX6_init_13 : decode cX6_init 13 = .ok (.bipush 10, 2) := by decide +kernel
theorem dX6_init_15 : decode cX6_init 15 = .ok (.newarray .int, 2) := by decide +kernel
theorem dX6_init_17 : decode cX6_init 17 = .ok (.putfield 15, 3) := by decide +kernel
theorem dX6_init_20 : decode cX6_init 20 = .ok (.aload_n 0, 1) := by decide +kernel
theorem dX6_init_21 : decode cX6_init 21 = .ok (.bipush 10, 2) := by decide +kernel
theorem dX6_init_23 : decode cX6_init 23 = .ok (.newarray .int, 2) := by decide +kernel
theorem dX6_init_25 : decode cX6_init 25 = .ok (.putfield 18, 3) := by decide +kernel
theorem dX6_init_28 : decode cX6_init 28 = .ok (.aload_n 0, 1) := by decide +kernel
theorem dX6_init_29 : decode cX6_init 29 = .ok (.bipush 10, 2) := by decide +kernel
theorem dX6_init_31 : decode cX6_init 31 = .ok (.newarray .boolean, 2) := by decide +kernel
theorem dX6_init_33 : decode cX6_init 33 = .ok (.putfield 21, 3) := by decide +kernel
theorem dX6_init_36 : decode cX6_init 36 = .ok (.aload_n 0, 1) := by decide +kernel
theorem dX6_init_37 : decode cX6_init 37 = .ok (.aload_n 1, 1) := by decide +kernel
theorem dX6_init_38 : decode cX6_init 38 = .ok (.invokevirtual 25, 3) := by decide +kernel
theorem dX6_init_41 : decode cX6_init 41 = .ok (.return_, 1) := by decide +kernel
theorem dX6_begin_0 : decode cX6_begin 0 = .ok (.aload_n 0, 1) := by decide +kernel
theorem dX6_begin_1 : decode cX6_begin 1 = .ok (.aload_n 1, 1) := by decide +kernel
theorem dX6_begin_2 : decode cX6_begin 2 = .ok (.putfield 29, 3) := by decide +kernel
theorem dX6_begin_5 : decode cX6_begin 5 = .ok (.aload_n 0, 1) := by decide +kernel
theorem dX6_begin_6 : decode cX6_begin 6 = .ok (.aload_n 1, 1) := by decide +kernel
theorem dX6_begin_7 : decode cX6_begin 7 = .ok (.getfield 33, 3) := by decide +kernel
theorem dX6_begin_10 : decode cX6_begin 10 = .ok (.putfield 39, 3) := by decide +kernel
theorem dX6_begin_13 : decode cX6_begin 13 = .ok (.aload_n 0, 1) := by decide +kernel
theorem dX6_begin_14 : decode cX6_begin 14 = .ok (.getfield 9, 3) := by decide +kernel
theorem dX6_begin_17 : decode cX6_begin 17 = .ok (.iconst 0, 1) := by decide +kernel
theorem dX6_begin_18 : decode cX6_begin 18 = .ok (.invokestatic 40, 3) := by decide +kernel
theorem dX6_begin_21 : decode cX6_begin 21 = .ok (.aload_n 0, 1) := by decide +kernel
theorem dX6_begin_22 : decode cX6_begin 22 = .ok (.getfield 15, 3) := by decide +kernel
theorem dX6_begin_25 : decode cX6_begin 25 = .ok (.iconst 0, 1) := by decide +kernel
theorem dX6_begin_26 : decode cX6_begin 26 = .ok (.invokestatic 40, 3) := by decide +kernel
theorem dX6_begin_29 : decode cX6_begin 29 = .ok (.aload_n 0, 1) := by decide +kernel
theorem dX6_begin_30 : decode cX6_begin 30 = .ok (.getfield 18, 3) := by decide +kernel
theorem dX6_begin_33 : decode cX6_begin 33 = .ok (.iconst 0, 1) := by decide +kernel
theorem dX6_begin_34 : decode cX6_begin 34 = .ok (.invokestatic 40, 3) := by decide +kernel
theorem dX6_begin_37 : decode cX6_begin 37 = .ok (.iconst 0, 1) := by decide +kernel
theorem dX6_begin_38 : decode cX6_begin 38 = .ok (.istore_n 2, 1) := by decide +kernel
theorem dX6_begin_39 : decode cX6_begin 39 = .ok (.iload_n 2, 1) := by decide +kernel
theorem dX6_begin_40 : decode cX6_begin 40 = .ok (.bipush 10, 2) := by decide +kernel
theorem dX6_begin_42 : decode cX6_begin 42 = .ok (.if_icmp .ge 16, 3) := by decide +kernel
theorem dX6_begin_45 : decode cX6_begin 45 = .ok (.aload_n 0, 1) := by decide +kernel
theorem dX6_begin_46 : decode cX6_begin 46 = .ok (.getfield 21, 3) := by decide +kernel
theorem dX6_begin_49 : decode cX6_begin 49 = .ok (.iload_n 2, 1) := by decide +kernel
theorem dX6_begin_50 : decode cX6_begin 50 = .ok (.iconst 0, 1) := by decide +kernel
theorem dX6_begin_51 : decode cX6_begin 51 = .ok (.bastore, 1) := by decide +kernel
theorem dX6_begin_52 : decode cX6_begin 52 = .ok (.iinc 2 1, 3) := by decide +kernel
theorem dX6_begin_55 : decode cX6_begin 55 = .ok (.goto (-16), 3) := by decide +kernel
theorem dX6_begin_58 : decode cX6_begin 58 = .ok (.return_, 1) := by decide +kernel
theorem dX6_copyFrom_0 : decode cX6_copyFrom 0 = .ok (.aload_n 0, 1) := by decide +kernel
theorem dX6_copyFrom_1 : decode cX6_copyFrom 1 = .ok (.aload_n 1, 1) := by decide +kernel
theorem dX6_copyFrom_2 : decode cX6_copyFrom 2 = .ok (.getfield 29, 3) := by decide +kernel
theorem dX6_copyFrom_5 : decode cX6_copyFrom 5 = .ok (.putfield 29, 3) := by decide +kernel
theorem dX6_copyFrom_8 : decode cX6_copyFrom 8 = .ok (.aload_n 0, 1) := by decide +kernel
theorem dX6_copyFrom_9 : decode cX6_copyFrom 9 = .ok (.aload_n 1, 1) := by decide +kernel
theorem dX6_copyFrom_10 : decode cX6_copyFrom 10 = .ok (.getfield 39, 3) := by decide +kernel
theorem dX6_copyFrom_13 : decode cX6_copyFrom 13 = .ok (.putfield 39, 3) := by decide +kernel
theorem dX6_copyFrom_16 : decode cX6_copyFrom 16 = .ok (.aload_n 1, 1) := by decide +kernel
theorem dX6_copyFrom_17 : decode cX6_copyFrom 17 = .ok (.getfield 9, 3) := by decide +kernel
theorem dX6_copyFrom_20 : decode cX6_copyFrom 20 = .ok (.iconst 0, 1) := by decide +kernel
theorem dX6_copyFrom_21 : decode cX6_copyFrom 21 = .ok (.aload_n 0, 1) := by decide +kernel
theorem dX6_copyFrom_22 : decode cX6_copyFrom 22 = .ok (.getfield 9, 3) := by decide +kernel
theorem dX6_copyFrom_25 : decode cX6_copyFrom 25 = .ok (.iconst 0, 1) := by decide +kernel
theorem dX6_copyFrom_26 : decode cX6_copyFrom 26 = .ok (.bipush 10, 2) := by decide +kernel
theorem dX6_copyFrom_28 : decode cX6_copyFrom 28 = .ok (.invokestatic 46, 3) := by decide +kernel
theorem dX6_copyFrom_31 : decode cX6_copyFrom 31 = .ok (.aload_n 1, 1) := by decide +kernel
theorem dX6_copyFrom_32 : decode cX6_copyFrom 32 = .ok (.getfield 15, 3) := by decide +kernel
theorem dX6_copyFrom_35 : decode cX6_copyFrom 35 = .ok (.iconst 0, 1) := by decide +kernel
theorem dX6_copyFrom_36 : decode cX6_copyFrom 36 = .ok (.aload_n 0, 1) := by decide +kernel
theorem dX6_copyFrom_37 : decode cX6_copyFrom 37 = .ok (.getfield 15, 3) := by decide +kernel
theorem dX6_copyFrom_40 : decode cX6_copyFrom 40 = .ok (.iconst 0, 1) := by decide +kernel
theorem dX6_copyFrom_41 : decode cX6_copyFrom 41 = .ok (.bipush 10, 2) := by decide +kernel
theorem dX6_copyFrom_43 : decode cX6_copyFrom 43 = .ok (.invokestatic 46, 3) := by decide +kernel
theorem dX6_copyFrom_46 : decode cX6_copyFrom 46 = .ok (.aload_n 1, 1) := by decide +kernel
theorem dX6_copyFrom_47 : decode cX6_copyFrom 47 = .ok (.getfield 18, 3) := by decide +kernel
theorem dX6_copyFrom_50 : decode cX6_copyFrom 50 = .ok (.iconst 0, 1) := by decide +kernel
theorem dX6_copyFrom_51 : decode cX6_copyFrom 51 = .ok (.aload_n 0, 1) := by decide +kernel
theorem dX6_copyFrom_52 : decode cX6_copyFrom 52 = .ok (.getfield 18, 3) := by decide +kernel
theorem dX6_copyFrom_55 : decode cX6_copyFrom 55 = .ok (.iconst 0, 1) := by decide +kernel
theorem dX6_copyFrom_56 : decode cX6_copyFrom 56 = .ok (.bipush 10, 2) := by decide +kernel
theorem dX6_copyFrom_58 : decode cX6_copyFrom 58 = .ok (.invokestatic 46, 3) := by decide +kernel
theorem dX6_copyFrom_61 : decode cX6_copyFrom 61 = .ok (.iconst 0, 1) := by decide +kernel
theorem dX6_copyFrom_62 : decode cX6_copyFrom 62 = .ok (.istore_n 2, 1) := by decide +kernel
theorem dX6_copyFrom_63 : decode cX6_copyFrom 63 = .ok (.iload_n 2, 1) := by decide +kernel
theorem dX6_copyFrom_64 : decode cX6_copyFrom 64 = .ok (.bipush 10, 2) := by decide +kernel
theorem dX6_copyFrom_66 : decode cX6_copyFrom 66 = .ok (.if_icmp .ge 21, 3) := by decide +kernel
theorem dX6_copyFrom_69 : decode cX6_copyFrom 69 = .ok (.aload_n 0, 1) := by decide +kernel
theorem dX6_copyFrom_70 : decode cX6_copyFrom 70 = .ok (.getfield 21, 3) := by decide +kernel
theorem dX6_copyFrom_73 : decode cX6_copyFrom 73 = .ok (.iload_n 2, 1) := by decide +kernel
theorem dX6_copyFrom_74 : decode cX6_copyFrom 74 = .ok (.aload_n 1, 1) := by decide +kernel
theorem dX6_copyFrom_75 : decode cX6_copyFrom 75 = .ok (.getfield 21, 3) := by decide +kernel
theorem dX6_copyFrom_78 : decode cX6_copyFrom 78 = .ok (.iload_n 2, 1) := by decide +kernel
theorem dX6_copyFrom_79 : decode cX6_copyFrom 79 = .ok (.baload, 1) := by decide +kernel
theorem dX6_copyFrom_80 : decode cX6_copyFrom 80 = .ok (.bastore, 1) := by decide +kernel
theorem dX6_copyFrom_81 : decode cX6_copyFrom 81 = .ok (.iinc 2 1, 3) := by decide +kernel
theorem dX6_copyFrom_84 : decode cX6_copyFrom 84 = .ok (.goto (-21), 3) := by decide +kernel
theorem dX6_copyFrom_87 : decode cX6_copyFrom 87 = .ok (.return_, 1) := by decide +kernel
theorem dX6_count_0 : decode cX6_count 0 = .ok (.aload_n 0, 1) := by decide +kernel
theorem dX6_count_1 : decode cX6_count 1 = .ok (.getfield 29, 3) := by decide +kernel
theorem dX6_count_4 : decode cX6_count 4 = .ok (.getfield 52, 3) := by decide +kernel
theorem dX6_count_7 : decode cX6_count 7 = .ok (.ireturn, 1) := by decide +kernel
theorem dX6_usedBy_0 : decode cX6_usedBy 0 = .ok (.aload_n 0, 1) := by decide +kernel
theorem dX6_usedBy_1 : decode cX6_usedBy 1 = .ok (.getfield 9, 3) := by decide +kernel
theorem dX6_usedBy_4 : decode cX6_usedBy 4 = .ok (.iload_n 1, 1) := by decide +kernel
theorem dX6_usedBy_5 : decode cX6_usedBy 5 = .ok (.iaload, 1) := by decide +kernel
theorem dX6_usedBy_6 : decode cX6_usedBy 6 = .ok (.tableswitch 85 1 5 #[34, 34, 34, 48, 73], 34) := by decide +kernel
theorem dX6_usedBy_40 : decode cX6_usedBy 40 = .ok (.aload_n 0, 1) := by decide +kernel
theorem dX6_usedBy_41 : decode cX6_usedBy 41 = .ok (.getfield 15, 3) := by decide +kernel
theorem dX6_usedBy_44 : decode cX6_usedBy 44 = .ok (.iload_n 1, 1) := by decide +kernel
theorem dX6_usedBy_45 : decode cX6_usedBy 45 = .ok (.iaload, 1) := by decide +kernel
theorem dX6_usedBy_46 : decode cX6_usedBy 46 = .ok (.aload_n 0, 1) := by decide +kernel
theorem dX6_usedBy_47 : decode cX6_usedBy 47 = .ok (.getfield 18, 3) := by decide +kernel
theorem dX6_usedBy_50 : decode cX6_usedBy 50 = .ok (.iload_n 1, 1) := by decide +kernel
theorem dX6_usedBy_51 : decode cX6_usedBy 51 = .ok (.iaload, 1) := by decide +kernel
theorem dX6_usedBy_52 : decode cX6_usedBy 52 = .ok (.iadd, 1) := by decide +kernel
theorem dX6_usedBy_53 : decode cX6_usedBy 53 = .ok (.ireturn, 1) := by decide +kernel
theorem dX6_usedBy_54 : decode cX6_usedBy 54 = .ok (.aload_n 0, 1) := by decide +kernel
theorem dX6_usedBy_55 : decode cX6_usedBy 55 = .ok (.getfield 15, 3) := by decide +kernel
theorem dX6_usedBy_58 : decode cX6_usedBy 58 = .ok (.iload_n 1, 1) := by decide +kernel
theorem dX6_usedBy_59 : decode cX6_usedBy 59 = .ok (.iaload, 1) := by decide +kernel
theorem dX6_usedBy_60 : decode cX6_usedBy 60 = .ok (.aload_n 0, 1) := by decide +kernel
theorem dX6_usedBy_61 : decode cX6_usedBy 61 = .ok (.getfield 29, 3) := by decide +kernel
theorem dX6_usedBy_64 : decode cX6_usedBy 64 = .ok (.getfield 55, 3) := by decide +kernel
theorem dX6_usedBy_67 : decode cX6_usedBy 67 = .ok (.iload_n 1, 1) := by decide +kernel
theorem dX6_usedBy_68 : decode cX6_usedBy 68 = .ok (.aaload, 1) := by decide +kernel
theorem dX6_usedBy_69 : decode cX6_usedBy 69 = .ok (.iconst 4, 1) := by decide +kernel
theorem dX6_usedBy_70 : decode cX6_usedBy 70 = .ok (.iaload, 1) := by decide +kernel
theorem dX6_usedBy_71 : decode cX6_usedBy 71 = .ok (.imul, 1) := by decide +kernel
theorem dX6_usedBy_72 : decode cX6_usedBy 72 = .ok (.bipush 99, 2) := by decide +kernel
theorem dX6_usedBy_74 : decode cX6_usedBy 74 = .ok (.iadd, 1) := by decide +kernel
theorem dX6_usedBy_75 : decode cX6_usedBy 75 = .ok (.bipush 100, 2) := by decide +kernel
theorem dX6_usedBy_77 : decode cX6_usedBy 77 = .ok (.idiv, 1) := by decide +kernel
theorem dX6_usedBy_78 : decode cX6_usedBy 78 = .ok (.ireturn, 1) := by decide +kernel
theorem dX6_usedBy_79 : decode cX6_usedBy 79 = .ok (.aload_n 0, 1) := by decide +kernel
theorem dX6_usedBy_80 : decode cX6_usedBy 80 = .ok (.getfield 29, 3) := by decide +kernel
theorem dX6_usedBy_83 : decode cX6_usedBy 83 = .ok (.getfield 55, 3) := by decide +kernel
theorem dX6_usedBy_86 : decode cX6_usedBy 86 = .ok (.iload_n 1, 1) := by decide +kernel
theorem dX6_usedBy_87 : decode cX6_usedBy 87 = .ok (.aaload, 1) := by decide +kernel
theorem dX6_usedBy_88 : decode cX6_usedBy 88 = .ok (.iconst 5, 1) := by decide +kernel
theorem dX6_usedBy_89 : decode cX6_usedBy 89 = .ok (.iaload, 1) := by decide +kernel
theorem dX6_usedBy_90 : decode cX6_usedBy 90 = .ok (.ireturn, 1) := by decide +kernel
theorem dX6_usedBy_91 : decode cX6_usedBy 91 = .ok (.iconst 0, 1) := by decide +kernel
theorem dX6_usedBy_92 : decode cX6_usedBy 92 = .ok (.ireturn, 1) := by decide +kernel
theorem dX6_usedByAll_0 : decode cX6_usedByAll 0 = .ok (.iconst 0, 1) := by decide +kernel
theorem dX6_usedByAll_1 : decode cX6_usedByAll 1 = .ok (.istore_n 1, 1) := by decide +kernel
theorem dX6_usedByAll_2 : decode cX6_usedByAll 2 = .ok (.iconst 0, 1) := by decide +kernel
theorem dX6_usedByAll_3 : decode cX6_usedByAll 3 = .ok (.istore_n 2, 1) := by decide +kernel
theorem dX6_usedByAll_4 : decode cX6_usedByAll 4 = .ok (.iload_n 2, 1) := by decide +kernel
theorem dX6_usedByAll_5 : decode cX6_usedByAll 5 = .ok (.aload_n 0, 1) := by decide +kernel
theorem dX6_usedByAll_6 : decode cX6_usedByAll 6 = .ok (.getfield 29, 3) := by decide +kernel
theorem dX6_usedByAll_9 : decode cX6_usedByAll 9 = .ok (.getfield 52, 3) := by decide +kernel
theorem dX6_usedByAll_12 : decode cX6_usedByAll 12 = .ok (.if_icmp .ge 17, 3) := by decide +kernel
theorem dX6_usedByAll_15 : decode cX6_usedByAll 15 = .ok (.iload_n 1, 1) := by decide +kernel
theorem dX6_usedByAll_16 : decode cX6_usedByAll 16 = .ok (.aload_n 0, 1) := by decide +kernel
theorem dX6_usedByAll_17 : decode cX6_usedByAll 17 = .ok (.iload_n 2, 1) := by decide +kernel
theorem dX6_usedByAll_18 : decode cX6_usedByAll 18 = .ok (.invokevirtual 59, 3) := by decide +kernel
theorem dX6_usedByAll_21 : decode cX6_usedByAll 21 = .ok (.iadd, 1) := by decide +kernel
theorem dX6_usedByAll_22 : decode cX6_usedByAll 22 = .ok (.istore_n 1, 1) := by decide +kernel
theorem dX6_usedByAll_23 : decode cX6_usedByAll 23 = .ok (.iinc 2 1, 3) := by decide +kernel
theorem dX6_usedByAll_26 : decode cX6_usedByAll 26 = .ok (.goto (-22), 3) := by decide +kernel
theorem dX6_usedByAll_29 : decode cX6_usedByAll 29 = .ok (.iload_n 1, 1) := by decide +kernel
theorem dX6_usedByAll_30 : decode cX6_usedByAll 30 = .ok (.ireturn, 1) := by decide +kernel
theorem dX6_isOverLimit_0 : decode cX6_isOverLimit 0 = .ok (.aload_n 0, 1) := by decide +kernel
theorem dX6_isOverLimit_1 : decode cX6_isOverLimit 1 = .ok (.invokevirtual 63, 3) := by decide +kernel
theorem dX6_isOverLimit_4 : decode cX6_isOverLimit 4 = .ok (.aload_n 0, 1) := by decide +kernel
theorem dX6_isOverLimit_5 : decode cX6_isOverLimit 5 = .ok (.getfield 39, 3) := by decide +kernel
theorem dX6_isOverLimit_8 : decode cX6_isOverLimit 8 = .ok (.if_icmp .le 7, 3) := by decide +kernel
theorem dX6_isOverLimit_11 : decode cX6_isOverLimit 11 = .ok (.iconst 1, 1) := by decide +kernel
theorem dX6_isOverLimit_12 : decode cX6_isOverLimit 12 = .ok (.goto 4, 3) := by decide +kernel
theorem dX6_isOverLimit_15 : decode cX6_isOverLimit 15 = .ok (.iconst 0, 1) := by decide +kernel
theorem dX6_isOverLimit_16 : decode cX6_isOverLimit 16 = .ok (.ireturn, 1) := by decide +kernel
theorem dX6_hasPages_0 : decode cX6_hasPages 0 = .ok (.aload_n 0, 1) := by decide +kernel
theorem dX6_hasPages_1 : decode cX6_hasPages 1 = .ok (.getfield 9, 3) := by decide +kernel
theorem dX6_hasPages_4 : decode cX6_hasPages 4 = .ok (.iload_n 1, 1) := by decide +kernel
theorem dX6_hasPages_5 : decode cX6_hasPages 5 = .ok (.iaload, 1) := by decide +kernel
theorem dX6_hasPages_6 : decode cX6_hasPages 6 = .ok (.ifCond .eq 17, 3) := by decide +kernel
theorem dX6_hasPages_9 : decode cX6_hasPages 9 = .ok (.aload_n 0, 1) := by decide +kernel
theorem dX6_hasPages_10 : decode cX6_hasPages 10 = .ok (.getfield 9, 3) := by decide +kernel
theorem dX6_hasPages_13 : decode cX6_hasPages 13 = .ok (.iload_n 1, 1) := by decide +kernel
theorem dX6_hasPages_14 : decode cX6_hasPages 14 = .ok (.iaload, 1) := by decide +kernel
theorem dX6_hasPages_15 : decode cX6_hasPages 15 = .ok (.iconst 5, 1) := by decide +kernel
theorem dX6_hasPages_16 : decode cX6_hasPages 16 = .ok (.if_icmp .eq 7, 3) := by decide +kernel
theorem dX6_hasPages_19 : decode cX6_hasPages 19 = .ok (.iconst 1, 1) := by decide +kernel
theorem dX6_hasPages_20 : decode cX6_hasPages 20 = .ok (.goto 4, 3) := by decide +kernel
theorem dX6_hasPages_23 : decode cX6_hasPages 23 = .ok (.iconst 0, 1) := by decide +kernel
theorem dX6_hasPages_24 : decode cX6_hasPages 24 = .ok (.ireturn, 1) := by decide +kernel
theorem dX6_pagesWhenShown_0 : decode cX6_pagesWhenShown 0 = .ok (.aload_n 0, 1) := by decide +kernel
theorem dX6_pagesWhenShown_1 : decode cX6_pagesWhenShown 1 = .ok (.iload_n 1, 1) := by decide +kernel
theorem dX6_pagesWhenShown_2 : decode cX6_pagesWhenShown 2 = .ok (.invokevirtual 67, 3) := by decide +kernel
theorem dX6_pagesWhenShown_5 : decode cX6_pagesWhenShown 5 = .ok (.ifCond .eq 12, 3) := by decide +kernel
theorem dX6_pagesWhenShown_8 : decode cX6_pagesWhenShown 8 = .ok (.aload_n 0, 1) := by decide +kernel
theorem dX6_pagesWhenShown_9 : decode cX6_pagesWhenShown 9 = .ok (.getfield 15, 3) := by decide +kernel
theorem dX6_pagesWhenShown_12 : decode cX6_pagesWhenShown 12 = .ok (.iload_n 1, 1) := by decide +kernel
theorem dX6_pagesWhenShown_13 : decode cX6_pagesWhenShown 13 = .ok (.iaload, 1) := by decide +kernel
theorem dX6_pagesWhenShown_14 : decode cX6_pagesWhenShown 14 = .ok (.goto 14, 3) := by decide +kernel
theorem dX6_pagesWhenShown_17 : decode cX6_pagesWhenShown 17 = .ok (.aload_n 0, 1) := by decide +kernel
theorem dX6_pagesWhenShown_18 : decode cX6_pagesWhenShown 18 = .ok (.getfield 29, 3) := by decide +kernel
theorem dX6_pagesWhenShown_21 : decode cX6_pagesWhenShown 21 = .ok (.getfield 55, 3) := by decide +kernel
theorem dX6_pagesWhenShown_24 : decode cX6_pagesWhenShown 24 = .ok (.iload_n 1, 1) := by decide +kernel
theorem dX6_pagesWhenShown_25 : decode cX6_pagesWhenShown 25 = .ok (.aaload, 1) := by decide +kernel
theorem dX6_pagesWhenShown_26 : decode cX6_pagesWhenShown 26 = .ok (.iconst 0, 1) := by decide +kernel
theorem dX6_pagesWhenShown_27 : decode cX6_pagesWhenShown 27 = .ok (.iaload, 1) := by decide +kernel
theorem dX6_pagesWhenShown_28 : decode cX6_pagesWhenShown 28 = .ok (.ireturn, 1) := by decide +kernel
theorem dX6_bringUp_0 : decode cX6_bringUp 0 = .ok (.aload_n 0, 1) := by decide +kernel
theorem dX6_bringUp_1 : decode cX6_bringUp 1 = .ok (.iload_n 1, 1) := by decide +kernel
theorem dX6_bringUp_2 : decode cX6_bringUp 2 = .ok (.invokevirtual 67, 3) := by decide +kernel
theorem dX6_bringUp_5 : decode cX6_bringUp 5 = .ok (.ifCond .ne 37, 3) := by decide +kernel
theorem dX6_bringUp_8 : decode cX6_bringUp 8 = .ok (.aload_n 0, 1) := by decide +kernel
theorem dX6_bringUp_9 : decode cX6_bringUp 9 = .ok (.getfield 15, 3) := by decide +kernel
theorem dX6_bringUp_12 : decode cX6_bringUp 12 = .ok (.iload_n 1, 1) := by decide +kernel
theorem dX6_bringUp_13 : decode cX6_bringUp 13 = .ok (.aload_n 0, 1) := by decide +kernel
theorem dX6_bringUp_14 : decode cX6_bringUp 14 = .ok (.getfield 29, 3) := by decide +kernel
theorem dX6_bringUp_17 : decode cX6_bringUp 17 = .ok (.getfield 55, 3) := by decide +kernel
theorem dX6_bringUp_20 : decode cX6_bringUp 20 = .ok (.iload_n 1, 1) := by decide +kernel
theorem dX6_bringUp_21 : decode cX6_bringUp 21 = .ok (.aaload, 1) := by decide +kernel
theorem dX6_bringUp_22 : decode cX6_bringUp 22 = .ok (.iconst 0, 1) := by decide +kernel
theorem dX6_bringUp_23 : decode cX6_bringUp 23 = .ok (.iaload, 1) := by decide +kernel
theorem dX6_bringUp_24 : decode cX6_bringUp 24 = .ok (.iastore, 1) := by decide +kernel
theorem dX6_bringUp_25 : decode cX6_bringUp 25 = .ok (.aload_n 0, 1) := by decide +kernel
theorem dX6_bringUp_26 : decode cX6_bringUp 26 = .ok (.getfield 18, 3) := by decide +kernel
theorem dX6_bringUp_29 : decode cX6_bringUp 29 = .ok (.iload_n 1, 1) := by decide +kernel
theorem dX6_bringUp_30 : decode cX6_bringUp 30 = .ok (.aload_n 0, 1) := by decide +kernel
theorem dX6_bringUp_31 : decode cX6_bringUp 31 = .ok (.getfield 29, 3) := by decide +kernel
theorem dX6_bringUp_34 : decode cX6_bringUp 34 = .ok (.getfield 55, 3) := by decide +kernel
theorem dX6_bringUp_37 : decode cX6_bringUp 37 = .ok (.iload_n 1, 1) := by decide +kernel
theorem dX6_bringUp_38 : decode cX6_bringUp 38 = .ok (.aaload, 1) := by decide +kernel
theorem dX6_bringUp_39 : decode cX6_bringUp 39 = .ok (.iconst 1, 1) := by decide +kernel
theorem dX6_bringUp_40 : decode cX6_bringUp 40 = .ok (.iaload, 1) := by decide +kernel
theorem dX6_bringUp_41 : decode cX6_bringUp 41 = .ok (.iastore, 1) := by decide +kernel
theorem dX6_bringUp_42 : decode cX6_bringUp 42 = .ok (.aload_n 0, 1) := by decide +kernel
theorem dX6_bringUp_43 : decode cX6_bringUp 43 = .ok (.getfield 9, 3) := by decide +kernel
theorem dX6_bringUp_46 : decode cX6_bringUp 46 = .ok (.iload_n 1, 1) := by decide +kernel
theorem dX6_bringUp_47 : decode cX6_bringUp 47 = .ok (.iconst 1, 1) := by decide +kernel
theorem dX6_bringUp_48 : decode cX6_bringUp 48 = .ok (.iastore, 1) := by decide +kernel
theorem dX6_bringUp_49 : decode cX6_bringUp 49 = .ok (.return_, 1) := by decide +kernel
theorem dX6_canHave_0 : decode cX6_canHave 0 = .ok (.iload_n 1, 1) := by decide +kernel
theorem dX6_canHave_1 : decode cX6_canHave 1 = .ok (.tableswitch 199 1 6 #[39, 74, 99, 124, 149, 174], 39) := by decide +kernel
theorem dX6_canHave_40 : decode cX6_canHave 40 = .ok (.aload_n 0, 1) := by decide +kernel
theorem dX6_canHave_41 : decode cX6_canHave 41 = .ok (.getfield 9, 3) := by decide +kernel
theorem dX6_canHave_44 : decode cX6_canHave 44 = .ok (.iload_n 2, 1) := by decide +kernel
theorem dX6_canHave_45 : decode cX6_canHave 45 = .ok (.iaload, 1) := by decide +kernel
theorem dX6_canHave_46 : decode cX6_canHave 46 = .ok (.iconst 2, 1) := by decide +kernel
theorem dX6_canHave_47 : decode cX6_canHave 47 = .ok (.if_icmp .eq 13, 3) := by decide +kernel
theorem dX6_canHave_50 : decode cX6_canHave 50 = .ok (.aload_n 0, 1) := by decide +kernel
theorem dX6_canHave_51 : decode cX6_canHave 51 = .ok (.getfield 9, 3) := by decide +kernel
theorem dX6_canHave_54 : decode cX6_canHave 54 = .ok (.iload_n 2, 1) := by decide +kernel
theorem dX6_canHave_55 : decode cX6_canHave 55 = .ok (.iaload, 1) := by decide +kernel
theorem dX6_canHave_56 : decode cX6_canHave 56 = .ok (.iconst 3, 1) := by decide +kernel
theorem dX6_canHave_57 : decode cX6_canHave 57 = .ok (.if_icmp .ne 16, 3) := by decide +kernel
theorem dX6_canHave_60 : decode cX6_canHave 60 = .ok (.aload_n 0, 1) := by decide +kernel
theorem dX6_canHave_61 : decode cX6_canHave 61 = .ok (.getfield 18, 3) := by decide +kernel
theorem dX6_canHave_64 : decode cX6_canHave 64 = .ok (.iload_n 2, 1) := by decide +kernel
theorem dX6_canHave_65 : decode cX6_canHave 65 = .ok (.iaload, 1) := by decide +kernel
theorem dX6_canHave_66 : decode cX6_canHave 66 = .ok (.ifCond .le 7, 3) := by decide +kernel
theorem dX6_canHave_69 : decode cX6_canHave 69 = .ok (.iconst 1, 1) := by decide +kernel
theorem dX6_canHave_70 : decode cX6_canHave 70 = .ok (.goto 4, 3) := by decide +kernel
theorem dX6_canHave_73 : decode cX6_canHave 73 = .ok (.iconst 0, 1) := by decide +kernel
theorem dX6_canHave_74 : decode cX6_canHave 74 = .ok (.ireturn, 1) := by decide +kernel
theorem dX6_canHave_75 : decode cX6_canHave 75 = .ok (.aload_n 0, 1) := by decide +kernel
theorem dX6_canHave_76 : decode cX6_canHave 76 = .ok (.getfield 9, 3) := by decide +kernel
theorem dX6_canHave_79 : decode cX6_canHave 79 = .ok (.iload_n 2, 1) := by decide +kernel
theorem dX6_canHave_80 : decode cX6_canHave 80 = .ok (.iaload, 1) := by decide +kernel
theorem dX6_canHave_81 : decode cX6_canHave 81 = .ok (.iconst 3, 1) := by decide +kernel
theorem dX6_canHave_82 : decode cX6_canHave 82 = .ok (.if_icmp .ne 16, 3) := by decide +kernel
theorem dX6_canHave_85 : decode cX6_canHave 85 = .ok (.aload_n 0, 1) := by decide +kernel
theorem dX6_canHave_86 : decode cX6_canHave 86 = .ok (.getfield 21, 3) := by decide +kernel
theorem dX6_canHave_89 : decode cX6_canHave 89 = .ok (.iload_n 2, 1) := by decide +kernel
theorem dX6_canHave_90 : decode cX6_canHave 90 = .ok (.baload, 1) := by decide +kernel
theorem dX6_canHave_91 : decode cX6_canHave 91 = .ok (.ifCond .ne 7, 3) := by decide +kernel
theorem dX6_canHave_94 : decode cX6_canHave 94 = .ok (.iconst 1, 1) := by decide +kernel
theorem dX6_canHave_95 : decode cX6_canHave 95 = .ok (.goto 4, 3) := by decide +kernel
theorem dX6_canHave_98 : decode cX6_canHave 98 = .ok (.iconst 0, 1) := by decide +kernel
theorem dX6_canHave_99 : decode cX6_canHave 99 = .ok (.ireturn, 1) := by decide +kernel
theorem dX6_canHave_100 : decode cX6_canHave 100 = .ok (.aload_n 0, 1) := by decide +kernel
theorem dX6_canHave_101 : decode cX6_canHave 101 = .ok (.getfield 9, 3) := by decide +kernel
theorem dX6_canHave_104 : decode cX6_canHave 104 = .ok (.iload_n 2, 1) := by decide +kernel
theorem dX6_canHave_105 : decode cX6_canHave 105 = .ok (.iaload, 1) := by decide +kernel
theorem dX6_canHave_106 : decode cX6_canHave 106 = .ok (.iconst 2, 1) := by decide +kernel
theorem dX6_canHave_107 : decode cX6_canHave 107 = .ok (.if_icmp .ne 16, 3) := by decide +kernel
theorem dX6_canHave_110 : decode cX6_canHave 110 = .ok (.aload_n 0, 1) := by decide +kernel
theorem dX6_canHave_111 : decode cX6_canHave 111 = .ok (.getfield 21, 3) := by decide +kernel
theorem dX6_canHave_114 : decode cX6_canHave 114 = .ok (.iload_n 2, 1) := by decide +kernel
theorem dX6_canHave_115 : decode cX6_canHave 115 = .ok (.baload, 1) := by decide +kernel
theorem dX6_canHave_116 : decode cX6_canHave 116 = .ok (.ifCond .ne 7, 3) := by decide +kernel
theorem dX6_canHave_119 : decode cX6_canHave 119 = .ok (.iconst 1, 1) := by decide +kernel
theorem dX6_canHave_120 : decode cX6_canHave 120 = .ok (.goto 4, 3) := by decide +kernel
theorem dX6_canHave_123 : decode cX6_canHave 123 = .ok (.iconst 0, 1) := by decide +kernel
theorem dX6_canHave_124 : decode cX6_canHave 124 = .ok (.ireturn, 1) := by decide +kernel
theorem dX6_canHave_125 : decode cX6_canHave 125 = .ok (.aload_n 0, 1) := by decide +kernel
theorem dX6_canHave_126 : decode cX6_canHave 126 = .ok (.getfield 9, 3) := by decide +kernel
theorem dX6_canHave_129 : decode cX6_canHave 129 = .ok (.iload_n 2, 1) := by decide +kernel
theorem dX6_canHave_130 : decode cX6_canHave 130 = .ok (.iaload, 1) := by decide +kernel
theorem dX6_canHave_131 : decode cX6_canHave 131 = .ok (.iconst 4, 1) := by decide +kernel
theorem dX6_canHave_132 : decode cX6_canHave 132 = .ok (.if_icmp .ne 16, 3) := by decide +kernel
theorem dX6_canHave_135 : decode cX6_canHave 135 = .ok (.aload_n 0, 1) := by decide +kernel
theorem dX6_canHave_136 : decode cX6_canHave 136 = .ok (.getfield 21, 3) := by decide +kernel
theorem dX6_canHave_139 : decode cX6_canHave 139 = .ok (.iload_n 2, 1) := by decide +kernel
theorem dX6_canHave_140 : decode cX6_canHave 140 = .ok (.baload, 1) := by decide +kernel
theorem dX6_canHave_141 : decode cX6_canHave 141 = .ok (.ifCond .ne 7, 3) := by decide +kernel
theorem dX6_canHave_144 : decode cX6_canHave 144 = .ok (.iconst 1, 1) := by decide +kernel
theorem dX6_canHave_145 : decode cX6_canHave 145 = .ok (.goto 4, 3) := by decide +kernel
theorem dX6_canHave_148 : decode cX6_canHave 148 = .ok (.iconst 0, 1) := by decide +kernel
theorem dX6_canHave_149 : decode cX6_canHave 149 = .ok (.ireturn, 1) := by decide +kernel
theorem dX6_canHave_150 : decode cX6_canHave 150 = .ok (.aload_n 0, 1) := by decide +kernel
theorem dX6_canHave_151 : decode cX6_canHave 151 = .ok (.getfield 9, 3) := by decide +kernel
theorem dX6_canHave_154 : decode cX6_canHave 154 = .ok (.iload_n 2, 1) := by decide +kernel
theorem dX6_canHave_155 : decode cX6_canHave 155 = .ok (.iaload, 1) := by decide +kernel
theorem dX6_canHave_156 : decode cX6_canHave 156 = .ok (.iconst 5, 1) := by decide +kernel
theorem dX6_canHave_157 : decode cX6_canHave 157 = .ok (.if_icmp .ne 16, 3) := by decide +kernel
theorem dX6_canHave_160 : decode cX6_canHave 160 = .ok (.aload_n 0, 1) := by decide +kernel
theorem dX6_canHave_161 : decode cX6_canHave 161 = .ok (.getfield 21, 3) := by decide +kernel
theorem dX6_canHave_164 : decode cX6_canHave 164 = .ok (.iload_n 2, 1) := by decide +kernel
theorem dX6_canHave_165 : decode cX6_canHave 165 = .ok (.baload, 1) := by decide +kernel
theorem dX6_canHave_166 : decode cX6_canHave 166 = .ok (.ifCond .ne 7, 3) := by decide +kernel
theorem dX6_canHave_169 : decode cX6_canHave 169 = .ok (.iconst 1, 1) := by decide +kernel
theorem dX6_canHave_170 : decode cX6_canHave 170 = .ok (.goto 4, 3) := by decide +kernel
theorem dX6_canHave_173 : decode cX6_canHave 173 = .ok (.iconst 0, 1) := by decide +kernel
theorem dX6_canHave_174 : decode cX6_canHave 174 = .ok (.ireturn, 1) := by decide +kernel
theorem dX6_canHave_175 : decode cX6_canHave 175 = .ok (.aload_n 0, 1) := by decide +kernel
theorem dX6_canHave_176 : decode cX6_canHave 176 = .ok (.getfield 9, 3) := by decide +kernel
theorem dX6_canHave_179 : decode cX6_canHave 179 = .ok (.iload_n 2, 1) := by decide +kernel
theorem dX6_canHave_180 : decode cX6_canHave 180 = .ok (.iaload, 1) := by decide +kernel
theorem dX6_canHave_181 : decode cX6_canHave 181 = .ok (.iconst 1, 1) := by decide +kernel
theorem dX6_canHave_182 : decode cX6_canHave 182 = .ok (.if_icmp .ne 16, 3) := by decide +kernel
theorem dX6_canHave_185 : decode cX6_canHave 185 = .ok (.aload_n 0, 1) := by decide +kernel
theorem dX6_canHave_186 : decode cX6_canHave 186 = .ok (.getfield 18, 3) := by decide +kernel
theorem dX6_canHave_189 : decode cX6_canHave 189 = .ok (.iload_n 2, 1) := by decide +kernel
theorem dX6_canHave_190 : decode cX6_canHave 190 = .ok (.iaload, 1) := by decide +kernel
theorem dX6_canHave_191 : decode cX6_canHave 191 = .ok (.ifCond .le 7, 3) := by decide +kernel
theorem dX6_canHave_194 : decode cX6_canHave 194 = .ok (.iconst 1, 1) := by decide +kernel
theorem dX6_canHave_195 : decode cX6_canHave 195 = .ok (.goto 4, 3) := by decide +kernel
theorem dX6_canHave_198 : decode cX6_canHave 198 = .ok (.iconst 0, 1) := by decide +kernel
theorem dX6_canHave_199 : decode cX6_canHave 199 = .ok (.ireturn, 1) := by decide +kernel
theorem dX6_canHave_200 : decode cX6_canHave 200 = .ok (.iconst 0, 1) := by decide +kernel
theorem dX6_canHave_201 : decode cX6_canHave 201 = .ok (.ireturn, 1) := by decide +kernel
theorem dX6_doStep_0 : decode cX6_doStep 0 = .ok (.iload_n 1, 1) := by decide +kernel
theorem dX6_doStep_1 : decode cX6_doStep 1 = .ok (.tableswitch 103 1 6 #[39, 49, 66, 76, 93, 39], 39) := by decide +kernel
theorem dX6_doStep_40 : decode cX6_doStep 40 = .ok (.aload_n 0, 1) := by decide +kernel
theorem dX6_doStep_41 : decode cX6_doStep 41 = .ok (.getfield 18, 3) := by decide +kernel
theorem dX6_doStep_44 : decode cX6_doStep 44 = .ok (.iload_n 2, 1) := by decide +kernel
theorem dX6_doStep_45 : decode cX6_doStep 45 = .ok (.iconst 0, 1) := by decide +kernel
theorem dX6_doStep_46 : decode cX6_doStep 46 = .ok (.iastore, 1) := by decide +kernel
theorem dX6_doStep_47 : decode cX6_doStep 47 = .ok (.goto 57, 3) := by decide +kernel
theorem dX6_doStep_50 : decode cX6_doStep 50 = .ok (.aload_n 0, 1) := by decide +kernel
theorem dX6_doStep_51 : decode cX6_doStep 51 = .ok (.getfield 18, 3) := by decide +kernel
theorem dX6_doStep_54 : decode cX6_doStep 54 = .ok (.iload_n 2, 1) := by decide +kernel
theorem dX6_doStep_55 : decode cX6_doStep 55 = .ok (.iconst 0, 1) := by decide +kernel
theorem dX6_doStep_56 : decode cX6_doStep 56 = .ok (.iastore, 1) := by decide +kernel
theorem dX6_doStep_57 : decode cX6_doStep 57 = .ok (.aload_n 0, 1) := by decide +kernel
theorem dX6_doStep_58 : decode cX6_doStep 58 = .ok (.getfield 9, 3) := by decide +kernel
theorem dX6_doStep_61 : decode cX6_doStep 61 = .ok (.iload_n 2, 1) := by decide +kernel
theorem dX6_doStep_62 : decode cX6_doStep 62 = .ok (.iconst 4, 1) := by decide +kernel
theorem dX6_doStep_63 : decode cX6_doStep 63 = .ok (.iastore, 1) := by decide +kernel
theorem dX6_doStep_64 : decode cX6_doStep 64 = .ok (.goto 40, 3) := by decide +kernel
theorem dX6_doStep_67 : decode cX6_doStep 67 = .ok (.aload_n 0, 1) := by decide +kernel
theorem dX6_doStep_68 : decode cX6_doStep 68 = .ok (.getfield 9, 3) := by decide +kernel
theorem dX6_doStep_71 : decode cX6_doStep 71 = .ok (.iload_n 2, 1) := by decide +kernel
theorem dX6_doStep_72 : decode cX6_doStep 72 = .ok (.iconst 3, 1) := by decide +kernel
theorem dX6_doStep_73 : decode cX6_doStep 73 = .ok (.iastore, 1) := by decide +kernel
theorem dX6_doStep_74 : decode cX6_doStep 74 = .ok (.goto 30, 3) := by decide +kernel
theorem dX6_doStep_77 : decode cX6_doStep 77 = .ok (.aload_n 0, 1) := by decide +kernel
theorem dX6_doStep_78 : decode cX6_doStep 78 = .ok (.getfield 15, 3) := by decide +kernel
theorem dX6_doStep_81 : decode cX6_doStep 81 = .ok (.iload_n 2, 1) := by decide +kernel
theorem dX6_doStep_82 : decode cX6_doStep 82 = .ok (.iconst 0, 1) := by decide +kernel
theorem dX6_doStep_83 : decode cX6_doStep 83 = .ok (.iastore, 1) := by decide +kernel
theorem dX6_doStep_84 : decode cX6_doStep 84 = .ok (.aload_n 0, 1) := by decide +kernel
theorem dX6_doStep_85 : decode cX6_doStep 85 = .ok (.getfield 9, 3) := by decide +kernel
theorem dX6_doStep_88 : decode cX6_doStep 88 = .ok (.iload_n 2, 1) := by decide +kernel
theorem dX6_doStep_89 : decode cX6_doStep 89 = .ok (.iconst 5, 1) := by decide +kernel
theorem dX6_doStep_90 : decode cX6_doStep 90 = .ok (.iastore, 1) := by decide +kernel
theorem dX6_doStep_91 : decode cX6_doStep 91 = .ok (.goto 13, 3) := by decide +kernel
theorem dX6_doStep_94 : decode cX6_doStep 94 = .ok (.aload_n 0, 1) := by decide +kernel
theorem dX6_doStep_95 : decode cX6_doStep 95 = .ok (.getfield 9, 3) := by decide +kernel
theorem dX6_doStep_98 : decode cX6_doStep 98 = .ok (.iload_n 2, 1) := by decide +kernel
theorem dX6_doStep_99 : decode cX6_doStep 99 = .ok (.iconst 0, 1) := by decide +kernel
theorem dX6_doStep_100 : decode cX6_doStep 100 = .ok (.iastore, 1) := by decide +kernel
theorem dX6_doStep_101 : decode cX6_doStep 101 = .ok (.goto 3, 3) := by decide +kernel
theorem dX6_doStep_104 : decode cX6_doStep 104 = .ok (.return_, 1) := by decide +kernel
theorem dX6_empty_0 : decode cX6_empty 0 = .ok (.aload_n 0, 1) := by decide +kernel
theorem dX6_empty_1 : decode cX6_empty 1 = .ok (.getfield 15, 3) := by decide +kernel
theorem dX6_empty_4 : decode cX6_empty 4 = .ok (.iload_n 1, 1) := by decide +kernel
theorem dX6_empty_5 : decode cX6_empty 5 = .ok (.iconst 0, 1) := by decide +kernel
theorem dX6_empty_6 : decode cX6_empty 6 = .ok (.iastore, 1) := by decide +kernel
theorem dX6_empty_7 : decode cX6_empty 7 = .ok (.aload_n 0, 1) := by decide +kernel
theorem dX6_empty_8 : decode cX6_empty 8 = .ok (.getfield 18, 3) := by decide +kernel
theorem dX6_empty_11 : decode cX6_empty 11 = .ok (.iload_n 1, 1) := by decide +kernel
theorem dX6_empty_12 : decode cX6_empty 12 = .ok (.iconst 0, 1) := by decide +kernel
theorem dX6_empty_13 : decode cX6_empty 13 = .ok (.iastore, 1) := by decide +kernel
theorem dX6_empty_14 : decode cX6_empty 14 = .ok (.aload_n 0, 1) := by decide +kernel
theorem dX6_empty_15 : decode cX6_empty 15 = .ok (.getfield 9, 3) := by decide +kernel
theorem dX6_empty_18 : decode cX6_empty 18 = .ok (.iload_n 1, 1) := by decide +kernel
theorem dX6_empty_19 : decode cX6_empty 19 = .ok (.iconst 0, 1) := by decide +kernel
theorem dX6_empty_20 : decode cX6_empty 20 = .ok (.iastore, 1) := by decide +kernel
theorem dX6_empty_21 : decode cX6_empty 21 = .ok (.return_, 1) := by decide +kernel
theorem dX7_init_0 : decode cX7_init 0 = .ok (.aload_n 0, 1) := by decide +kernel
theorem dX7_init_1 : decode cX7_init 1 = .ok (.invokespecial 3, 3) := by decide +kernel
theorem dX7_init_4 : decode cX7_init 4 = .ok (.aload_n 0, 1) := by decide +kernel
theorem dX7_init_5 : decode cX7_init 5 = .ok (.new 9, 3) := by decide +kernel
theorem dX7_init_8 : decode cX7_init 8 = .ok (.dup, 1) := by decide +kernel
theorem dX7_init_9 : decode cX7_init 9 = .ok (.new 11, 3) := by decide +kernel
theorem dX7_init_12 : decode cX7_init 12 = .ok (.dup, 1) := by decide +kernel
theorem dX7_init_13 : decode cX7_init 13 = .ok (.invokespecial 13, 3) := by decide +kernel
theorem dX7_init_16 : decode cX7_init 16 = .ok (.invokespecial 14, 3) := by decide +kernel
theorem dX7_init_19 : decode cX7_init 19 = .ok (.putfield 17, 3) := by decide +kernel
theorem dX7_init_22 : decode cX7_init 22 = .ok (.aload_n 0, 1) := by decide +kernel
theorem dX7_init_23 : decode cX7_init 23 = .ok (.bipush 10, 2) := by decide +kernel
theorem dX7_init_25 : decode cX7_init 25 = .ok (.newarray .int, 2) := by decide +kernel
theorem dX7_init_27 : decode cX7_init 27 = .ok (.putfield 23, 3) := by decide +kernel
theorem dX7_init_30 : decode cX7_init 30 = .ok (.aload_n 0, 1) := by decide +kernel
theorem dX7_init_31 : decode cX7_init 31 = .ok (.bipush 10, 2) := by decide +kernel
theorem dX7_init_33 : decode cX7_init 33 = .ok (.newarray .boolean, 2) := by decide +kernel
theorem dX7_init_35 : decode cX7_init 35 = .ok (.putfield 27, 3) := by decide +kernel
theorem dX7_init_38 : decode cX7_init 38 = .ok (.aload_n 0, 1) := by decide +kernel
theorem dX7_init_39 : decode cX7_init 39 = .ok (.iconst 0, 1) := by decide +kernel
theorem dX7_init_40 : decode cX7_init 40 = .ok (.putfield 31, 3) := by decide +kernel
theorem dX7_init_43 : decode cX7_init 43 = .ok (.aload_n 0, 1) := by decide +kernel
theorem dX7_init_44 : decode cX7_init 44 = .ok (.iconst 0, 1) := by decide +kernel
theorem dX7_init_45 : decode cX7_init 45 = .ok (.putfield 35, 3) := by decide +kernel
theorem dX7_init_48 : decode cX7_init 48 = .ok (.aload_n 0, 1) := by decide +kernel
theorem dX7_init_49 : decode cX7_init 49 = .ok (.bipush 50, 2) := by decide +kernel
theorem dX7_init_51 : decode cX7_init 51 = .ok (.newarray .int, 2) := by decide +kernel
theorem dX7_init_53 : decode cX7_init 53 = .ok (.putfield 39, 3) := by decide +kernel
theorem dX7_init_56 : decode cX7_init 56 = .ok (.aload_n 0, 1) := by decide +kernel
theorem dX7_init_57 : decode cX7_init 57 = .ok (.bipush 50, 2) := by decide +kernel
theorem dX7_init_59 : decode cX7_init 59 = .ok (.newarray .int, 2) := by decide +kernel
theorem dX7_init_61 : decode cX7_init 61 = .ok (.putfield 42, 3) := by decide +kernel
theorem dX7_init_64 : decode cX7_init 64 = .ok (.return_, 1) := by decide +kernel
theorem dX7_victimOf_0 : decode cX7_victimOf 0 = .ok (.iconst (-1), 1) := by decide +kernel
theorem dX7_victimOf_1 : decode cX7_victimOf 1 = .ok (.istore_n 2, 1) := by decide +kernel
theorem dX7_victimOf_2 : decode cX7_victimOf 2 = .ok (.iconst 0, 1) := by decide +kernel
theorem dX7_victimOf_3 : decode cX7_victimOf 3 = .ok (.istore_n 3, 1) := by decide +kernel
theorem dX7_victimOf_4 : decode cX7_victimOf 4 = .ok (.iload_n 3, 1) := by decide +kernel
theorem dX7_victimOf_5 : decode cX7_victimOf 5 = .ok (.aload_n 0, 1) := by decide +kernel
theorem dX7_victimOf_6 : decode cX7_victimOf 6 = .ok (.getfield 17, 3) := by decide +kernel
theorem dX7_victimOf_9 : decode cX7_victimOf 9 = .ok (.invokevirtual 45, 3) := by decide +kernel
theorem dX7_victimOf_12 : decode cX7_victimOf 12 = .ok (.if_icmp .ge 37, 3) := by decide +kernel
theorem dX7_victimOf_15 : decode cX7_victimOf 15 = .ok (.aload_n 0, 1) := by decide +kernel
theorem dX7_victimOf_16 : decode cX7_victimOf 16 = .ok (.getfield 17, 3) := by decide +kernel
theorem dX7_victimOf_19 : decode cX7_victimOf 19 = .ok (.iload_n 1, 1) := by decide +kernel
theorem dX7_victimOf_20 : decode cX7_victimOf 20 = .ok (.iload_n 3, 1) := by decide +kernel
theorem dX7_victimOf_21 : decode cX7_victimOf 21 = .ok (.invokevirtual 49, 3) := by decide +kernel
theorem dX7_victimOf_24 : decode cX7_victimOf 24 = .ok (.ifCond .eq 19, 3) := by decide +kernel
theorem dX7_victimOf_27 : decode cX7_victimOf 27 = .ok (.iload_n 2, 1) := by decide +kernel
theorem dX7_victimOf_28 : decode cX7_victimOf 28 = .ok (.ifCond .lt 13, 3) := by decide +kernel
theorem dX7_victimOf_31 : decode cX7_victimOf 31 = .ok (.aload_n 0, 1) := by decide +kernel
theorem dX7_victimOf_32 : decode cX7_victimOf 32 = .ok (.iload_n 3, 1) := by decide +kernel
theorem dX7_victimOf_33 : decode cX7_victimOf 33 = .ok (.iload_n 2, 1) := by decide +kernel
theorem dX7_victimOf_34 : decode cX7_victimOf 34 = .ok (.iload_n 1, 1) := by decide +kernel
theorem dX7_victimOf_35 : decode cX7_victimOf 35 = .ok (.invokevirtual 53, 3) := by decide +kernel
theorem dX7_victimOf_38 : decode cX7_victimOf 38 = .ok (.ifCond .eq 5, 3) := by decide +kernel
theorem dX7_victimOf_41 : decode cX7_victimOf 41 = .ok (.iload_n 3, 1) := by decide +kernel
theorem dX7_victimOf_42 : decode cX7_victimOf 42 = .ok (.istore_n 2, 1) := by decide +kernel
theorem dX7_victimOf_43 : decode cX7_victimOf 43 = .ok (.iinc 3 1, 3) := by decide +kernel
theorem dX7_victimOf_46 : decode cX7_victimOf 46 = .ok (.goto (-42), 3) := by decide +kernel
theorem dX7_victimOf_49 : decode cX7_victimOf 49 = .ok (.iload_n 2, 1) := by decide +kernel
theorem dX7_victimOf_50 : decode cX7_victimOf 50 = .ok (.ireturn, 1) := by decide +kernel
theorem dX7_comesBefore_0 : decode cX7_comesBefore 0 = .ok (.iload_n 3, 1) := by decide +kernel
theorem dX7_comesBefore_1 : decode cX7_comesBefore 1 = .ok (.iconst 4, 1) := by decide +kernel
theorem dX7_comesBefore_2 : decode cX7_comesBefore 2 = .ok (.if_icmp .eq 8, 3) := by decide +kernel
theorem dX7_comesBefore_5 : decode cX7_comesBefore 5 = .ok (.iload_n 3, 1) := by decide +kernel
theorem dX7_comesBefore_6 : decode cX7_comesBefore 6 = .ok (.iconst 5, 1) := by decide +kernel
theorem dX7_comesBefore_7 : decode cX7_comesBefore 7 = .ok (.if_icmp .ne 25, 3) := by decide +kernel
theorem dX7_comesBefore_10 : decode cX7_comesBefore 10 = .ok (.aload_n 0, 1) := by decide +kernel
theorem dX7_comesBefore_11 : decode cX7_comesBefore 11 = .ok (.getfield 27, 3) := by decide +kernel
theorem dX7_comesBefore_14 : decode cX7_comesBefore 14 = .ok (.iload_n 1, 1) := by decide +kernel
theorem dX7_comesBefore_15 : decode cX7_comesBefore 15 = .ok (.baload, 1) := by decide +kernel
theorem dX7_comesBefore_16 : decode cX7_comesBefore 16 = .ok (.aload_n 0, 1) := by decide +kernel
theorem dX7_comesBefore_17 : decode cX7_comesBefore 17 = .ok (.getfield 27, 3) := by decide +kernel
theorem dX7_comesBefore_20 : decode cX7_comesBefore 20 = .ok (.iload_n 2, 1) := by decide +kernel
theorem dX7_comesBefore_21 : decode cX7_comesBefore 21 = .ok (.baload, 1) := by decide +kernel
theorem dX7_comesBefore_22 : decode cX7_comesBefore 22 = .ok (.if_icmp .eq 10, 3) := by decide +kernel
theorem dX7_comesBefore_25 : decode cX7_comesBefore 25 = .ok (.aload_n 0, 1) := by decide +kernel
theorem dX7_comesBefore_26 : decode cX7_comesBefore 26 = .ok (.getfield 27, 3) := by decide +kernel
theorem dX7_comesBefore_29 : decode cX7_comesBefore 29 = .ok (.iload_n 2, 1) := by decide +kernel
theorem dX7_comesBefore_30 : decode cX7_comesBefore 30 = .ok (.baload, 1) := by decide +kernel
theorem dX7_comesBefore_31 : decode cX7_comesBefore 31 = .ok (.ireturn, 1) := by decide +kernel
theorem dX7_comesBefore_32 : decode cX7_comesBefore 32 = .ok (.aload_n 0, 1) := by decide +kernel
theorem dX7_comesBefore_33 : decode cX7_comesBefore 33 = .ok (.getfield 23, 3) := by decide +kernel
theorem dX7_comesBefore_36 : decode cX7_comesBefore 36 = .ok (.iload_n 1, 1) := by decide +kernel
theorem dX7_comesBefore_37 : decode cX7_comesBefore 37 = .ok (.iaload, 1) := by decide +kernel
theorem dX7_comesBefore_38 : decode cX7_comesBefore 38 = .ok (.aload_n 0, 1) := by decide +kernel
theorem dX7_comesBefore_39 : decode cX7_comesBefore 39 = .ok (.getfield 23, 3) := by decide +kernel
theorem dX7_comesBefore_42 : decode cX7_comesBefore 42 = .ok (.iload_n 2, 1) := by decide +kernel
theorem dX7_comesBefore_43 : decode cX7_comesBefore 43 = .ok (.iaload, 1) := by decide +kernel
theorem dX7_comesBefore_44 : decode cX7_comesBefore 44 = .ok (.if_icmp .le 7, 3) := by decide +kernel
theorem dX7_comesBefore_47 : decode cX7_comesBefore 47 = .ok (.iconst 1, 1) := by decide +kernel
theorem dX7_comesBefore_48 : decode cX7_comesBefore 48 = .ok (.goto 4, 3) := by decide +kernel
theorem dX7_comesBefore_51 : decode cX7_comesBefore 51 = .ok (.iconst 0, 1) := by decide +kernel
theorem dX7_comesBefore_52 : decode cX7_comesBefore 52 = .ok (.ireturn, 1) := by decide +kernel
theorem dX7_tryStep_0 : decode cX7_tryStep 0 = .ok (.aload_n 0, 1) := by decide +kernel
theorem dX7_tryStep_1 : decode cX7_tryStep 1 = .ok (.getfield 17, 3) := by decide +kernel
theorem dX7_tryStep_4 : decode cX7_tryStep 4 = .ok (.iload_n 2, 1) := by decide +kernel
theorem dX7_tryStep_5 : decode cX7_tryStep 5 = .ok (.invokevirtual 57, 3) := by decide +kernel
theorem dX7_tryStep_8 : decode cX7_tryStep 8 = .ok (.istore_n 3, 1) := by decide +kernel
theorem dX7_tryStep_9 : decode cX7_tryStep 9 = .ok (.aload_n 0, 1) := by decide +kernel
theorem dX7_tryStep_10 : decode cX7_tryStep 10 = .ok (.getfield 17, 3) := by decide +kernel
theorem dX7_tryStep_13 : decode cX7_tryStep 13 = .ok (.iload_n 1, 1) := by decide +kernel
theorem dX7_tryStep_14 : decode cX7_tryStep 14 = .ok (.iload_n 2, 1) := by decide +kernel
theorem dX7_tryStep_15 : decode cX7_tryStep 15 = .ok (.invokevirtual 61, 3) := by decide +kernel
theorem dX7_tryStep_18 : decode cX7_tryStep 18 = .ok (.aload_n 0, 1) := by decide +kernel
theorem dX7_tryStep_19 : decode cX7_tryStep 19 = .ok (.getfield 31, 3) := by decide +kernel
theorem dX7_tryStep_22 : decode cX7_tryStep 22 = .ok (.ifCond .eq 17, 3) := by decide +kernel
theorem dX7_tryStep_25 : decode cX7_tryStep 25 = .ok (.aload_n 0, 1) := by decide +kernel
theorem dX7_tryStep_26 : decode cX7_tryStep 26 = .ok (.getfield 23, 3) := by decide +kernel
theorem dX7_tryStep_29 : decode cX7_tryStep 29 = .ok (.iload_n 2, 1) := by decide +kernel
theorem dX7_tryStep_30 : decode cX7_tryStep 30 = .ok (.aload_n 0, 1) := by decide +kernel
theorem dX7_tryStep_31 : decode cX7_tryStep 31 = .ok (.getfield 17, 3) := by decide +kernel
theorem dX7_tryStep_34 : decode cX7_tryStep 34 = .ok (.iload_n 2, 1) := by decide +kernel
theorem dX7_tryStep_35 : decode cX7_tryStep 35 = .ok (.invokevirtual 57, 3) := by decide +kernel
theorem dX7_tryStep_38 : decode cX7_tryStep 38 = .ok (.iastore, 1) := by decide +kernel
theorem dX7_tryStep_39 : decode cX7_tryStep 39 = .ok (.iload_n 3, 1) := by decide +kernel
theorem dX7_tryStep_40 : decode cX7_tryStep 40 = .ok (.aload_n 0, 1) := by decide +kernel
theorem dX7_tryStep_41 : decode cX7_tryStep 41 = .ok (.getfield 17, 3) := by decide +kernel
theorem dX7_tryStep_44 : decode cX7_tryStep 44 = .ok (.iload_n 2, 1) := by decide +kernel
theorem dX7_tryStep_45 : decode cX7_tryStep 45 = .ok (.invokevirtual 57, 3) := by decide +kernel
theorem dX7_tryStep_48 : decode cX7_tryStep 48 = .ok (.isub, 1) := by decide +kernel
theorem dX7_tryStep_49 : decode cX7_tryStep 49 = .ok (.ireturn, 1) := by decide +kernel
theorem dX7_findSteps_0 : decode cX7_findSteps 0 = .ok (.aload_n 0, 1) := by decide +kernel
theorem dX7_findSteps_1 : decode cX7_findSteps 1 = .ok (.getfield 17, 3) := by decide +kernel
theorem dX7_findSteps_4 : decode cX7_findSteps 4 = .ok (.invokevirtual 65, 3) := by decide +kernel
theorem dX7_findSteps_7 : decode cX7_findSteps 7 = .ok (.istore_n 1, 1) := by decide +kernel
theorem dX7_findSteps_8 : decode cX7_findSteps 8 = .ok (.aload_n 0, 1) := by decide +kernel
theorem dX7_findSteps_9 : decode cX7_findSteps 9 = .ok (.iconst 0, 1) := by decide +kernel
theorem dX7_findSteps_10 : decode cX7_findSteps 10 = .ok (.putfield 35, 3) := by decide +kernel
theorem dX7_findSteps_13 : decode cX7_findSteps 13 = .ok (.aload_n 0, 1) := by decide +kernel
theorem dX7_findSteps_14 : decode cX7_findSteps 14 = .ok (.getfield 35, 3) := by decide +kernel
theorem dX7_findSteps_17 : decode cX7_findSteps 17 = .ok (.bipush 50, 2) := by decide +kernel
theorem dX7_findSteps_19 : decode cX7_findSteps 19 = .ok (.if_icmp .ge 94, 3) := by decide +kernel
theorem dX7_findSteps_22 : decode cX7_findSteps 22 = .ok (.iload_n 1, 1) := by decide +kernel
theorem dX7_findSteps_23 : decode cX7_findSteps 23 = .ok (.aload_n 0, 1) := by decide +kernel
theorem dX7_findSteps_24 : decode cX7_findSteps 24 = .ok (.getfield 17, 3) := by decide +kernel
theorem dX7_findSteps_27 : decode cX7_findSteps 27 = .ok (.getfield 68, 3) := by decide +kernel
theorem dX7_findSteps_30 : decode cX7_findSteps 30 = .ok (.if_icmp .le 83, 3) := by decide +kernel
theorem dX7_findSteps_33 : decode cX7_findSteps 33 = .ok (.iconst 1, 1) := by decide +kernel
theorem dX7_findSteps_34 : decode cX7_findSteps 34 = .ok (.istore_n 2, 1) := by decide +kernel
theorem dX7_findSteps_35 : decode cX7_findSteps 35 = .ok (.aload_n 0, 1) := by decide +kernel
theorem dX7_findSteps_36 : decode cX7_findSteps 36 = .ok (.iload_n 2, 1) := by decide +kernel
theorem dX7_findSteps_37 : decode cX7_findSteps 37 = .ok (.invokevirtual 71, 3) := by decide +kernel
theorem dX7_findSteps_40 : decode cX7_findSteps 40 = .ok (.istore_n 3, 1) := by decide +kernel
theorem dX7_findSteps_41 : decode cX7_findSteps 41 = .ok (.iload_n 3, 1) := by decide +kernel
theorem dX7_findSteps_42 : decode cX7_findSteps 42 = .ok (.iconst (-1), 1) := by decide +kernel
theorem dX7_findSteps_43 : decode cX7_findSteps 43 = .ok (.if_icmp .ne 21, 3) := by decide +kernel
theorem dX7_findSteps_46 : decode cX7_findSteps 46 = .ok (.iload_n 2, 1) := by decide +kernel
theorem dX7_findSteps_47 : decode cX7_findSteps 47 = .ok (.bipush 6, 2) := by decide +kernel
theorem dX7_findSteps_49 : decode cX7_findSteps 49 = .ok (.if_icmp .ge 15, 3) := by decide +kernel
theorem dX7_findSteps_52 : decode cX7_findSteps 52 = .ok (.iinc 2 1, 3) := by decide +kernel
theorem dX7_findSteps_55 : decode cX7_findSteps 55 = .ok (.aload_n 0, 1) := by decide +kernel
theorem dX7_findSteps_56 : decode cX7_findSteps 56 = .ok (.iload_n 2, 1) := by decide +kernel
theorem dX7_findSteps_57 : decode cX7_findSteps 57 = .ok (.invokevirtual 71, 3) := by decide +kernel
theorem dX7_findSteps_60 : decode cX7_findSteps 60 = .ok (.istore_n 3, 1) := by decide +kernel
theorem dX7_findSteps_61 : decode cX7_findSteps 61 = .ok (.goto (-20), 3) := by decide +kernel
theorem dX7_findSteps_64 : decode cX7_findSteps 64 = .ok (.iload_n 3, 1) := by decide +kernel
theorem dX7_findSteps_65 : decode cX7_findSteps 65 = .ok (.iconst (-1), 1) := by decide +kernel
theorem dX7_findSteps_66 : decode cX7_findSteps 66 = .ok (.if_icmp .ne 5, 3) := by decide +kernel
theorem dX7_findSteps_69 : decode cX7_findSteps 69 = .ok (.iconst 0, 1) := by decide +kernel
theorem dX7_findSteps_70 : decode cX7_findSteps 70 = .ok (.ireturn, 1) := by decide +kernel
theorem dX7_findSteps_71 : decode cX7_findSteps 71 = .ok (.aload_n 0, 1) := by decide +kernel
theorem dX7_findSteps_72 : decode cX7_findSteps 72 = .ok (.getfield 39, 3) := by decide +kernel
theorem dX7_findSteps_75 : decode cX7_findSteps 75 = .ok (.aload_n 0, 1) := by decide +kernel
theorem dX7_findSteps_76 : decode cX7_findSteps 76 = .ok (.getfield 35, 3) := by decide +kernel
theorem dX7_findSteps_79 : decode cX7_findSteps 79 = .ok (.iload_n 2, 1) := by decide +kernel
theorem dX7_findSteps_80 : decode cX7_findSteps 80 = .ok (.iastore, 1) := by decide +kernel
theorem dX7_findSteps_81 : decode cX7_findSteps 81 = .ok (.aload_n 0, 1) := by decide +kernel
theorem dX7_findSteps_82 : decode cX7_findSteps 82 = .ok (.getfield 42, 3) := by decide +kernel
theorem dX7_findSteps_85 : decode cX7_findSteps 85 = .ok (.aload_n 0, 1) := by decide +kernel
theorem dX7_findSteps_86 : decode cX7_findSteps 86 = .ok (.getfield 35, 3) := by decide +kernel
theorem dX7_findSteps_89 : decode cX7_findSteps 89 = .ok (.iload_n 3, 1) := by decide +kernel
theorem dX7_findSteps_90 : decode cX7_findSteps 90 = .ok (.iastore, 1) := by decide +kernel
theorem dX7_findSteps_91 : decode cX7_findSteps 91 = .ok (.iload_n 1, 1) := by decide +kernel
theorem dX7_findSteps_92 : decode cX7_findSteps 92 = .ok (.aload_n 0, 1) := by decide +kernel
theorem dX7_findSteps_93 : decode cX7_findSteps 93 = .ok (.iload_n 2, 1) := by decide +kernel
theorem dX7_findSteps_94 : decode cX7_findSteps 94 = .ok (.iload_n 3, 1) := by decide +kernel
theorem dX7_findSteps_95 : decode cX7_findSteps 95 = .ok (.invokevirtual 74, 3) := by decide +kernel
theorem dX7_findSteps_98 : decode cX7_findSteps 98 = .ok (.isub, 1) := by decide +kernel
theorem dX7_findSteps_99 : decode cX7_findSteps 99 = .ok (.istore_n 1, 1) := by decide +kernel
theorem dX7_findSteps_100 : decode cX7_findSteps 100 = .ok (.aload_n 0, 1) := by decide +kernel
theorem dX7_findSteps_101 : decode cX7_findSteps 101 = .ok (.dup, 1) := by decide +kernel
theorem dX7_findSteps_102 : decode cX7_findSteps 102 = .ok (.getfield 35, 3) := by decide +kernel
theorem dX7_findSteps_105 : decode cX7_findSteps 105 = .ok (.iconst 1, 1) := by decide +kernel
theorem dX7_findSteps_106 : decode cX7_findSteps 106 = .ok (.iadd, 1) := by decide +kernel
theorem dX7_findSteps_107 : decode cX7_findSteps 107 = .ok (.putfield 35, 3) := by decide +kernel
theorem dX7_findSteps_110 : decode cX7_findSteps 110 = .ok (.goto (-97), 3) := by decide +kernel
theorem dX7_findSteps_113 : decode cX7_findSteps 113 = .ok (.iload_n 1, 1) := by decide +kernel
theorem dX7_findSteps_114 : decode cX7_findSteps 114 = .ok (.aload_n 0, 1) := by decide +kernel
theorem dX7_findSteps_115 : decode cX7_findSteps 115 = .ok (.getfield 17, 3) := by decide +kernel
theorem dX7_findSteps_118 : decode cX7_findSteps 118 = .ok (.getfield 68, 3) := by decide +kernel
theorem dX7_findSteps_121 : decode cX7_findSteps 121 = .ok (.if_icmp .gt 7, 3) := by decide +kernel
theorem dX7_findSteps_124 : decode cX7_findSteps 124 = .ok (.iconst 1, 1) := by decide +kernel
theorem dX7_findSteps_125 : decode cX7_findSteps 125 = .ok (.goto 4, 3) := by decide +kernel
theorem dX7_findSteps_128 : decode cX7_findSteps 128 = .ok (.iconst 0, 1) := by decide +kernel
theorem dX7_findSteps_129 : decode cX7_findSteps 129 = .ok (.ireturn, 1) := by decide +kernel
