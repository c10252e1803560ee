theorem dX7_init_0 : decode cX7_init 0 = .ok (.aload_n 0, 1) := by decide +kernel
theorem dX7_init_1 : decode cX7_init 1 = .ok (.invokespecial 3, 3) := by decide +kernel
theorem dX7_init_4 : decode cX7_init 4 = .ok (.aload_n 0, 1) := by decide +kernel
theorem dX7_init_5 : decode cX7_init 5 = .ok (.sipush 345, 3) := by decide +kernel
theorem dX7_init_8 : decode cX7_init 8 = .ok (.newarray .int, 2) := by decide +kernel
theorem dX7_init_10 : decode cX7_init 10 = .ok (.putfield 9, 3) := by decide +kernel
theorem dX7_init_13 : decode cX7_init 13 = .ok (.aload_n 0, 1) := by decide +kernel
theorem dX7_init_14 : decode cX7_init 14 = .ok (.sipush 345, 3) := by decide +kernel
theorem dX7_init_17 : decode cX7_init 17 = .ok (.newarray .int, 2) := by decide +kernel
theorem dX7_init_19 : decode cX7_init 19 = .ok (.putfield 13, 3) := by decide +kernel
theorem dX7_init_22 : decode cX7_init 22 = .ok (.aload_n 0, 1) := by decide +kernel
theorem dX7_init_23 : decode cX7_init 23 = .ok (.sipush 345, 3) := by decide +kernel
theorem dX7_init_26 : decode cX7_init 26 = .ok (.newarray .int, 2) := by decide +kernel
theorem dX7_init_28 : decode cX7_init 28 = .ok (.putfield 16, 3) := by decide +kernel
theorem dX7_init_31 : decode cX7_init 31 = .ok (.aload_n 0, 1) := by decide +kernel
theorem dX7_init_32 : decode cX7_init 32 = .ok (.sipush 345, 3) := by decide +kernel
theorem dX7_init_35 : decode cX7_init 35 = .ok (.newarray .int, 2) := by decide +kernel
theorem dX7_init_37 : decode cX7_init 37 = .ok (.putfield 19, 3) := by decide +kernel
theorem dX7_init_40 : decode cX7_init 40 = .ok (.aload_n 0, 1) := by decide +kernel
theorem dX7_init_41 : decode cX7_init 41 = .ok (.sipush 2760, 3) := by decide +kernel
theorem dX7_init_44 : decode cX7_init 44 = .ok (.newarray .int, 2) := by decide +kernel
theorem dX7_init_46 : decode cX7_init 46 = .ok (.putfield 22, 3) := by decide +kernel
theorem dX7_init_49 : decode cX7_init 49 = .ok (.aload_n 0, 1) := by decide +kernel
theorem dX7_init_50 : decode cX7_init 50 = .ok (.bipush 12, 2) := by decide +kernel
theorem dX7_init_52 : decode cX7_init 52 = .ok (.newarray .char, 2) := by decide +kernel
theorem dX7_init_54 : decode cX7_init 54 = .ok (.putfield 25, 3) := by decide +kernel
theorem dX7_init_57 : decode cX7_init 57 = .ok (.aload_n 0, 1) := by decide +kernel
theorem dX7_init_58 : decode cX7_init 58 = .ok (.bipush 60, 2) := by decide +kernel
theorem dX7_init_60 : decode cX7_init 60 = .ok (.newarray .char, 2) := by decide +kernel
theorem dX7_init_62 : decode cX7_init 62 = .ok (.putfield 29, 3) := by decide +kernel
theorem dX7_init_65 : decode cX7_init 65 = .ok (.aload_n 0, 1) := by decide +kernel
theorem dX7_init_66 : decode cX7_init 66 = .ok (.iconst (-1), 1) := by decide +kernel
theorem dX7_init_67 : decode cX7_init 67 = .ok (.putfield 32, 3) := by decide +kernel
theorem dX7_init_70 : decode cX7_init 70 = .ok (.aload_n 0, 1) := by decide +kernel
theorem dX7_init_71 : decode cX7_init 71 = .ok (.sipush 300, 3) := by decide +kernel
theorem dX7_init_74 : decode cX7_init 74 = .ok (.newarray .int, 2) := by decide +kernel
theorem dX7_init_76 : decode cX7_init 76 = .ok (.putfield 36, 3) := by decide +kernel
theorem dX7_init_79 : decode cX7_init 79 = .ok (.return_, 1) := by decide +kernel
theorem dX7_thrown_0 : decode cX7_thrown 0 = .ok (.aload_n 0, 1) := by decide +kernel
theorem dX7_thrown_1 : decode cX7_thrown 1 = .ok (.getfield 39, 3) := by decide +kernel
theorem dX7_thrown_4 : decode cX7_thrown 4 = .ok (.ireturn, 1) := by decide +kernel
theorem dX7_in_0 : decode cX7_in 0 = .ok (.iload_n 0, 1) := by decide +kernel
theorem dX7_in_1 : decode cX7_in 1 = .ok (.iload_n 1, 1) := by decide +kernel
theorem dX7_in_2 : decode cX7_in 2 = .ok (.if_icmp .lt 12, 3) := by decide +kernel
theorem dX7_in_5 : decode cX7_in 5 = .ok (.iload_n 0, 1) := by decide +kernel
theorem dX7_in_6 : decode cX7_in 6 = .ok (.iload_n 2, 1) := by decide +kernel
theorem dX7_in_7 : decode cX7_in 7 = .ok (.if_icmp .gt 7, 3) := by decide +kernel
theorem dX7_in_10 : decode cX7_in 10 = .ok (.iconst 1, 1) := by decide +kernel
theorem dX7_in_11 : decode cX7_in 11 = .ok (.goto 4, 3) := by decide +kernel
theorem dX7_in_14 : decode cX7_in 14 = .ok (.iconst 0, 1) := by decide +kernel
theorem dX7_in_15 : decode cX7_in 15 = .ok (.ireturn, 1) := by decide +kernel
theorem dX7_keep_0 : decode cX7_keep 0 = .ok (.aload_n 0, 1) := by decide +kernel
theorem dX7_keep_1 : decode cX7_keep 1 = .ok (.iconst 0, 1) := by decide +kernel
theorem dX7_keep_2 : decode cX7_keep 2 = .ok (.putfield 39, 3) := by decide +kernel
theorem dX7_keep_5 : decode cX7_keep 5 = .ok (.aload_n 0, 1) := by decide +kernel
theorem dX7_keep_6 : decode cX7_keep 6 = .ok (.getfield 9, 3) := by decide +kernel
theorem dX7_keep_9 : decode cX7_keep 9 = .ok (.iconst 0, 1) := by decide +kernel
theorem dX7_keep_10 : decode cX7_keep 10 = .ok (.aload_n 0, 1) := by decide +kernel
theorem dX7_keep_11 : decode cX7_keep 11 = .ok (.getfield 13, 3) := by decide +kernel
theorem dX7_keep_14 : decode cX7_keep 14 = .ok (.iconst 0, 1) := by decide +kernel
theorem dX7_keep_15 : decode cX7_keep 15 = .ok (.sipush 345, 3) := by decide +kernel
theorem dX7_keep_18 : decode cX7_keep 18 = .ok (.invokestatic 42, 3) := by decide +kernel
theorem dX7_keep_21 : decode cX7_keep 21 = .ok (.return_, 1) := by decide +kernel
theorem dX7_ends_0 : decode cX7_ends 0 = .ok (.aload_n 0, 1) := by decide +kernel
theorem dX7_ends_1 : decode cX7_ends 1 = .ok (.getfield 39, 3) := by decide +kernel
theorem dX7_ends_4 : decode cX7_ends 4 = .ok (.ifCond .le 21, 3) := by decide +kernel
theorem dX7_ends_7 : decode cX7_ends 7 = .ok (.aload_n 0, 1) := by decide +kernel
theorem dX7_ends_8 : decode cX7_ends 8 = .ok (.getfield 13, 3) := by decide +kernel
theorem dX7_ends_11 : decode cX7_ends 11 = .ok (.iconst 0, 1) := by decide +kernel
theorem dX7_ends_12 : decode cX7_ends 12 = .ok (.aload_n 0, 1) := by decide +kernel
theorem dX7_ends_13 : decode cX7_ends 13 = .ok (.getfield 9, 3) := by decide +kernel
theorem dX7_ends_16 : decode cX7_ends 16 = .ok (.iconst 0, 1) := by decide +kernel
theorem dX7_ends_17 : decode cX7_ends 17 = .ok (.sipush 345, 3) := by decide +kernel
theorem dX7_ends_20 : decode cX7_ends 20 = .ok (.invokestatic 42, 3) := by decide +kernel
theorem dX7_ends_23 : decode cX7_ends 23 = .ok (.iconst 0, 1) := by decide +kernel
theorem dX7_ends_24 : decode cX7_ends 24 = .ok (.ireturn, 1) := by decide +kernel
theorem dX7_ends_25 : decode cX7_ends 25 = .ok (.aload_n 0, 1) := by decide +kernel
theorem dX7_ends_26 : decode cX7_ends 26 = .ok (.getfield 48, 3) := by decide +kernel
theorem dX7_ends_29 : decode cX7_ends 29 = .ok (.bipush 8, 2) := by decide +kernel
theorem dX7_ends_31 : decode cX7_ends 31 = .ok (.if_icmp .ne 31, 3) := by decide +kernel
theorem dX7_ends_34 : decode cX7_ends 34 = .ok (.aload_n 0, 1) := by decide +kernel
theorem dX7_ends_35 : decode cX7_ends 35 = .ok (.getfield 22, 3) := by decide +kernel
theorem dX7_ends_38 : decode cX7_ends 38 = .ok (.sipush 345, 3) := by decide +kernel
theorem dX7_ends_41 : decode cX7_ends 41 = .ok (.aload_n 0, 1) := by decide +kernel
theorem dX7_ends_42 : decode cX7_ends 42 = .ok (.getfield 22, 3) := by decide +kernel
theorem dX7_ends_45 : decode cX7_ends 45 = .ok (.iconst 0, 1) := by decide +kernel
theorem dX7_ends_46 : decode cX7_ends 46 = .ok (.sipush 2415, 3) := by decide +kernel
theorem dX7_ends_49 : decode cX7_ends 49 = .ok (.invokestatic 42, 3) := by decide +kernel
theorem dX7_ends_52 : decode cX7_ends 52 = .ok (.aload_n 0, 1) := by decide +kernel
theorem dX7_ends_53 : decode cX7_ends 53 = .ok (.dup, 1) := by decide +kernel
theorem dX7_ends_54 : decode cX7_ends 54 = .ok (.getfield 48, 3) := by decide +kernel
theorem dX7_ends_57 : decode cX7_ends 57 = .ok (.iconst 1, 1) := by decide +kernel
theorem dX7_ends_58 : decode cX7_ends 58 = .ok (.isub, 1) := by decide +kernel
theorem dX7_ends_59 : decode cX7_ends 59 = .ok (.putfield 48, 3) := by decide +kernel
theorem dX7_ends_62 : decode cX7_ends 62 = .ok (.aload_n 0, 1) := by decide +kernel
theorem dX7_ends_63 : decode cX7_ends 63 = .ok (.getfield 13, 3) := by decide +kernel
theorem dX7_ends_66 : decode cX7_ends 66 = .ok (.iconst 0, 1) := by decide +kernel
theorem dX7_ends_67 : decode cX7_ends 67 = .ok (.aload_n 0, 1) := by decide +kernel
theorem dX7_ends_68 : decode cX7_ends 68 = .ok (.getfield 22, 3) := by decide +kernel
theorem dX7_ends_71 : decode cX7_ends 71 = .ok (.sipush 345, 3) := by decide +kernel
theorem dX7_ends_74 : decode cX7_ends 74 = .ok (.aload_n 0, 1) := by decide +kernel
theorem dX7_ends_75 : decode cX7_ends 75 = .ok (.getfield 48, 3) := by decide +kernel
theorem dX7_ends_78 : decode cX7_ends 78 = .ok (.imul, 1) := by decide +kernel
theorem dX7_ends_79 : decode cX7_ends 79 = .ok (.sipush 345, 3) := by decide +kernel
theorem dX7_ends_82 : decode cX7_ends 82 = .ok (.invokestatic 42, 3) := by decide +kernel
theorem dX7_ends_85 : decode cX7_ends 85 = .ok (.aload_n 0, 1) := by decide +kernel
theorem dX7_ends_86 : decode cX7_ends 86 = .ok (.dup, 1) := by decide +kernel
theorem dX7_ends_87 : decode cX7_ends 87 = .ok (.getfield 48, 3) := by decide +kernel
theorem dX7_ends_90 : decode cX7_ends 90 = .ok (.iconst 1, 1) := by decide +kernel
theorem dX7_ends_91 : decode cX7_ends 91 = .ok (.iadd, 1) := by decide +kernel
theorem dX7_ends_92 : decode cX7_ends 92 = .ok (.putfield 48, 3) := by decide +kernel
theorem dX7_ends_95 : decode cX7_ends 95 = .ok (.iload_n 1, 1) := by decide +kernel
theorem dX7_ends_96 : decode cX7_ends 96 = .ok (.ireturn, 1) := by decide +kernel
theorem dX7_fails_0 : decode cX7_fails 0 = .ok (.aload_n 0, 1) := by decide +kernel
theorem dX7_fails_1 : decode cX7_fails 1 = .ok (.iload_n 1, 1) := by decide +kernel
theorem dX7_fails_2 : decode cX7_fails 2 = .ok (.putfield 39, 3) := by decide +kernel
theorem dX7_fails_5 : decode cX7_fails 5 = .ok (.iconst 0, 1) := by decide +kernel
theorem dX7_fails_6 : decode cX7_fails 6 = .ok (.ireturn, 1) := by decide +kernel
theorem dX7_refuse_0 : decode cX7_refuse 0 = .ok (.aload_n 0, 1) := by decide +kernel
theorem dX7_refuse_1 : decode cX7_refuse 1 = .ok (.iload_n 1, 1) := by decide +kernel
theorem dX7_refuse_2 : decode cX7_refuse 2 = .ok (.putfield 39, 3) := by decide +kernel
theorem dX7_refuse_5 : decode cX7_refuse 5 = .ok (.aload_n 0, 1) := by decide +kernel
theorem dX7_refuse_6 : decode cX7_refuse 6 = .ok (.iload_n 2, 1) := by decide +kernel
theorem dX7_refuse_7 : decode cX7_refuse 7 = .ok (.putfield 51, 3) := by decide +kernel
theorem dX7_refuse_10 : decode cX7_refuse 10 = .ok (.aload_n 0, 1) := by decide +kernel
theorem dX7_refuse_11 : decode cX7_refuse 11 = .ok (.iload_n 3, 1) := by decide +kernel
theorem dX7_refuse_12 : decode cX7_refuse 12 = .ok (.putfield 54, 3) := by decide +kernel
theorem dX7_refuse_15 : decode cX7_refuse 15 = .ok (.aload_n 0, 1) := by decide +kernel
theorem dX7_refuse_16 : decode cX7_refuse 16 = .ok (.iconst 1, 1) := by decide +kernel
theorem dX7_refuse_17 : decode cX7_refuse 17 = .ok (.putfield 57, 3) := by decide +kernel
theorem dX7_refuse_20 : decode cX7_refuse 20 = .ok (.iconst 0, 1) := by decide +kernel
theorem dX7_refuse_21 : decode cX7_refuse 21 = .ok (.ireturn, 1) := by decide +kernel
theorem dX7_refusal_0 : decode cX7_refusal 0 = .ok (.aload_n 0, 1) := by decide +kernel
theorem dX7_refusal_1 : decode cX7_refusal 1 = .ok (.aload_n 0, 1) := by decide +kernel
theorem dX7_refusal_2 : decode cX7_refusal 2 = .ok (.getfield 51, 3) := by decide +kernel
theorem dX7_refusal_5 : decode cX7_refusal 5 = .ok (.ifCond .ne 7, 3) := by decide +kernel
theorem dX7_refusal_8 : decode cX7_refusal 8 = .ok (.iconst 1, 1) := by decide +kernel
theorem dX7_refusal_9 : decode cX7_refusal 9 = .ok (.goto 4, 3) := by decide +kernel
theorem dX7_refusal_12 : decode cX7_refusal 12 = .ok (.iconst 0, 1) := by decide +kernel
theorem dX7_refusal_13 : decode cX7_refusal 13 = .ok (.putfield 39, 3) := by decide +kernel
theorem dX7_refusal_16 : decode cX7_refusal 16 = .ok (.aload_n 0, 1) := by decide +kernel
theorem dX7_refusal_17 : decode cX7_refusal 17 = .ok (.getfield 39, 3) := by decide +kernel
theorem dX7_refusal_20 : decode cX7_refusal 20 = .ok (.ifCond .le 7, 3) := by decide +kernel
theorem dX7_refusal_23 : decode cX7_refusal 23 = .ok (.iconst 0, 1) := by decide +kernel
theorem dX7_refusal_24 : decode cX7_refusal 24 = .ok (.goto 18, 3) := by decide +kernel
theorem dX7_refusal_27 : decode cX7_refusal 27 = .ok (.iload_n 1, 1) := by decide +kernel
theorem dX7_refusal_28 : decode cX7_refusal 28 = .ok (.ifCond .eq 10, 3) := by decide +kernel
theorem dX7_refusal_31 : decode cX7_refusal 31 = .ok (.aload_n 0, 1) := by decide +kernel
theorem dX7_refusal_32 : decode cX7_refusal 32 = .ok (.getfield 54, 3) := by decide +kernel
theorem dX7_refusal_35 : decode cX7_refusal 35 = .ok (.goto 7, 3) := by decide +kernel
theorem dX7_refusal_38 : decode cX7_refusal 38 = .ok (.aload_n 0, 1) := by decide +kernel
theorem dX7_refusal_39 : decode cX7_refusal 39 = .ok (.getfield 51, 3) := by decide +kernel
theorem dX7_refusal_42 : decode cX7_refusal 42 = .ok (.ireturn, 1) := by decide +kernel
theorem dX7_of_0 : decode cX7_of 0 = .ok (.aload_n 0, 1) := by decide +kernel
theorem dX7_of_1 : decode cX7_of 1 = .ok (.getfield 9, 3) := by decide +kernel
theorem dX7_of_4 : decode cX7_of 4 = .ok (.iconst 5, 1) := by decide +kernel
theorem dX7_of_5 : decode cX7_of 5 = .ok (.bipush 68, 2) := by decide +kernel
theorem dX7_of_7 : decode cX7_of 7 = .ok (.iload_n 1, 1) := by decide +kernel
theorem dX7_of_8 : decode cX7_of 8 = .ok (.imul, 1) := by decide +kernel
theorem dX7_of_9 : decode cX7_of 9 = .ok (.iadd, 1) := by decide +kernel
theorem dX7_of_10 : decode cX7_of 10 = .ok (.iload_n 2, 1) := by decide +kernel
theorem dX7_of_11 : decode cX7_of 11 = .ok (.iadd, 1) := by decide +kernel
theorem dX7_of_12 : decode cX7_of 12 = .ok (.iaload, 1) := by decide +kernel
theorem dX7_of_13 : decode cX7_of 13 = .ok (.ireturn, 1) := by decide +kernel
theorem dX7_set_0 : decode cX7_set 0 = .ok (.aload_n 0, 1) := by decide +kernel
theorem dX7_set_1 : decode cX7_set 1 = .ok (.getfield 9, 3) := by decide +kernel
theorem dX7_set_4 : decode cX7_set 4 = .ok (.iconst 5, 1) := by decide +kernel
theorem dX7_set_5 : decode cX7_set 5 = .ok (.bipush 68, 2) := by decide +kernel
theorem dX7_set_7 : decode cX7_set 7 = .ok (.iload_n 1, 1) := by decide +kernel
theorem dX7_set_8 : decode cX7_set 8 = .ok (.imul, 1) := by decide +kernel
theorem dX7_set_9 : decode cX7_set 9 = .ok (.iadd, 1) := by decide +kernel
theorem dX7_set_10 : decode cX7_set 10 = .ok (.iload_n 2, 1) := by decide +kernel
theorem dX7_set_11 : decode cX7_set 11 = .ok (.iadd, 1) := by decide +kernel
theorem dX7_set_12 : decode cX7_set 12 = .ok (.iload_n 3, 1) := by decide +kernel
theorem dX7_set_13 : decode cX7_set 13 = .ok (.iastore, 1) := by decide +kernel
theorem dX7_set_14 : decode cX7_set 14 = .ok (.return_, 1) := by decide +kernel
theorem dX7_isScroll_0 : decode cX7_isScroll 0 = .ok (.iload_n 1, 1) := by decide +kernel
theorem dX7_isScroll_1 : decode cX7_isScroll 1 = .ok (.iconst 0, 1) := by decide +kernel
theorem dX7_isScroll_2 : decode cX7_isScroll 2 = .ok (.aload_n 0, 1) := by decide +kernel
theorem dX7_isScroll_3 : decode cX7_isScroll 3 = .ok (.getfield 9, 3) := by decide +kernel
theorem dX7_isScroll_6 : decode cX7_isScroll 6 = .ok (.iconst 0, 1) := by decide +kernel
theorem dX7_isScroll_7 : decode cX7_isScroll 7 = .ok (.iaload, 1) := by decide +kernel
theorem dX7_isScroll_8 : decode cX7_isScroll 8 = .ok (.iconst 1, 1) := by decide +kernel
theorem dX7_isScroll_9 : decode cX7_isScroll 9 = .ok (.isub, 1) := by decide +kernel
theorem dX7_isScroll_10 : decode cX7_isScroll 10 = .ok (.invokestatic 61, 3) := by decide +kernel
theorem dX7_isScroll_13 : decode cX7_isScroll 13 = .ok (.ireturn, 1) := by decide +kernel
theorem dX7_isRow_0 : decode cX7_isRow 0 = .ok (.aload_n 0, 1) := by decide +kernel
theorem dX7_isRow_1 : decode cX7_isRow 1 = .ok (.iload_n 1, 1) := by decide +kernel
theorem dX7_isRow_2 : decode cX7_isRow 2 = .ok (.invokevirtual 65, 3) := by decide +kernel
theorem dX7_isRow_5 : decode cX7_isRow 5 = .ok (.ifCond .eq 23, 3) := by decide +kernel
theorem dX7_isRow_8 : decode cX7_isRow 8 = .ok (.iload_n 2, 1) := by decide +kernel
theorem dX7_isRow_9 : decode cX7_isRow 9 = .ok (.iconst 0, 1) := by decide +kernel
theorem dX7_isRow_10 : decode cX7_isRow 10 = .ok (.aload_n 0, 1) := by decide +kernel
theorem dX7_isRow_11 : decode cX7_isRow 11 = .ok (.iload_n 1, 1) := by decide +kernel
theorem dX7_isRow_12 : decode cX7_isRow 12 = .ok (.iconst 0, 1) := by decide +kernel
theorem dX7_isRow_13 : decode cX7_isRow 13 = .ok (.invokevirtual 69, 3) := by decide +kernel
theorem dX7_isRow_16 : decode cX7_isRow 16 = .ok (.iconst 1, 1) := by decide +kernel
theorem dX7_isRow_17 : decode cX7_isRow 17 = .ok (.isub, 1) := by decide +kernel
theorem dX7_isRow_18 : decode cX7_isRow 18 = .ok (.invokestatic 61, 3) := by decide +kernel
theorem dX7_isRow_21 : decode cX7_isRow 21 = .ok (.ifCond .eq 7, 3) := by decide +kernel
theorem dX7_isRow_24 : decode cX7_isRow 24 = .ok (.iconst 1, 1) := by decide +kernel
theorem dX7_isRow_25 : decode cX7_isRow 25 = .ok (.goto 4, 3) := by decide +kernel
theorem dX7_isRow_28 : decode cX7_isRow 28 = .ok (.iconst 0, 1) := by decide +kernel
theorem dX7_isRow_29 : decode cX7_isRow 29 = .ok (.ireturn, 1) := by decide +kernel
theorem dX7_isColumn_0 : decode cX7_isColumn 0 = .ok (.aload_n 0, 1) := by decide +kernel
theorem dX7_isColumn_1 : decode cX7_isColumn 1 = .ok (.iload_n 1, 1) := by decide +kernel
theorem dX7_isColumn_2 : decode cX7_isColumn 2 = .ok (.invokevirtual 65, 3) := by decide +kernel
theorem dX7_isColumn_5 : decode cX7_isColumn 5 = .ok (.ifCond .eq 23, 3) := by decide +kernel
theorem dX7_isColumn_8 : decode cX7_isColumn 8 = .ok (.iload_n 2, 1) := by decide +kernel
theorem dX7_isColumn_9 : decode cX7_isColumn 9 = .ok (.iconst 0, 1) := by decide +kernel
theorem dX7_isColumn_10 : decode cX7_isColumn 10 = .ok (.aload_n 0, 1) := by decide +kernel
theorem dX7_isColumn_11 : decode cX7_isColumn 11 = .ok (.iload_n 1, 1) := by decide +kernel
theorem dX7_isColumn_12 : decode cX7_isColumn 12 = .ok (.iconst 1, 1) := by decide +kernel
theorem dX7_isColumn_13 : decode cX7_isColumn 13 = .ok (.invokevirtual 69, 3) := by decide +kernel
theorem dX7_isColumn_16 : decode cX7_isColumn 16 = .ok (.iconst 1, 1) := by decide +kernel
theorem dX7_isColumn_17 : decode cX7_isColumn 17 = .ok (.isub, 1) := by decide +kernel
theorem dX7_isColumn_18 : decode cX7_isColumn 18 = .ok (.invokestatic 61, 3) := by decide +kernel
theorem dX7_isColumn_21 : decode cX7_isColumn 21 = .ok (.ifCond .eq 7, 3) := by decide +kernel
theorem dX7_isColumn_24 : decode cX7_isColumn 24 = .ok (.iconst 1, 1) := by decide +kernel
theorem dX7_isColumn_25 : decode cX7_isColumn 25 = .ok (.goto 4, 3) := by decide +kernel
theorem dX7_isColumn_28 : decode cX7_isColumn 28 = .ok (.iconst 0, 1) := by decide +kernel
theorem dX7_isColumn_29 : decode cX7_isColumn 29 = .ok (.ireturn, 1) := by decide +kernel
theorem dX7_isCell_0 : decode cX7_isCell 0 = .ok (.aload_n 0, 1) := by decide +kernel
theorem dX7_isCell_1 : decode cX7_isCell 1 = .ok (.iload_n 1, 1) := by decide +kernel
theorem dX7_isCell_2 : decode cX7_isCell 2 = .ok (.iload_n 2, 1) := by decide +kernel
theorem dX7_isCell_3 : decode cX7_isCell 3 = .ok (.invokevirtual 73, 3) := by decide +kernel
theorem dX7_isCell_6 : decode cX7_isCell 6 = .ok (.ifCond .eq 16, 3) := by decide +kernel
theorem dX7_isCell_9 : decode cX7_isCell 9 = .ok (.aload_n 0, 1) := by decide +kernel
theorem dX7_isCell_10 : decode cX7_isCell 10 = .ok (.iload_n 1, 1) := by decide +kernel
theorem dX7_isCell_11 : decode cX7_isCell 11 = .ok (.iload_n 3, 1) := by decide +kernel
theorem dX7_isCell_12 : decode cX7_isCell 12 = .ok (.invokevirtual 77, 3) := by decide +kernel
theorem dX7_isCell_15 : decode cX7_isCell 15 = .ok (.ifCond .eq 7, 3) := by decide +kernel
theorem dX7_isCell_18 : decode cX7_isCell 18 = .ok (.iconst 1, 1) := by decide +kernel
theorem dX7_isCell_19 : decode cX7_isCell 19 = .ok (.goto 4, 3) := by decide +kernel
theorem dX7_isCell_22 : decode cX7_isCell 22 = .ok (.iconst 0, 1) := by decide +kernel
theorem dX7_isCell_23 : decode cX7_isCell 23 = .ok (.ireturn, 1) := by decide +kernel
theorem dX7_sign1_0 : decode cX7_sign1 0 = .ok (.aload_n 0, 1) := by decide +kernel
theorem dX7_sign1_1 : decode cX7_sign1 1 = .ok (.iload_n 1, 1) := by decide +kernel
theorem dX7_sign1_2 : decode cX7_sign1 2 = .ok (.bipush 20, 2) := by decide +kernel
theorem dX7_sign1_4 : decode cX7_sign1 4 = .ok (.bipush 8, 2) := by decide +kernel
theorem dX7_sign1_6 : decode cX7_sign1 6 = .ok (.iload_n 2, 1) := by decide +kernel
theorem dX7_sign1_7 : decode cX7_sign1 7 = .ok (.imul, 1) := by decide +kernel
theorem dX7_sign1_8 : decode cX7_sign1 8 = .ok (.iadd, 1) := by decide +kernel
theorem dX7_sign1_9 : decode cX7_sign1 9 = .ok (.iload_n 3, 1) := by decide +kernel
theorem dX7_sign1_10 : decode cX7_sign1 10 = .ok (.iadd, 1) := by decide +kernel
theorem dX7_sign1_11 : decode cX7_sign1 11 = .ok (.invokevirtual 69, 3) := by decide +kernel
theorem dX7_sign1_14 : decode cX7_sign1 14 = .ok (.ireturn, 1) := by decide +kernel
theorem dX7_setSign_0 : decode cX7_setSign 0 = .ok (.aload_n 0, 1) := by decide +kernel
theorem dX7_setSign_1 : decode cX7_setSign 1 = .ok (.iload_n 1, 1) := by decide +kernel
theorem dX7_setSign_2 : decode cX7_setSign 2 = .ok (.bipush 20, 2) := by decide +kernel
theorem dX7_setSign_4 : decode cX7_setSign 4 = .ok (.bipush 8, 2) := by decide +kernel
theorem dX7_setSign_6 : decode cX7_setSign 6 = .ok (.iload_n 2, 1) := by decide +kernel
theorem dX7_setSign_7 : decode cX7_setSign 7 = .ok (.imul, 1) := by decide +kernel
theorem dX7_setSign_8 : decode cX7_setSign 8 = .ok (.iadd, 1) := by decide +kernel
theorem dX7_setSign_9 : decode cX7_setSign 9 = .ok (.iload_n 3, 1) := by decide +kernel
theorem dX7_setSign_10 : decode cX7_setSign 10 = .ok (.iadd, 1) := by decide +kernel
theorem dX7_setSign_11 : decode cX7_setSign 11 = .ok (.iload 4, 2) := by decide +kernel
theorem dX7_setSign_13 : decode cX7_setSign 13 = .ok (.invokevirtual 80, 3) := by decide +kernel
theorem dX7_setSign_16 : decode cX7_setSign 16 = .ok (.return_, 1) := by decide +kernel
theorem dX7_isSealed_0 : decode cX7_isSealed 0 = .ok (.aload_n 0, 1) := by decide +kernel
theorem dX7_isSealed_1 : decode cX7_isSealed 1 = .ok (.iload_n 1, 1) := by decide +kernel
theorem dX7_isSealed_2 : decode cX7_isSealed 2 = .ok (.iconst 2, 1) := by decide +kernel
theorem dX7_isSealed_3 : decode cX7_isSealed 3 = .ok (.invokevirtual 69, 3) := by decide +kernel
theorem dX7_isSealed_6 : decode cX7_isSealed 6 = .ok (.iconst 1, 1) := by decide +kernel
theorem dX7_isSealed_7 : decode cX7_isSealed 7 = .ok (.if_icmp .ne 7, 3) := by decide +kernel
theorem dX7_isSealed_10 : decode cX7_isSealed 10 = .ok (.iconst 1, 1) := by decide +kernel
theorem dX7_isSealed_11 : decode cX7_isSealed 11 = .ok (.goto 4, 3) := by decide +kernel
theorem dX7_isSealed_14 : decode cX7_isSealed 14 = .ok (.iconst 0, 1) := by decide +kernel
theorem dX7_isSealed_15 : decode cX7_isSealed 15 = .ok (.ireturn, 1) := by decide +kernel
theorem dX7_smudged_0 : decode cX7_smudged 0 = .ok (.iconst 0, 1) := by decide +kernel
theorem dX7_smudged_1 : decode cX7_smudged 1 = .ok (.istore_n 2, 1) := by decide +kernel
theorem dX7_smudged_2 : decode cX7_smudged 2 = .ok (.iconst 0, 1) := by decide +kernel
theorem dX7_smudged_3 : decode cX7_smudged 3 = .ok (.istore_n 3, 1) := by decide +kernel
theorem dX7_smudged_4 : decode cX7_smudged 4 = .ok (.iload_n 3, 1) := by decide +kernel
theorem dX7_smudged_5 : decode cX7_smudged 5 = .ok (.aload_n 0, 1) := by decide +kernel
theorem dX7_smudged_6 : decode cX7_smudged 6 = .ok (.iload_n 1, 1) := by decide +kernel
theorem dX7_smudged_7 : decode cX7_smudged 7 = .ok (.iconst 0, 1) := by decide +kernel
theorem dX7_smudged_8 : decode cX7_smudged 8 = .ok (.invokevirtual 69, 3) := by decide +kernel
theorem dX7_smudged_11 : decode cX7_smudged 11 = .ok (.if_icmp .ge 19, 3) := by decide +kernel
theorem dX7_smudged_14 : decode cX7_smudged 14 = .ok (.iload_n 2, 1) := by decide +kernel
theorem dX7_smudged_15 : decode cX7_smudged 15 = .ok (.aload_n 0, 1) := by decide +kernel
theorem dX7_smudged_16 : decode cX7_smudged 16 = .ok (.iload_n 1, 1) := by decide +kernel
theorem dX7_smudged_17 : decode cX7_smudged 17 = .ok (.iconst 1, 1) := by decide +kernel
theorem dX7_smudged_18 : decode cX7_smudged 18 = .ok (.iload_n 3, 1) := by decide +kernel
theorem dX7_smudged_19 : decode cX7_smudged 19 = .ok (.invokevirtual 84, 3) := by decide +kernel
theorem dX7_smudged_22 : decode cX7_smudged 22 = .ok (.iadd, 1) := by decide +kernel
theorem dX7_smudged_23 : decode cX7_smudged 23 = .ok (.istore_n 2, 1) := by decide +kernel
theorem dX7_smudged_24 : decode cX7_smudged 24 = .ok (.iinc 3 1, 3) := by decide +kernel
theorem dX7_smudged_27 : decode cX7_smudged 27 = .ok (.goto (-23), 3) := by decide +kernel
theorem dX7_smudged_30 : decode cX7_smudged 30 = .ok (.iload_n 2, 1) := by decide +kernel
theorem dX7_smudged_31 : decode cX7_smudged 31 = .ok (.ireturn, 1) := by decide +kernel
theorem dX7_length_0 : decode cX7_length 0 = .ok (.aload_n 0, 1) := by decide +kernel
theorem dX7_length_1 : decode cX7_length 1 = .ok (.iload_n 1, 1) := by decide +kernel
theorem dX7_length_2 : decode cX7_length 2 = .ok (.iload_n 2, 1) := by decide +kernel
theorem dX7_length_3 : decode cX7_length 3 = .ok (.ifCond .eq 7, 3) := by decide +kernel
theorem dX7_length_6 : decode cX7_length 6 = .ok (.iconst 1, 1) := by decide +kernel
theorem dX7_length_7 : decode cX7_length 7 = .ok (.goto 4, 3) := by decide +kernel
theorem dX7_length_10 : decode cX7_length 10 = .ok (.iconst 0, 1) := by decide +kernel
theorem dX7_length_11 : decode cX7_length 11 = .ok (.invokevirtual 69, 3) := by decide +kernel
theorem dX7_length_14 : decode cX7_length 14 = .ok (.ireturn, 1) := by decide +kernel
theorem dX7_along_0 : decode cX7_along 0 = .ok (.iload_n 2, 1) := by decide +kernel
theorem dX7_along_1 : decode cX7_along 1 = .ok (.ifCond .eq 14, 3) := by decide +kernel
theorem dX7_along_4 : decode cX7_along 4 = .ok (.aload_n 0, 1) := by decide +kernel
theorem dX7_along_5 : decode cX7_along 5 = .ok (.iload_n 1, 1) := by decide +kernel
theorem dX7_along_6 : decode cX7_along 6 = .ok (.iload_n 3, 1) := by decide +kernel
theorem dX7_along_7 : decode cX7_along 7 = .ok (.iload 4, 2) := by decide +kernel
theorem dX7_along_9 : decode cX7_along 9 = .ok (.invokevirtual 88, 3) := by decide +kernel
theorem dX7_along_12 : decode cX7_along 12 = .ok (.goto 11, 3) := by decide +kernel
theorem dX7_along_15 : decode cX7_along 15 = .ok (.aload_n 0, 1) := by decide +kernel
theorem dX7_along_16 : decode cX7_along 16 = .ok (.iload_n 1, 1) := by decide +kernel
theorem dX7_along_17 : decode cX7_along 17 = .ok (.iload 4, 2) := by decide +kernel
theorem dX7_along_19 : decode cX7_along 19 = .ok (.iload_n 3, 1) := by decide +kernel
theorem dX7_along_20 : decode cX7_along 20 = .ok (.invokevirtual 88, 3) := by decide +kernel
theorem dX7_along_23 : decode cX7_along 23 = .ok (.ireturn, 1) := by decide +kernel
theorem dX7_smudgedIn_0 : decode cX7_smudgedIn 0 = .ok (.iconst 0, 1) := by decide +kernel
theorem dX7_smudgedIn_1 : decode cX7_smudgedIn 1 = .ok (.istore 4, 2) := by decide +kernel
theorem dX7_smudgedIn_3 : decode cX7_smudgedIn 3 = .ok (.iconst 0, 1) := by decide +kernel
theorem dX7_smudgedIn_4 : decode cX7_smudgedIn 4 = .ok (.istore 5, 2) := by decide +kernel
theorem dX7_smudgedIn_6 : decode cX7_smudgedIn 6 = .ok (.iload 5, 2) := by decide +kernel
theorem dX7_smudgedIn_8 : decode cX7_smudgedIn 8 = .ok (.aload_n 0, 1) := by decide +kernel
theorem dX7_smudgedIn_9 : decode cX7_smudgedIn 9 = .ok (.iload_n 1, 1) := by decide +kernel
theorem dX7_smudgedIn_10 : decode cX7_smudgedIn 10 = .ok (.iload_n 2, 1) := by decide +kernel
theorem dX7_smudgedIn_11 : decode cX7_smudgedIn 11 = .ok (.invokevirtual 92, 3) := by decide +kernel
theorem dX7_smudgedIn_14 : decode cX7_smudgedIn 14 = .ok (.if_icmp .ge 31, 3) := by decide +kernel
theorem dX7_smudgedIn_17 : decode cX7_smudgedIn 17 = .ok (.iload 4, 2) := by decide +kernel
theorem dX7_smudgedIn_19 : decode cX7_smudgedIn 19 = .ok (.aload_n 0, 1) := by decide +kernel
theorem dX7_smudgedIn_20 : decode cX7_smudgedIn 20 = .ok (.iload_n 1, 1) := by decide +kernel
theorem dX7_smudgedIn_21 : decode cX7_smudgedIn 21 = .ok (.iload_n 2, 1) := by decide +kernel
theorem dX7_smudgedIn_22 : decode cX7_smudgedIn 22 = .ok (.iload_n 3, 1) := by decide +kernel
theorem dX7_smudgedIn_23 : decode cX7_smudgedIn 23 = .ok (.iload 5, 2) := by decide +kernel
theorem dX7_smudgedIn_25 : decode cX7_smudgedIn 25 = .ok (.invokevirtual 96, 3) := by decide +kernel
theorem dX7_smudgedIn_28 : decode cX7_smudgedIn 28 = .ok (.ifCond .ge 7, 3) := by decide +kernel
theorem dX7_smudgedIn_31 : decode cX7_smudgedIn 31 = .ok (.iconst 1, 1) := by decide +kernel
theorem dX7_smudgedIn_32 : decode cX7_smudgedIn 32 = .ok (.goto 4, 3) := by decide +kernel
theorem dX7_smudgedIn_35 : decode cX7_smudgedIn 35 = .ok (.iconst 0, 1) := by decide +kernel
theorem dX7_smudgedIn_36 : decode cX7_smudgedIn 36 = .ok (.iadd, 1) := by decide +kernel
theorem dX7_smudgedIn_37 : decode cX7_smudgedIn 37 = .ok (.istore 4, 2) := by decide +kernel
theorem dX7_smudgedIn_39 : decode cX7_smudgedIn 39 = .ok (.iinc 5 1, 3) := by decide +kernel
theorem dX7_smudgedIn_42 : decode cX7_smudgedIn 42 = .ok (.goto (-36), 3) := by decide +kernel
theorem dX7_smudgedIn_45 : decode cX7_smudgedIn 45 = .ok (.iload 4, 2) := by decide +kernel
theorem dX7_smudgedIn_47 : decode cX7_smudgedIn 47 = .ok (.ireturn, 1) := by decide +kernel
theorem dX7_sumOf_0 : decode cX7_sumOf 0 = .ok (.iconst 0, 1) := by decide +kernel
theorem dX7_sumOf_1 : decode cX7_sumOf 1 = .ok (.istore 4, 2) := by decide +kernel
theorem dX7_sumOf_3 : decode cX7_sumOf 3 = .ok (.iconst 0, 1) := by decide +kernel
theorem dX7_sumOf_4 : decode cX7_sumOf 4 = .ok (.istore 5, 2) := by decide +kernel
theorem dX7_sumOf_6 : decode cX7_sumOf 6 = .ok (.iload 5, 2) := by decide +kernel
theorem dX7_sumOf_8 : decode cX7_sumOf 8 = .ok (.aload_n 0, 1) := by decide +kernel
theorem dX7_sumOf_9 : decode cX7_sumOf 9 = .ok (.iload_n 1, 1) := by decide +kernel
theorem dX7_sumOf_10 : decode cX7_sumOf 10 = .ok (.iload_n 2, 1) := by decide +kernel
theorem dX7_sumOf_11 : decode cX7_sumOf 11 = .ok (.invokevirtual 92, 3) := by decide +kernel
theorem dX7_sumOf_14 : decode cX7_sumOf 14 = .ok (.if_icmp .ge 27, 3) := by decide +kernel
theorem dX7_sumOf_17 : decode cX7_sumOf 17 = .ok (.iload 4, 2) := by decide +kernel
theorem dX7_sumOf_19 : decode cX7_sumOf 19 = .ok (.iconst 0, 1) := by decide +kernel
theorem dX7_sumOf_20 : decode cX7_sumOf 20 = .ok (.aload_n 0, 1) := by decide +kernel
theorem dX7_sumOf_21 : decode cX7_sumOf 21 = .ok (.iload_n 1, 1) := by decide +kernel
theorem dX7_sumOf_22 : decode cX7_sumOf 22 = .ok (.iload_n 2, 1) := by decide +kernel
theorem dX7_sumOf_23 : decode cX7_sumOf 23 = .ok (.iload_n 3, 1) := by decide +kernel
theorem dX7_sumOf_24 : decode cX7_sumOf 24 = .ok (.iload 5, 2) := by decide +kernel
theorem dX7_sumOf_26 : decode cX7_sumOf 26 = .ok (.invokevirtual 96, 3) := by decide +kernel
theorem dX7_sumOf_29 : decode cX7_sumOf 29 = .ok (.invokestatic 100, 3) := by decide +kernel
theorem dX7_sumOf_32 : decode cX7_sumOf 32 = .ok (.iadd, 1) := by decide +kernel
theorem dX7_sumOf_33 : decode cX7_sumOf 33 = .ok (.istore 4, 2) := by decide +kernel
theorem dX7_sumOf_35 : decode cX7_sumOf 35 = .ok (.iinc 5 1, 3) := by decide +kernel
theorem dX7_sumOf_38 : decode cX7_sumOf 38 = .ok (.goto (-32), 3) := by decide +kernel
theorem dX7_sumOf_41 : decode cX7_sumOf 41 = .ok (.iload 4, 2) := by decide +kernel
theorem dX7_sumOf_43 : decode cX7_sumOf 43 = .ok (.bipush 10, 2) := by decide +kernel
theorem dX7_sumOf_45 : decode cX7_sumOf 45 = .ok (.irem, 1) := by decide +kernel
theorem dX7_sumOf_46 : decode cX7_sumOf 46 = .ok (.ireturn, 1) := by decide +kernel
theorem dX7_told_0 : decode cX7_told 0 = .ok (.aload_n 0, 1) := by decide +kernel
theorem dX7_told_1 : decode cX7_told 1 = .ok (.iload_n 1, 1) := by decide +kernel
theorem dX7_told_2 : decode cX7_told 2 = .ok (.iload_n 2, 1) := by decide +kernel
theorem dX7_told_3 : decode cX7_told 3 = .ok (.ifCond .eq 8, 3) := by decide +kernel
theorem dX7_told_6 : decode cX7_told 6 = .ok (.bipush 6, 2) := by decide +kernel
theorem dX7_told_8 : decode cX7_told 8 = .ok (.goto 5, 3) := by decide +kernel
theorem dX7_told_11 : decode cX7_told 11 = .ok (.bipush 12, 2) := by decide +kernel
theorem dX7_told_13 : decode cX7_told 13 = .ok (.iload_n 3, 1) := by decide +kernel
theorem dX7_told_14 : decode cX7_told 14 = .ok (.iadd, 1) := by decide +kernel
theorem dX7_told_15 : decode cX7_told 15 = .ok (.invokevirtual 69, 3) := by decide +kernel
theorem dX7_told_18 : decode cX7_told 18 = .ok (.ireturn, 1) := by decide +kernel
theorem dX7_faultOf_0 : decode cX7_faultOf 0 = .ok (.aload_n 0, 1) := by decide +kernel
theorem dX7_faultOf_1 : decode cX7_faultOf 1 = .ok (.iload_n 1, 1) := by decide +kernel
theorem dX7_faultOf_2 : decode cX7_faultOf 2 = .ok (.iload_n 2, 1) := by decide +kernel
theorem dX7_faultOf_3 : decode cX7_faultOf 3 = .ok (.iload_n 3, 1) := by decide +kernel
theorem dX7_faultOf_4 : decode cX7_faultOf 4 = .ok (.invokevirtual 105, 3) := by decide +kernel
theorem dX7_faultOf_7 : decode cX7_faultOf 7 = .ok (.aload_n 0, 1) := by decide +kernel
theorem dX7_faultOf_8 : decode cX7_faultOf 8 = .ok (.iload_n 1, 1) := by decide +kernel
theorem dX7_faultOf_9 : decode cX7_faultOf 9 = .ok (.iload_n 2, 1) := by decide +kernel
theorem dX7_faultOf_10 : decode cX7_faultOf 10 = .ok (.iload_n 3, 1) := by decide +kernel
theorem dX7_faultOf_11 : decode cX7_faultOf 11 = .ok (.invokevirtual 108, 3) := by decide +kernel
theorem dX7_faultOf_14 : decode cX7_faultOf 14 = .ok (.isub, 1) := by decide +kernel
theorem dX7_faultOf_15 : decode cX7_faultOf 15 = .ok (.bipush 10, 2) := by decide +kernel
theorem dX7_faultOf_17 : decode cX7_faultOf 17 = .ok (.iadd, 1) := by decide +kernel
theorem dX7_faultOf_18 : decode cX7_faultOf 18 = .ok (.bipush 10, 2) := by decide +kernel
theorem dX7_faultOf_20 : decode cX7_faultOf 20 = .ok (.irem, 1) := by decide +kernel
theorem dX7_faultOf_21 : decode cX7_faultOf 21 = .ok (.ireturn, 1) := by decide +kernel
theorem dX7_isWrong_0 : decode cX7_isWrong 0 = .ok (.aload_n 0, 1) := by decide +kernel
theorem dX7_isWrong_1 : decode cX7_isWrong 1 = .ok (.iload_n 1, 1) := by decide +kernel
theorem dX7_isWrong_2 : decode cX7_isWrong 2 = .ok (.invokevirtual 111, 3) := by decide +kernel
theorem dX7_isWrong_5 : decode cX7_isWrong 5 = .ok (.ifCond .eq 27, 3) := by decide +kernel
theorem dX7_isWrong_8 : decode cX7_isWrong 8 = .ok (.aload_n 0, 1) := by decide +kernel
theorem dX7_isWrong_9 : decode cX7_isWrong 9 = .ok (.iload_n 1, 1) := by decide +kernel
theorem dX7_isWrong_10 : decode cX7_isWrong 10 = .ok (.iload_n 2, 1) := by decide +kernel
theorem dX7_isWrong_11 : decode cX7_isWrong 11 = .ok (.iload_n 3, 1) := by decide +kernel
theorem dX7_isWrong_12 : decode cX7_isWrong 12 = .ok (.invokevirtual 84, 3) := by decide +kernel
theorem dX7_isWrong_15 : decode cX7_isWrong 15 = .ok (.ifCond .ne 17, 3) := by decide +kernel
theorem dX7_isWrong_18 : decode cX7_isWrong 18 = .ok (.aload_n 0, 1) := by decide +kernel
theorem dX7_isWrong_19 : decode cX7_isWrong 19 = .ok (.iload_n 1, 1) := by decide +kernel
theorem dX7_isWrong_20 : decode cX7_isWrong 20 = .ok (.iload_n 2, 1) := by decide +kernel
theorem dX7_isWrong_21 : decode cX7_isWrong 21 = .ok (.iload_n 3, 1) := by decide +kernel
theorem dX7_isWrong_22 : decode cX7_isWrong 22 = .ok (.invokevirtual 114, 3) := by decide +kernel
theorem dX7_isWrong_25 : decode cX7_isWrong 25 = .ok (.ifCond .le 7, 3) := by decide +kernel
theorem dX7_isWrong_28 : decode cX7_isWrong 28 = .ok (.iconst 1, 1) := by decide +kernel
theorem dX7_isWrong_29 : decode cX7_isWrong 29 = .ok (.goto 4, 3) := by decide +kernel
theorem dX7_isWrong_32 : decode cX7_isWrong 32 = .ok (.iconst 0, 1) := by decide +kernel
theorem dX7_isWrong_33 : decode cX7_isWrong 33 = .ok (.ireturn, 1) := by decide +kernel
theorem dX7_wrongMany_0 : decode cX7_wrongMany 0 = .ok (.iconst 0, 1) := by decide +kernel
theorem dX7_wrongMany_1 : decode cX7_wrongMany 1 = .ok (.istore_n 3, 1) := by decide +kernel
theorem dX7_wrongMany_2 : decode cX7_wrongMany 2 = .ok (.iconst 0, 1) := by decide +kernel
theorem dX7_wrongMany_3 : decode cX7_wrongMany 3 = .ok (.istore 4, 2) := by decide +kernel
theorem dX7_wrongMany_5 : decode cX7_wrongMany 5 = .ok (.iload 4, 2) := by decide +kernel
theorem dX7_wrongMany_7 : decode cX7_wrongMany 7 = .ok (.aload_n 0, 1) := by decide +kernel
theorem dX7_wrongMany_8 : decode cX7_wrongMany 8 = .ok (.iload_n 1, 1) := by decide +kernel
theorem dX7_wrongMany_9 : decode cX7_wrongMany 9 = .ok (.iload_n 2, 1) := by decide +kernel
theorem dX7_wrongMany_10 : decode cX7_wrongMany 10 = .ok (.ifCond .ne 7, 3) := by decide +kernel
theorem dX7_wrongMany_13 : decode cX7_wrongMany 13 = .ok (.iconst 1, 1) := by decide +kernel
theorem dX7_wrongMany_14 : decode cX7_wrongMany 14 = .ok (.goto 4, 3) := by decide +kernel
theorem dX7_wrongMany_17 : decode cX7_wrongMany 17 = .ok (.iconst 0, 1) := by decide +kernel
theorem dX7_wrongMany_18 : decode cX7_wrongMany 18 = .ok (.invokevirtual 92, 3) := by decide +kernel
theorem dX7_wrongMany_21 : decode cX7_wrongMany 21 = .ok (.if_icmp .ge 28, 3) := by decide +kernel
theorem dX7_wrongMany_24 : decode cX7_wrongMany 24 = .ok (.iload_n 3, 1) := by decide +kernel
theorem dX7_wrongMany_25 : decode cX7_wrongMany 25 = .ok (.aload_n 0, 1) := by decide +kernel
theorem dX7_wrongMany_26 : decode cX7_wrongMany 26 = .ok (.iload_n 1, 1) := by decide +kernel
theorem dX7_wrongMany_27 : decode cX7_wrongMany 27 = .ok (.iload_n 2, 1) := by decide +kernel
theorem dX7_wrongMany_28 : decode cX7_wrongMany 28 = .ok (.iload 4, 2) := by decide +kernel
theorem dX7_wrongMany_30 : decode cX7_wrongMany 30 = .ok (.invokevirtual 117, 3) := by decide +kernel
theorem dX7_wrongMany_33 : decode cX7_wrongMany 33 = .ok (.ifCond .eq 7, 3) := by decide +kernel
theorem dX7_wrongMany_36 : decode cX7_wrongMany 36 = .ok (.iconst 1, 1) := by decide +kernel
theorem dX7_wrongMany_37 : decode cX7_wrongMany 37 = .ok (.goto 4, 3) := by decide +kernel
theorem dX7_wrongMany_40 : decode cX7_wrongMany 40 = .ok (.iconst 0, 1) := by decide +kernel
theorem dX7_wrongMany_41 : decode cX7_wrongMany 41 = .ok (.iadd, 1) := by decide +kernel
theorem dX7_wrongMany_42 : decode cX7_wrongMany 42 = .ok (.istore_n 3, 1) := by decide +kernel
theorem dX7_wrongMany_43 : decode cX7_wrongMany 43 = .ok (.iinc 4 1, 3) := by decide +kernel
theorem dX7_wrongMany_46 : decode cX7_wrongMany 46 = .ok (.goto (-41), 3) := by decide +kernel
theorem dX7_wrongMany_49 : decode cX7_wrongMany 49 = .ok (.iload_n 3, 1) := by decide +kernel
theorem dX7_wrongMany_50 : decode cX7_wrongMany 50 = .ok (.ireturn, 1) := by decide +kernel
theorem dX7_wrongFirst_0 : decode cX7_wrongFirst 0 = .ok (.iconst 0, 1) := by decide +kernel
theorem dX7_wrongFirst_1 : decode cX7_wrongFirst 1 = .ok (.istore_n 3, 1) := by decide +kernel
theorem dX7_wrongFirst_2 : decode cX7_wrongFirst 2 = .ok (.iload_n 3, 1) := by decide +kernel
theorem dX7_wrongFirst_3 : decode cX7_wrongFirst 3 = .ok (.aload_n 0, 1) := by decide +kernel
theorem dX7_wrongFirst_4 : decode cX7_wrongFirst 4 = .ok (.iload_n 1, 1) := by decide +kernel
theorem dX7_wrongFirst_5 : decode cX7_wrongFirst 5 = .ok (.iload_n 2, 1) := by decide +kernel
theorem dX7_wrongFirst_6 : decode cX7_wrongFirst 6 = .ok (.ifCond .ne 7, 3) := by decide +kernel
theorem dX7_wrongFirst_9 : decode cX7_wrongFirst 9 = .ok (.iconst 1, 1) := by decide +kernel
theorem dX7_wrongFirst_10 : decode cX7_wrongFirst 10 = .ok (.goto 4, 3) := by decide +kernel
theorem dX7_wrongFirst_13 : decode cX7_wrongFirst 13 = .ok (.iconst 0, 1) := by decide +kernel
theorem dX7_wrongFirst_14 : decode cX7_wrongFirst 14 = .ok (.invokevirtual 92, 3) := by decide +kernel
theorem dX7_wrongFirst_17 : decode cX7_wrongFirst 17 = .ok (.if_icmp .ge 21, 3) := by decide +kernel
theorem dX7_wrongFirst_20 : decode cX7_wrongFirst 20 = .ok (.aload_n 0, 1) := by decide +kernel
theorem dX7_wrongFirst_21 : decode cX7_wrongFirst 21 = .ok (.iload_n 1, 1) := by decide +kernel
theorem dX7_wrongFirst_22 : decode cX7_wrongFirst 22 = .ok (.iload_n 2, 1) := by decide +kernel
theorem dX7_wrongFirst_23 : decode cX7_wrongFirst 23 = .ok (.iload_n 3, 1) := by decide +kernel
theorem dX7_wrongFirst_24 : decode cX7_wrongFirst 24 = .ok (.invokevirtual 117, 3) := by decide +kernel
theorem dX7_wrongFirst_27 : decode cX7_wrongFirst 27 = .ok (.ifCond .eq 5, 3) := by decide +kernel
theorem dX7_wrongFirst_30 : decode cX7_wrongFirst 30 = .ok (.iload_n 3, 1) := by decide +kernel
theorem dX7_wrongFirst_31 : decode cX7_wrongFirst 31 = .ok (.ireturn, 1) := by decide +kernel
theorem dX7_wrongFirst_32 : decode cX7_wrongFirst 32 = .ok (.iinc 3 1, 3) := by decide +kernel
theorem dX7_wrongFirst_35 : decode cX7_wrongFirst 35 = .ok (.goto (-33), 3) := by decide +kernel
theorem dX7_wrongFirst_38 : decode cX7_wrongFirst 38 = .ok (.iconst (-1), 1) := by decide +kernel
theorem dX7_wrongFirst_39 : decode cX7_wrongFirst 39 = .ok (.ireturn, 1) := by decide +kernel
theorem dX7_scroll_0 : decode cX7_scroll 0 = .ok (.aload_n 0, 1) := by decide +kernel
theorem dX7_scroll_1 : decode cX7_scroll 1 = .ok (.getfield 9, 3) := by decide +kernel
theorem dX7_scroll_4 : decode cX7_scroll 4 = .ok (.iconst 0, 1) := by decide +kernel
theorem dX7_scroll_5 : decode cX7_scroll 5 = .ok (.iaload, 1) := by decide +kernel
theorem dX7_scroll_6 : decode cX7_scroll 6 = .ok (.istore_n 3, 1) := by decide +kernel
theorem dX7_scroll_7 : decode cX7_scroll 7 = .ok (.aload_n 0, 1) := by decide +kernel
theorem dX7_scroll_8 : decode cX7_scroll 8 = .ok (.invokevirtual 121, 3) := by decide +kernel
theorem dX7_scroll_11 : decode cX7_scroll 11 = .ok (.iload_n 1, 1) := by decide +kernel
theorem dX7_scroll_12 : decode cX7_scroll 12 = .ok (.iconst 1, 1) := by decide +kernel
theorem dX7_scroll_13 : decode cX7_scroll 13 = .ok (.bipush 6, 2) := by decide +kernel
theorem dX7_scroll_15 : decode cX7_scroll 15 = .ok (.invokestatic 61, 3) := by decide +kernel
theorem dX7_scroll_18 : decode cX7_scroll 18 = .ok (.ifCond .eq 13, 3) := by decide +kernel
theorem dX7_scroll_21 : decode cX7_scroll 21 = .ok (.iload_n 2, 1) := by decide +kernel
theorem dX7_scroll_22 : decode cX7_scroll 22 = .ok (.iconst 1, 1) := by decide +kernel
theorem dX7_scroll_23 : decode cX7_scroll 23 = .ok (.bipush 8, 2) := by decide +kernel
theorem dX7_scroll_25 : decode cX7_scroll 25 = .ok (.invokestatic 61, 3) := by decide +kernel
theorem dX7_scroll_28 : decode cX7_scroll 28 = .ok (.ifCond .ne 9, 3) := by decide +kernel
theorem dX7_scroll_31 : decode cX7_scroll 31 = .ok (.aload_n 0, 1) := by decide +kernel
theorem dX7_scroll_32 : decode cX7_scroll 32 = .ok (.iconst 1, 1) := by decide +kernel
theorem dX7_scroll_33 : decode cX7_scroll 33 = .ok (.invokevirtual 124, 3) := by decide +kernel
theorem dX7_scroll_36 : decode cX7_scroll 36 = .ok (.ireturn, 1) := by decide +kernel
theorem dX7_scroll_37 : decode cX7_scroll 37 = .ok (.iload_n 3, 1) := by decide +kernel
theorem dX7_scroll_38 : decode cX7_scroll 38 = .ok (.iconst 5, 1) := by decide +kernel
theorem dX7_scroll_39 : decode cX7_scroll 39 = .ok (.if_icmp .ne 11, 3) := by decide +kernel
theorem dX7_scroll_42 : decode cX7_scroll 42 = .ok (.aload_n 0, 1) := by decide +kernel
theorem dX7_scroll_43 : decode cX7_scroll 43 = .ok (.iconst 2, 1) := by decide +kernel
theorem dX7_scroll_44 : decode cX7_scroll 44 = .ok (.iconst 1, 1) := by decide +kernel
theorem dX7_scroll_45 : decode cX7_scroll 45 = .ok (.iconst 5, 1) := by decide +kernel
theorem dX7_scroll_46 : decode cX7_scroll 46 = .ok (.invokevirtual 128, 3) := by decide +kernel
theorem dX7_scroll_49 : decode cX7_scroll 49 = .ok (.ireturn, 1) := by decide +kernel
theorem dX7_scroll_50 : decode cX7_scroll 50 = .ok (.iconst 0, 1) := by decide +kernel
theorem dX7_scroll_51 : decode cX7_scroll 51 = .ok (.istore 4, 2) := by decide +kernel
theorem dX7_scroll_53 : decode cX7_scroll 53 = .ok (.iload 4, 2) := by decide +kernel
theorem dX7_scroll_55 : decode cX7_scroll 55 = .ok (.bipush 68, 2) := by decide +kernel
theorem dX7_scroll_57 : decode cX7_scroll 57 = .ok (.if_icmp .ge 46, 3) := by decide +kernel
theorem dX7_scroll_60 : decode cX7_scroll 60 = .ok (.aload_n 0, 1) := by decide +kernel
theorem dX7_scroll_61 : decode cX7_scroll 61 = .ok (.iload_n 3, 1) := by decide +kernel
theorem dX7_scroll_62 : decode cX7_scroll 62 = .ok (.iload 4, 2) := by decide +kernel
theorem dX7_scroll_64 : decode cX7_scroll 64 = .ok (.iload 4, 2) := by decide +kernel
theorem dX7_scroll_66 : decode cX7_scroll 66 = .ok (.ifCond .ne 7, 3) := by decide +kernel
theorem dX7_scroll_69 : decode cX7_scroll 69 = .ok (.iload_n 1, 1) := by decide +kernel
theorem dX7_scroll_70 : decode cX7_scroll 70 = .ok (.goto 24, 3) := by decide +kernel
theorem dX7_scroll_73 : decode cX7_scroll 73 = .ok (.iload 4, 2) := by decide +kernel
theorem dX7_scroll_75 : decode cX7_scroll 75 = .ok (.iconst 1, 1) := by decide +kernel
theorem dX7_scroll_76 : decode cX7_scroll 76 = .ok (.if_icmp .ne 7, 3) := by decide +kernel
theorem dX7_scroll_79 : decode cX7_scroll 79 = .ok (.iload_n 2, 1) := by decide +kernel
theorem dX7_scroll_80 : decode cX7_scroll 80 = .ok (.goto 14, 3) := by decide +kernel
theorem dX7_scroll_83 : decode cX7_scroll 83 = .ok (.iload 4, 2) := by decide +kernel
theorem dX7_scroll_85 : decode cX7_scroll 85 = .ok (.iconst 3, 1) := by decide +kernel
theorem dX7_scroll_86 : decode cX7_scroll 86 = .ok (.if_icmp .ne 7, 3) := by decide +kernel
theorem dX7_scroll_89 : decode cX7_scroll 89 = .ok (.iconst (-1), 1) := by decide +kernel
theorem dX7_scroll_90 : decode cX7_scroll 90 = .ok (.goto 4, 3) := by decide +kernel
theorem dX7_scroll_93 : decode cX7_scroll 93 = .ok (.iconst 0, 1) := by decide +kernel
theorem dX7_scroll_94 : decode cX7_scroll 94 = .ok (.invokevirtual 80, 3) := by decide +kernel
theorem dX7_scroll_97 : decode cX7_scroll 97 = .ok (.iinc 4 1, 3) := by decide +kernel
theorem dX7_scroll_100 : decode cX7_scroll 100 = .ok (.goto (-47), 3) := by decide +kernel
theorem dX7_scroll_103 : decode cX7_scroll 103 = .ok (.aload_n 0, 1) := by decide +kernel
theorem dX7_scroll_104 : decode cX7_scroll 104 = .ok (.getfield 9, 3) := by decide +kernel
theorem dX7_scroll_107 : decode cX7_scroll 107 = .ok (.iconst 0, 1) := by decide +kernel
theorem dX7_scroll_108 : decode cX7_scroll 108 = .ok (.dup2, 1) := by decide +kernel
theorem dX7_scroll_109 : decode cX7_scroll 109 = .ok (.iaload, 1) := by decide +kernel
theorem dX7_scroll_110 : decode cX7_scroll 110 = .ok (.iconst 1, 1) := by decide +kernel
theorem dX7_scroll_111 : decode cX7_scroll 111 = .ok (.iadd, 1) := by decide +kernel
theorem dX7_scroll_112 : decode cX7_scroll 112 = .ok (.iastore, 1) := by decide +kernel
theorem dX7_scroll_113 : decode cX7_scroll 113 = .ok (.aload_n 0, 1) := by decide +kernel
theorem dX7_scroll_114 : decode cX7_scroll 114 = .ok (.iload_n 3, 1) := by decide +kernel
theorem dX7_scroll_115 : decode cX7_scroll 115 = .ok (.invokevirtual 131, 3) := by decide +kernel
theorem dX7_scroll_118 : decode cX7_scroll 118 = .ok (.ireturn, 1) := by decide +kernel
theorem dX7_scrollOf_0 : decode cX7_scrollOf 0 = .ok (.aload_n 0, 1) := by decide +kernel
theorem dX7_scrollOf_1 : decode cX7_scrollOf 1 = .ok (.aload_n 0, 1) := by decide +kernel
theorem dX7_scrollOf_2 : decode cX7_scrollOf 2 = .ok (.iload_n 1, 1) := by decide +kernel
theorem dX7_scrollOf_3 : decode cX7_scrollOf 3 = .ok (.invokevirtual 65, 3) := by decide +kernel
theorem dX7_scrollOf_6 : decode cX7_scrollOf 6 = .ok (.ifCond .ne 7, 3) := by decide +kernel
theorem dX7_scrollOf_9 : decode cX7_scrollOf 9 = .ok (.iconst 1, 1) := by decide +kernel
theorem dX7_scrollOf_10 : decode cX7_scrollOf 10 = .ok (.goto 18, 3) := by decide +kernel
theorem dX7_scrollOf_13 : decode cX7_scrollOf 13 = .ok (.iload_n 2, 1) := by decide +kernel
theorem dX7_scrollOf_14 : decode cX7_scrollOf 14 = .ok (.iconst 0, 1) := by decide +kernel
theorem dX7_scrollOf_15 : decode cX7_scrollOf 15 = .ok (.bipush 6, 2) := by decide +kernel
theorem dX7_scrollOf_17 : decode cX7_scrollOf 17 = .ok (.invokestatic 61, 3) := by decide +kernel
theorem dX7_scrollOf_20 : decode cX7_scrollOf 20 = .ok (.ifCond .ne 7, 3) := by decide +kernel
theorem dX7_scrollOf_23 : decode cX7_scrollOf 23 = .ok (.iconst 2, 1) := by decide +kernel
theorem dX7_scrollOf_24 : decode cX7_scrollOf 24 = .ok (.goto 4, 3) := by decide +kernel
theorem dX7_scrollOf_27 : decode cX7_scrollOf 27 = .ok (.iconst 0, 1) := by decide +kernel
theorem dX7_scrollOf_28 : decode cX7_scrollOf 28 = .ok (.putfield 39, 3) := by decide +kernel
theorem dX7_scrollOf_31 : decode cX7_scrollOf 31 = .ok (.aload_n 0, 1) := by decide +kernel
theorem dX7_scrollOf_32 : decode cX7_scrollOf 32 = .ok (.getfield 39, 3) := by decide +kernel
theorem dX7_scrollOf_35 : decode cX7_scrollOf 35 = .ok (.ifCond .le 5, 3) := by decide +kernel
theorem dX7_scrollOf_38 : decode cX7_scrollOf 38 = .ok (.iconst 0, 1) := by decide +kernel
theorem dX7_scrollOf_39 : decode cX7_scrollOf 39 = .ok (.ireturn, 1) := by decide +kernel
theorem dX7_scrollOf_40 : decode cX7_scrollOf 40 = .ok (.iload_n 2, 1) := by decide +kernel
theorem dX7_scrollOf_41 : decode cX7_scrollOf 41 = .ok (.iconst 4, 1) := by decide +kernel
theorem dX7_scrollOf_42 : decode cX7_scrollOf 42 = .ok (.if_icmp .ne 11, 3) := by decide +kernel
theorem dX7_scrollOf_45 : decode cX7_scrollOf 45 = .ok (.aload_n 0, 1) := by decide +kernel
theorem dX7_scrollOf_46 : decode cX7_scrollOf 46 = .ok (.iload_n 1, 1) := by decide +kernel
theorem dX7_scrollOf_47 : decode cX7_scrollOf 47 = .ok (.invokevirtual 134, 3) := by decide +kernel
theorem dX7_scrollOf_50 : decode cX7_scrollOf 50 = .ok (.goto 20, 3) := by decide +kernel
theorem dX7_scrollOf_53 : decode cX7_scrollOf 53 = .ok (.aload_n 0, 1) := by decide +kernel
theorem dX7_scrollOf_54 : decode cX7_scrollOf 54 = .ok (.iload_n 1, 1) := by decide +kernel
theorem dX7_scrollOf_55 : decode cX7_scrollOf 55 = .ok (.iload_n 2, 1) := by decide +kernel
theorem dX7_scrollOf_56 : decode cX7_scrollOf 56 = .ok (.iconst 4, 1) := by decide +kernel
theorem dX7_scrollOf_57 : decode cX7_scrollOf 57 = .ok (.if_icmp .le 9, 3) := by decide +kernel
theorem dX7_scrollOf_60 : decode cX7_scrollOf 60 = .ok (.iload_n 2, 1) := by decide +kernel
theorem dX7_scrollOf_61 : decode cX7_scrollOf 61 = .ok (.iconst 1, 1) := by decide +kernel
theorem dX7_scrollOf_62 : decode cX7_scrollOf 62 = .ok (.isub, 1) := by decide +kernel
theorem dX7_scrollOf_63 : decode cX7_scrollOf 63 = .ok (.goto 4, 3) := by decide +kernel
theorem dX7_scrollOf_66 : decode cX7_scrollOf 66 = .ok (.iload_n 2, 1) := by decide +kernel
theorem dX7_scrollOf_67 : decode cX7_scrollOf 67 = .ok (.invokevirtual 69, 3) := by decide +kernel
theorem dX7_scrollOf_70 : decode cX7_scrollOf 70 = .ok (.ireturn, 1) := by decide +kernel
theorem dX7_doWrite_0 : decode cX7_doWrite 0 = .ok (.aload_n 0, 1) := by decide +kernel
theorem dX7_doWrite_1 : decode cX7_doWrite 1 = .ok (.iload_n 1, 1) := by decide +kernel
theorem dX7_doWrite_2 : decode cX7_doWrite 2 = .ok (.iload_n 2, 1) := by decide +kernel
theorem dX7_doWrite_3 : decode cX7_doWrite 3 = .ok (.iload_n 3, 1) := by decide +kernel
theorem dX7_doWrite_4 : decode cX7_doWrite 4 = .ok (.invokevirtual 137, 3) := by decide +kernel
theorem dX7_doWrite_7 : decode cX7_doWrite 7 = .ok (.ifCond .ne 9, 3) := by decide +kernel
theorem dX7_doWrite_10 : decode cX7_doWrite 10 = .ok (.aload_n 0, 1) := by decide +kernel
theorem dX7_doWrite_11 : decode cX7_doWrite 11 = .ok (.iconst 1, 1) := by decide +kernel
theorem dX7_doWrite_12 : decode cX7_doWrite 12 = .ok (.invokevirtual 124, 3) := by decide +kernel
theorem dX7_doWrite_15 : decode cX7_doWrite 15 = .ok (.ireturn, 1) := by decide +kernel
theorem dX7_doWrite_16 : decode cX7_doWrite 16 = .ok (.iload 4, 2) := by decide +kernel
theorem dX7_doWrite_18 : decode cX7_doWrite 18 = .ok (.iconst 0, 1) := by decide +kernel
theorem dX7_doWrite_19 : decode cX7_doWrite 19 = .ok (.bipush 9, 2) := by decide +kernel
theorem dX7_doWrite_21 : decode cX7_doWrite 21 = .ok (.invokestatic 61, 3) := by decide +kernel
theorem dX7_doWrite_24 : decode cX7_doWrite 24 = .ok (.ifCond .ne 9, 3) := by decide +kernel
theorem dX7_doWrite_27 : decode cX7_doWrite 27 = .ok (.aload_n 0, 1) := by decide +kernel
theorem dX7_doWrite_28 : decode cX7_doWrite 28 = .ok (.iconst 2, 1) := by decide +kernel
theorem dX7_doWrite_29 : decode cX7_doWrite 29 = .ok (.invokevirtual 124, 3) := by decide +kernel
theorem dX7_doWrite_32 : decode cX7_doWrite 32 = .ok (.ireturn, 1) := by decide +kernel
theorem dX7_doWrite_33 : decode cX7_doWrite 33 = .ok (.aload_n 0, 1) := by decide +kernel
theorem dX7_doWrite_34 : decode cX7_doWrite 34 = .ok (.iload_n 1, 1) := by decide +kernel
theorem dX7_doWrite_35 : decode cX7_doWrite 35 = .ok (.iload_n 2, 1) := by decide +kernel
theorem dX7_doWrite_36 : decode cX7_doWrite 36 = .ok (.iload_n 3, 1) := by decide +kernel
theorem dX7_doWrite_37 : decode cX7_doWrite 37 = .ok (.invokevirtual 88, 3) := by decide +kernel
theorem dX7_doWrite_40 : decode cX7_doWrite 40 = .ok (.istore 5, 2) := by decide +kernel
theorem dX7_doWrite_42 : decode cX7_doWrite 42 = .ok (.aload_n 0, 1) := by decide +kernel
theorem dX7_doWrite_43 : decode cX7_doWrite 43 = .ok (.iload_n 1, 1) := by decide +kernel
theorem dX7_doWrite_44 : decode cX7_doWrite 44 = .ok (.iload_n 2, 1) := by decide +kernel
theorem dX7_doWrite_45 : decode cX7_doWrite 45 = .ok (.iload_n 3, 1) := by decide +kernel
theorem dX7_doWrite_46 : decode cX7_doWrite 46 = .ok (.iload 4, 2) := by decide +kernel
theorem dX7_doWrite_48 : decode cX7_doWrite 48 = .ok (.invokevirtual 140, 3) := by decide +kernel
theorem dX7_doWrite_51 : decode cX7_doWrite 51 = .ok (.iload 5, 2) := by decide +kernel
theorem dX7_doWrite_53 : decode cX7_doWrite 53 = .ok (.ireturn, 1) := by decide +kernel
theorem dX7_write_0 : decode cX7_write 0 = .ok (.aload_n 0, 1) := by decide +kernel
theorem dX7_write_1 : decode cX7_write 1 = .ok (.invokevirtual 121, 3) := by decide +kernel
theorem dX7_write_4 : decode cX7_write 4 = .ok (.aload_n 0, 1) := by decide +kernel
theorem dX7_write_5 : decode cX7_write 5 = .ok (.aload_n 0, 1) := by decide +kernel
theorem dX7_write_6 : decode cX7_write 6 = .ok (.iload_n 1, 1) := by decide +kernel
theorem dX7_write_7 : decode cX7_write 7 = .ok (.iload_n 2, 1) := by decide +kernel
theorem dX7_write_8 : decode cX7_write 8 = .ok (.iload_n 3, 1) := by decide +kernel
theorem dX7_write_9 : decode cX7_write 9 = .ok (.iload 4, 2) := by decide +kernel
theorem dX7_write_11 : decode cX7_write 11 = .ok (.invokevirtual 144, 3) := by decide +kernel
theorem dX7_write_14 : decode cX7_write 14 = .ok (.invokevirtual 131, 3) := by decide +kernel
theorem dX7_write_17 : decode cX7_write 17 = .ok (.ireturn, 1) := by decide +kernel
theorem dX7_signAt_0 : decode cX7_signAt 0 = .ok (.aload_n 0, 1) := by decide +kernel
theorem dX7_signAt_1 : decode cX7_signAt 1 = .ok (.aload_n 0, 1) := by decide +kernel
theorem dX7_signAt_2 : decode cX7_signAt 2 = .ok (.iload_n 1, 1) := by decide +kernel
theorem dX7_signAt_3 : decode cX7_signAt 3 = .ok (.iload_n 2, 1) := by decide +kernel
theorem dX7_signAt_4 : decode cX7_signAt 4 = .ok (.iload_n 3, 1) := by decide +kernel
theorem dX7_signAt_5 : decode cX7_signAt 5 = .ok (.invokevirtual 137, 3) := by decide +kernel
theorem dX7_signAt_8 : decode cX7_signAt 8 = .ok (.ifCond .eq 7, 3) := by decide +kernel
theorem dX7_signAt_11 : decode cX7_signAt 11 = .ok (.iconst 0, 1) := by decide +kernel
theorem dX7_signAt_12 : decode cX7_signAt 12 = .ok (.goto 4, 3) := by decide +kernel
theorem dX7_signAt_15 : decode cX7_signAt 15 = .ok (.iconst 1, 1) := by decide +kernel
theorem dX7_signAt_16 : decode cX7_signAt 16 = .ok (.putfield 39, 3) := by decide +kernel
theorem dX7_signAt_19 : decode cX7_signAt 19 = .ok (.aload_n 0, 1) := by decide +kernel
theorem dX7_signAt_20 : decode cX7_signAt 20 = .ok (.getfield 39, 3) := by decide +kernel
theorem dX7_signAt_23 : decode cX7_signAt 23 = .ok (.ifCond .le 7, 3) := by decide +kernel
theorem dX7_signAt_26 : decode cX7_signAt 26 = .ok (.iconst 0, 1) := by decide +kernel
theorem dX7_signAt_27 : decode cX7_signAt 27 = .ok (.goto 10, 3) := by decide +kernel
theorem dX7_signAt_30 : decode cX7_signAt 30 = .ok (.aload_n 0, 1) := by decide +kernel
theorem dX7_signAt_31 : decode cX7_signAt 31 = .ok (.iload_n 1, 1) := by decide +kernel
theorem dX7_signAt_32 : decode cX7_signAt 32 = .ok (.iload_n 2, 1) := by decide +kernel
theorem dX7_signAt_33 : decode cX7_signAt 33 = .ok (.iload_n 3, 1) := by decide +kernel
theorem dX7_signAt_34 : decode cX7_signAt 34 = .ok (.invokevirtual 88, 3) := by decide +kernel
theorem dX7_signAt_37 : decode cX7_signAt 37 = .ok (.ireturn, 1) := by decide +kernel
theorem dX7_doSeal_0 : decode cX7_doSeal 0 = .ok (.aload_n 0, 1) := by decide +kernel
theorem dX7_doSeal_1 : decode cX7_doSeal 1 = .ok (.iload_n 1, 1) := by decide +kernel
theorem dX7_doSeal_2 : decode cX7_doSeal 2 = .ok (.invokevirtual 65, 3) := by decide +kernel
theorem dX7_doSeal_5 : decode cX7_doSeal 5 = .ok (.ifCond .ne 9, 3) := by decide +kernel
theorem dX7_doSeal_8 : decode cX7_doSeal 8 = .ok (.aload_n 0, 1) := by decide +kernel
theorem dX7_doSeal_9 : decode cX7_doSeal 9 = .ok (.iconst 1, 1) := by decide +kernel
theorem dX7_doSeal_10 : decode cX7_doSeal 10 = .ok (.invokevirtual 124, 3) := by decide +kernel
theorem dX7_doSeal_13 : decode cX7_doSeal 13 = .ok (.ireturn, 1) := by decide +kernel
theorem dX7_doSeal_14 : decode cX7_doSeal 14 = .ok (.aload_n 0, 1) := by decide +kernel
theorem dX7_doSeal_15 : decode cX7_doSeal 15 = .ok (.iload_n 1, 1) := by decide +kernel
theorem dX7_doSeal_16 : decode cX7_doSeal 16 = .ok (.invokevirtual 134, 3) := by decide +kernel
theorem dX7_doSeal_19 : decode cX7_doSeal 19 = .ok (.ifCond .le 15, 3) := by decide +kernel
theorem dX7_doSeal_22 : decode cX7_doSeal 22 = .ok (.aload_n 0, 1) := by decide +kernel
theorem dX7_doSeal_23 : decode cX7_doSeal 23 = .ok (.iconst 2, 1) := by decide +kernel
theorem dX7_doSeal_24 : decode cX7_doSeal 24 = .ok (.iconst 2, 1) := by decide +kernel
theorem dX7_doSeal_25 : decode cX7_doSeal 25 = .ok (.aload_n 0, 1) := by decide +kernel
theorem dX7_doSeal_26 : decode cX7_doSeal 26 = .ok (.iload_n 1, 1) := by decide +kernel
theorem dX7_doSeal_27 : decode cX7_doSeal 27 = .ok (.invokevirtual 134, 3) := by decide +kernel
theorem dX7_doSeal_30 : decode cX7_doSeal 30 = .ok (.invokevirtual 128, 3) := by decide +kernel
theorem dX7_doSeal_33 : decode cX7_doSeal 33 = .ok (.ireturn, 1) := by decide +kernel
theorem dX7_doSeal_34 : decode cX7_doSeal 34 = .ok (.iconst 0, 1) := by decide +kernel
theorem dX7_doSeal_35 : decode cX7_doSeal 35 = .ok (.istore_n 2, 1) := by decide +kernel
theorem dX7_doSeal_36 : decode cX7_doSeal 36 = .ok (.iconst 0, 1) := by decide +kernel
theorem dX7_doSeal_37 : decode cX7_doSeal 37 = .ok (.istore_n 3, 1) := by decide +kernel
theorem dX7_doSeal_38 : decode cX7_doSeal 38 = .ok (.iload_n 3, 1) := by decide +kernel
theorem dX7_doSeal_39 : decode cX7_doSeal 39 = .ok (.aload_n 0, 1) := by decide +kernel
theorem dX7_doSeal_40 : decode cX7_doSeal 40 = .ok (.iload_n 1, 1) := by decide +kernel
theorem dX7_doSeal_41 : decode cX7_doSeal 41 = .ok (.iconst 0, 1) := by decide +kernel
theorem dX7_doSeal_42 : decode cX7_doSeal 42 = .ok (.invokevirtual 69, 3) := by decide +kernel
theorem dX7_doSeal_45 : decode cX7_doSeal 45 = .ok (.if_icmp .ge 35, 3) := by decide +kernel
theorem dX7_doSeal_48 : decode cX7_doSeal 48 = .ok (.aload_n 0, 1) := by decide +kernel
theorem dX7_doSeal_49 : decode cX7_doSeal 49 = .ok (.iload_n 1, 1) := by decide +kernel
theorem dX7_doSeal_50 : decode cX7_doSeal 50 = .ok (.bipush 6, 2) := by decide +kernel
theorem dX7_doSeal_52 : decode cX7_doSeal 52 = .ok (.iload_n 3, 1) := by decide +kernel
theorem dX7_doSeal_53 : decode cX7_doSeal 53 = .ok (.iadd, 1) := by decide +kernel
theorem dX7_doSeal_54 : decode cX7_doSeal 54 = .ok (.aload_n 0, 1) := by decide +kernel
theorem dX7_doSeal_55 : decode cX7_doSeal 55 = .ok (.iload_n 1, 1) := by decide +kernel
theorem dX7_doSeal_56 : decode cX7_doSeal 56 = .ok (.iconst 1, 1) := by decide +kernel
theorem dX7_doSeal_57 : decode cX7_doSeal 57 = .ok (.iload_n 3, 1) := by decide +kernel
theorem dX7_doSeal_58 : decode cX7_doSeal 58 = .ok (.invokevirtual 108, 3) := by decide +kernel
theorem dX7_doSeal_61 : decode cX7_doSeal 61 = .ok (.invokevirtual 80, 3) := by decide +kernel
theorem dX7_doSeal_64 : decode cX7_doSeal 64 = .ok (.iload_n 2, 1) := by decide +kernel
theorem dX7_doSeal_65 : decode cX7_doSeal 65 = .ok (.aload_n 0, 1) := by decide +kernel
theorem dX7_doSeal_66 : decode cX7_doSeal 66 = .ok (.iload_n 1, 1) := by decide +kernel
theorem dX7_doSeal_67 : decode cX7_doSeal 67 = .ok (.iconst 1, 1) := by decide +kernel
theorem dX7_doSeal_68 : decode cX7_doSeal 68 = .ok (.iload_n 3, 1) := by decide +kernel
theorem dX7_doSeal_69 : decode cX7_doSeal 69 = .ok (.invokevirtual 108, 3) := by decide +kernel
theorem dX7_doSeal_72 : decode cX7_doSeal 72 = .ok (.iadd, 1) := by decide +kernel
theorem dX7_doSeal_73 : decode cX7_doSeal 73 = .ok (.istore_n 2, 1) := by decide +kernel
theorem dX7_doSeal_74 : decode cX7_doSeal 74 = .ok (.iinc 3 1, 3) := by decide +kernel
theorem dX7_doSeal_77 : decode cX7_doSeal 77 = .ok (.goto (-39), 3) := by decide +kernel
theorem dX7_doSeal_80 : decode cX7_doSeal 80 = .ok (.iconst 0, 1) := by decide +kernel
theorem dX7_doSeal_81 : decode cX7_doSeal 81 = .ok (.istore_n 3, 1) := by decide +kernel
theorem dX7_doSeal_82 : decode cX7_doSeal 82 = .ok (.iload_n 3, 1) := by decide +kernel
theorem dX7_doSeal_83 : decode cX7_doSeal 83 = .ok (.aload_n 0, 1) := by decide +kernel
theorem dX7_doSeal_84 : decode cX7_doSeal 84 = .ok (.iload_n 1, 1) := by decide +kernel
theorem dX7_doSeal_85 : decode cX7_doSeal 85 = .ok (.iconst 1, 1) := by decide +kernel
theorem dX7_doSeal_86 : decode cX7_doSeal 86 = .ok (.invokevirtual 69, 3) := by decide +kernel
theorem dX7_doSeal_89 : decode cX7_doSeal 89 = .ok (.if_icmp .ge 25, 3) := by decide +kernel
theorem dX7_doSeal_92 : decode cX7_doSeal 92 = .ok (.aload_n 0, 1) := by decide +kernel
theorem dX7_doSeal_93 : decode cX7_doSeal 93 = .ok (.iload_n 1, 1) := by decide +kernel
theorem dX7_doSeal_94 : decode cX7_doSeal 94 = .ok (.bipush 12, 2) := by decide +kernel
theorem dX7_doSeal_96 : decode cX7_doSeal 96 = .ok (.iload_n 3, 1) := by decide +kernel
theorem dX7_doSeal_97 : decode cX7_doSeal 97 = .ok (.iadd, 1) := by decide +kernel
theorem dX7_doSeal_98 : decode cX7_doSeal 98 = .ok (.aload_n 0, 1) := by decide +kernel
theorem dX7_doSeal_99 : decode cX7_doSeal 99 = .ok (.iload_n 1, 1) := by decide +kernel
theorem dX7_doSeal_100 : decode cX7_doSeal 100 = .ok (.iconst 0, 1) := by decide +kernel
theorem dX7_doSeal_101 : decode cX7_doSeal 101 = .ok (.iload_n 3, 1) := by decide +kernel
theorem dX7_doSeal_102 : decode cX7_doSeal 102 = .ok (.invokevirtual 108, 3) := by decide +kernel
theorem dX7_doSeal_105 : decode cX7_doSeal 105 = .ok (.invokevirtual 80, 3) := by decide +kernel
theorem dX7_doSeal_108 : decode cX7_doSeal 108 = .ok (.iinc 3 1, 3) := by decide +kernel
theorem dX7_doSeal_111 : decode cX7_doSeal 111 = .ok (.goto (-29), 3) := by decide +kernel
theorem dX7_doSeal_114 : decode cX7_doSeal 114 = .ok (.aload_n 0, 1) := by decide +kernel
theorem dX7_doSeal_115 : decode cX7_doSeal 115 = .ok (.iload_n 1, 1) := by decide +kernel
theorem dX7_doSeal_116 : decode cX7_doSeal 116 = .ok (.iconst 2, 1) := by decide +kernel
theorem dX7_doSeal_117 : decode cX7_doSeal 117 = .ok (.iconst 1, 1) := by decide +kernel
theorem dX7_doSeal_118 : decode cX7_doSeal 118 = .ok (.invokevirtual 80, 3) := by decide +kernel
theorem dX7_doSeal_121 : decode cX7_doSeal 121 = .ok (.iload_n 2, 1) := by decide +kernel
theorem dX7_doSeal_122 : decode cX7_doSeal 122 = .ok (.ireturn, 1) := by decide +kernel
theorem dX7_seal_0 : decode cX7_seal 0 = .ok (.aload_n 0, 1) := by decide +kernel
theorem dX7_seal_1 : decode cX7_seal 1 = .ok (.invokevirtual 121, 3) := by decide +kernel
theorem dX7_seal_4 : decode cX7_seal 4 = .ok (.aload_n 0, 1) := by decide +kernel
theorem dX7_seal_5 : decode cX7_seal 5 = .ok (.aload_n 0, 1) := by decide +kernel
theorem dX7_seal_6 : decode cX7_seal 6 = .ok (.iload_n 1, 1) := by decide +kernel
theorem dX7_seal_7 : decode cX7_seal 7 = .ok (.invokevirtual 148, 3) := by decide +kernel
theorem dX7_seal_10 : decode cX7_seal 10 = .ok (.invokevirtual 131, 3) := by decide +kernel
theorem dX7_seal_13 : decode cX7_seal 13 = .ok (.ireturn, 1) := by decide +kernel
theorem dX7_doCopy_0 : decode cX7_doCopy 0 = .ok (.aload_n 0, 1) := by decide +kernel
theorem dX7_doCopy_1 : decode cX7_doCopy 1 = .ok (.iload_n 1, 1) := by decide +kernel
theorem dX7_doCopy_2 : decode cX7_doCopy 2 = .ok (.invokevirtual 65, 3) := by decide +kernel
theorem dX7_doCopy_5 : decode cX7_doCopy 5 = .ok (.ifCond .ne 9, 3) := by decide +kernel
theorem dX7_doCopy_8 : decode cX7_doCopy 8 = .ok (.aload_n 0, 1) := by decide +kernel
theorem dX7_doCopy_9 : decode cX7_doCopy 9 = .ok (.iconst 1, 1) := by decide +kernel
theorem dX7_doCopy_10 : decode cX7_doCopy 10 = .ok (.invokevirtual 124, 3) := by decide +kernel
theorem dX7_doCopy_13 : decode cX7_doCopy 13 = .ok (.ireturn, 1) := by decide +kernel
theorem dX7_doCopy_14 : decode cX7_doCopy 14 = .ok (.aload_n 0, 1) := by decide +kernel
theorem dX7_doCopy_15 : decode cX7_doCopy 15 = .ok (.getfield 9, 3) := by decide +kernel
theorem dX7_doCopy_18 : decode cX7_doCopy 18 = .ok (.iconst 0, 1) := by decide +kernel
theorem dX7_doCopy_19 : decode cX7_doCopy 19 = .ok (.iaload, 1) := by decide +kernel
theorem dX7_doCopy_20 : decode cX7_doCopy 20 = .ok (.istore_n 2, 1) := by decide +kernel
theorem dX7_doCopy_21 : decode cX7_doCopy 21 = .ok (.iload_n 2, 1) := by decide +kernel
theorem dX7_doCopy_22 : decode cX7_doCopy 22 = .ok (.iconst 5, 1) := by decide +kernel
theorem dX7_doCopy_23 : decode cX7_doCopy 23 = .ok (.if_icmp .ne 11, 3) := by decide +kernel
theorem dX7_doCopy_26 : decode cX7_doCopy 26 = .ok (.aload_n 0, 1) := by decide +kernel
theorem dX7_doCopy_27 : decode cX7_doCopy 27 = .ok (.iconst 2, 1) := by decide +kernel
theorem dX7_doCopy_28 : decode cX7_doCopy 28 = .ok (.iconst 1, 1) := by decide +kernel
theorem dX7_doCopy_29 : decode cX7_doCopy 29 = .ok (.iconst 5, 1) := by decide +kernel
theorem dX7_doCopy_30 : decode cX7_doCopy 30 = .ok (.invokevirtual 128, 3) := by decide +kernel
theorem dX7_doCopy_33 : decode cX7_doCopy 33 = .ok (.ireturn, 1) := by decide +kernel
theorem dX7_doCopy_34 : decode cX7_doCopy 34 = .ok (.aload_n 0, 1) := by decide +kernel
theorem dX7_doCopy_35 : decode cX7_doCopy 35 = .ok (.getfield 9, 3) := by decide +kernel
theorem dX7_doCopy_38 : decode cX7_doCopy 38 = .ok (.iconst 5, 1) := by decide +kernel
theorem dX7_doCopy_39 : decode cX7_doCopy 39 = .ok (.bipush 68, 2) := by decide +kernel
theorem dX7_doCopy_41 : decode cX7_doCopy 41 = .ok (.iload_n 1, 1) := by decide +kernel
theorem dX7_doCopy_42 : decode cX7_doCopy 42 = .ok (.imul, 1) := by decide +kernel
theorem dX7_doCopy_43 : decode cX7_doCopy 43 = .ok (.iadd, 1) := by decide +kernel
theorem dX7_doCopy_44 : decode cX7_doCopy 44 = .ok (.aload_n 0, 1) := by decide +kernel
theorem dX7_doCopy_45 : decode cX7_doCopy 45 = .ok (.getfield 9, 3) := by decide +kernel
theorem dX7_doCopy_48 : decode cX7_doCopy 48 = .ok (.iconst 5, 1) := by decide +kernel
theorem dX7_doCopy_49 : decode cX7_doCopy 49 = .ok (.bipush 68, 2) := by decide +kernel
theorem dX7_doCopy_51 : decode cX7_doCopy 51 = .ok (.iload_n 2, 1) := by decide +kernel
theorem dX7_doCopy_52 : decode cX7_doCopy 52 = .ok (.imul, 1) := by decide +kernel
theorem dX7_doCopy_53 : decode cX7_doCopy 53 = .ok (.iadd, 1) := by decide +kernel
theorem dX7_doCopy_54 : decode cX7_doCopy 54 = .ok (.bipush 68, 2) := by decide +kernel
theorem dX7_doCopy_56 : decode cX7_doCopy 56 = .ok (.invokestatic 42, 3) := by decide +kernel
theorem dX7_doCopy_59 : decode cX7_doCopy 59 = .ok (.aload_n 0, 1) := by decide +kernel
theorem dX7_doCopy_60 : decode cX7_doCopy 60 = .ok (.iload_n 2, 1) := by decide +kernel
theorem dX7_doCopy_61 : decode cX7_doCopy 61 = .ok (.iconst 3, 1) := by decide +kernel
theorem dX7_doCopy_62 : decode cX7_doCopy 62 = .ok (.iload_n 1, 1) := by decide +kernel
theorem dX7_doCopy_63 : decode cX7_doCopy 63 = .ok (.invokevirtual 80, 3) := by decide +kernel
theorem dX7_doCopy_66 : decode cX7_doCopy 66 = .ok (.aload_n 0, 1) := by decide +kernel
theorem dX7_doCopy_67 : decode cX7_doCopy 67 = .ok (.iload_n 2, 1) := by decide +kernel
theorem dX7_doCopy_68 : decode cX7_doCopy 68 = .ok (.iconst 4, 1) := by decide +kernel
theorem dX7_doCopy_69 : decode cX7_doCopy 69 = .ok (.iconst 0, 1) := by decide +kernel
theorem dX7_doCopy_70 : decode cX7_doCopy 70 = .ok (.invokevirtual 80, 3) := by decide +kernel
theorem dX7_doCopy_73 : decode cX7_doCopy 73 = .ok (.aload_n 0, 1) := by decide +kernel
theorem dX7_doCopy_74 : decode cX7_doCopy 74 = .ok (.iload_n 2, 1) := by decide +kernel
theorem dX7_doCopy_75 : decode cX7_doCopy 75 = .ok (.iconst 5, 1) := by decide +kernel
theorem dX7_doCopy_76 : decode cX7_doCopy 76 = .ok (.iconst 0, 1) := by decide +kernel
theorem dX7_doCopy_77 : decode cX7_doCopy 77 = .ok (.invokevirtual 80, 3) := by decide +kernel
theorem dX7_doCopy_80 : decode cX7_doCopy 80 = .ok (.aload_n 0, 1) := by decide +kernel
theorem dX7_doCopy_81 : decode cX7_doCopy 81 = .ok (.getfield 9, 3) := by decide +kernel
theorem dX7_doCopy_84 : decode cX7_doCopy 84 = .ok (.iconst 0, 1) := by decide +kernel
theorem dX7_doCopy_85 : decode cX7_doCopy 85 = .ok (.dup2, 1) := by decide +kernel
theorem dX7_doCopy_86 : decode cX7_doCopy 86 = .ok (.iaload, 1) := by decide +kernel
theorem dX7_doCopy_87 : decode cX7_doCopy 87 = .ok (.iconst 1, 1) := by decide +kernel
theorem dX7_doCopy_88 : decode cX7_doCopy 88 = .ok (.iadd, 1) := by decide +kernel
theorem dX7_doCopy_89 : decode cX7_doCopy 89 = .ok (.iastore, 1) := by decide +kernel
theorem dX7_doCopy_90 : decode cX7_doCopy 90 = .ok (.iload_n 2, 1) := by decide +kernel
theorem dX7_doCopy_91 : decode cX7_doCopy 91 = .ok (.ireturn, 1) := by decide +kernel
theorem dX7_copy_0 : decode cX7_copy 0 = .ok (.aload_n 0, 1) := by decide +kernel
theorem dX7_copy_1 : decode cX7_copy 1 = .ok (.invokevirtual 121, 3) := by decide +kernel
theorem dX7_copy_4 : decode cX7_copy 4 = .ok (.aload_n 0, 1) := by decide +kernel
theorem dX7_copy_5 : decode cX7_copy 5 = .ok (.aload_n 0, 1) := by decide +kernel
theorem dX7_copy_6 : decode cX7_copy 6 = .ok (.iload_n 1, 1) := by decide +kernel
theorem dX7_copy_7 : decode cX7_copy 7 = .ok (.invokevirtual 151, 3) := by decide +kernel
theorem dX7_copy_10 : decode cX7_copy 10 = .ok (.invokevirtual 131, 3) := by decide +kernel
theorem dX7_copy_13 : decode cX7_copy 13 = .ok (.ireturn, 1) := by decide +kernel
theorem dX7_doSlip_0 : decode cX7_doSlip 0 = .ok (.aload_n 0, 1) := by decide +kernel
theorem dX7_doSlip_1 : decode cX7_doSlip 1 = .ok (.iload_n 1, 1) := by decide +kernel
theorem dX7_doSlip_2 : decode cX7_doSlip 2 = .ok (.iload_n 2, 1) := by decide +kernel
theorem dX7_doSlip_3 : decode cX7_doSlip 3 = .ok (.iload_n 3, 1) := by decide +kernel
theorem dX7_doSlip_4 : decode cX7_doSlip 4 = .ok (.invokevirtual 137, 3) := by decide +kernel
theorem dX7_doSlip_7 : decode cX7_doSlip 7 = .ok (.ifCond .ne 9, 3) := by decide +kernel
theorem dX7_doSlip_10 : decode cX7_doSlip 10 = .ok (.aload_n 0, 1) := by decide +kernel
theorem dX7_doSlip_11 : decode cX7_doSlip 11 = .ok (.iconst 1, 1) := by decide +kernel
theorem dX7_doSlip_12 : decode cX7_doSlip 12 = .ok (.invokevirtual 124, 3) := by decide +kernel
theorem dX7_doSlip_15 : decode cX7_doSlip 15 = .ok (.ireturn, 1) := by decide +kernel
theorem dX7_doSlip_16 : decode cX7_doSlip 16 = .ok (.iload 4, 2) := by decide +kernel
theorem dX7_doSlip_18 : decode cX7_doSlip 18 = .ok (.iconst 1, 1) := by decide +kernel
theorem dX7_doSlip_19 : decode cX7_doSlip 19 = .ok (.bipush 9, 2) := by decide +kernel
theorem dX7_doSlip_21 : decode cX7_doSlip 21 = .ok (.invokestatic 61, 3) := by decide +kernel
theorem dX7_doSlip_24 : decode cX7_doSlip 24 = .ok (.ifCond .ne 9, 3) := by decide +kernel
theorem dX7_doSlip_27 : decode cX7_doSlip 27 = .ok (.aload_n 0, 1) := by decide +kernel
theorem dX7_doSlip_28 : decode cX7_doSlip 28 = .ok (.iconst 2, 1) := by decide +kernel
theorem dX7_doSlip_29 : decode cX7_doSlip 29 = .ok (.invokevirtual 124, 3) := by decide +kernel
theorem dX7_doSlip_32 : decode cX7_doSlip 32 = .ok (.ireturn, 1) := by decide +kernel
theorem dX7_doSlip_33 : decode cX7_doSlip 33 = .ok (.aload_n 0, 1) := by decide +kernel
theorem dX7_doSlip_34 : decode cX7_doSlip 34 = .ok (.iload_n 1, 1) := by decide +kernel
theorem dX7_doSlip_35 : decode cX7_doSlip 35 = .ok (.iload_n 2, 1) := by decide +kernel
theorem dX7_doSlip_36 : decode cX7_doSlip 36 = .ok (.iload_n 3, 1) := by decide +kernel
theorem dX7_doSlip_37 : decode cX7_doSlip 37 = .ok (.invokevirtual 88, 3) := by decide +kernel
theorem dX7_doSlip_40 : decode cX7_doSlip 40 = .ok (.ifCond .ge 16, 3) := by decide +kernel
theorem dX7_doSlip_43 : decode cX7_doSlip 43 = .ok (.aload_n 0, 1) := by decide +kernel
theorem dX7_doSlip_44 : decode cX7_doSlip 44 = .ok (.iconst 3, 1) := by decide +kernel
theorem dX7_doSlip_45 : decode cX7_doSlip 45 = .ok (.iconst 3, 1) := by decide +kernel
theorem dX7_doSlip_46 : decode cX7_doSlip 46 = .ok (.bipush 10, 2) := by decide +kernel
theorem dX7_doSlip_48 : decode cX7_doSlip 48 = .ok (.iload_n 2, 1) := by decide +kernel
theorem dX7_doSlip_49 : decode cX7_doSlip 49 = .ok (.imul, 1) := by decide +kernel
theorem dX7_doSlip_50 : decode cX7_doSlip 50 = .ok (.iload_n 3, 1) := by decide +kernel
theorem dX7_doSlip_51 : decode cX7_doSlip 51 = .ok (.iadd, 1) := by decide +kernel
theorem dX7_doSlip_52 : decode cX7_doSlip 52 = .ok (.invokevirtual 128, 3) := by decide +kernel
theorem dX7_doSlip_55 : decode cX7_doSlip 55 = .ok (.ireturn, 1) := by decide +kernel
theorem dX7_doSlip_56 : decode cX7_doSlip 56 = .ok (.aload_n 0, 1) := by decide +kernel
theorem dX7_doSlip_57 : decode cX7_doSlip 57 = .ok (.iload_n 1, 1) := by decide +kernel
theorem dX7_doSlip_58 : decode cX7_doSlip 58 = .ok (.iload_n 2, 1) := by decide +kernel
theorem dX7_doSlip_59 : decode cX7_doSlip 59 = .ok (.iload_n 3, 1) := by decide +kernel
theorem dX7_doSlip_60 : decode cX7_doSlip 60 = .ok (.aload_n 0, 1) := by decide +kernel
theorem dX7_doSlip_61 : decode cX7_doSlip 61 = .ok (.iload_n 1, 1) := by decide +kernel
theorem dX7_doSlip_62 : decode cX7_doSlip 62 = .ok (.iload_n 2, 1) := by decide +kernel
theorem dX7_doSlip_63 : decode cX7_doSlip 63 = .ok (.iload_n 3, 1) := by decide +kernel
theorem dX7_doSlip_64 : decode cX7_doSlip 64 = .ok (.invokevirtual 88, 3) := by decide +kernel
theorem dX7_doSlip_67 : decode cX7_doSlip 67 = .ok (.iload 4, 2) := by decide +kernel
theorem dX7_doSlip_69 : decode cX7_doSlip 69 = .ok (.iadd, 1) := by decide +kernel
theorem dX7_doSlip_70 : decode cX7_doSlip 70 = .ok (.bipush 10, 2) := by decide +kernel
theorem dX7_doSlip_72 : decode cX7_doSlip 72 = .ok (.irem, 1) := by decide +kernel
theorem dX7_doSlip_73 : decode cX7_doSlip 73 = .ok (.invokevirtual 140, 3) := by decide +kernel
theorem dX7_doSlip_76 : decode cX7_doSlip 76 = .ok (.aload_n 0, 1) := by decide +kernel
theorem dX7_doSlip_77 : decode cX7_doSlip 77 = .ok (.getfield 9, 3) := by decide +kernel
theorem dX7_doSlip_80 : decode cX7_doSlip 80 = .ok (.iconst 1, 1) := by decide +kernel
theorem dX7_doSlip_81 : decode cX7_doSlip 81 = .ok (.dup2, 1) := by decide +kernel
theorem dX7_doSlip_82 : decode cX7_doSlip 82 = .ok (.iaload, 1) := by decide +kernel
theorem dX7_doSlip_83 : decode cX7_doSlip 83 = .ok (.iconst 1, 1) := by decide +kernel
theorem dX7_doSlip_84 : decode cX7_doSlip 84 = .ok (.iadd, 1) := by decide +kernel
theorem dX7_doSlip_85 : decode cX7_doSlip 85 = .ok (.iastore, 1) := by decide +kernel
theorem dX7_doSlip_86 : decode cX7_doSlip 86 = .ok (.aload_n 0, 1) := by decide +kernel
theorem dX7_doSlip_87 : decode cX7_doSlip 87 = .ok (.iload_n 1, 1) := by decide +kernel
theorem dX7_doSlip_88 : decode cX7_doSlip 88 = .ok (.iload_n 2, 1) := by decide +kernel
theorem dX7_doSlip_89 : decode cX7_doSlip 89 = .ok (.iload_n 3, 1) := by decide +kernel
theorem dX7_doSlip_90 : decode cX7_doSlip 90 = .ok (.invokevirtual 88, 3) := by decide +kernel
theorem dX7_doSlip_93 : decode cX7_doSlip 93 = .ok (.ireturn, 1) := by decide +kernel
theorem dX7_slip_0 : decode cX7_slip 0 = .ok (.aload_n 0, 1) := by decide +kernel
theorem dX7_slip_1 : decode cX7_slip 1 = .ok (.invokevirtual 121, 3) := by decide +kernel
theorem dX7_slip_4 : decode cX7_slip 4 = .ok (.aload_n 0, 1) := by decide +kernel
theorem dX7_slip_5 : decode cX7_slip 5 = .ok (.aload_n 0, 1) := by decide +kernel
theorem dX7_slip_6 : decode cX7_slip 6 = .ok (.iload_n 1, 1) := by decide +kernel
theorem dX7_slip_7 : decode cX7_slip 7 = .ok (.iload_n 2, 1) := by decide +kernel
theorem dX7_slip_8 : decode cX7_slip 8 = .ok (.iload_n 3, 1) := by decide +kernel
theorem dX7_slip_9 : decode cX7_slip 9 = .ok (.iload 4, 2) := by decide +kernel
theorem dX7_slip_11 : decode cX7_slip 11 = .ok (.invokevirtual 154, 3) := by decide +kernel
theorem dX7_slip_14 : decode cX7_slip 14 = .ok (.invokevirtual 131, 3) := by decide +kernel
theorem dX7_slip_17 : decode cX7_slip 17 = .ok (.ireturn, 1) := by decide +kernel
theorem dX7_doSmudge_0 : decode cX7_doSmudge 0 = .ok (.aload_n 0, 1) := by decide +kernel
theorem dX7_doSmudge_1 : decode cX7_doSmudge 1 = .ok (.iload_n 1, 1) := by decide +kernel
theorem dX7_doSmudge_2 : decode cX7_doSmudge 2 = .ok (.iload_n 2, 1) := by decide +kernel
theorem dX7_doSmudge_3 : decode cX7_doSmudge 3 = .ok (.iload_n 3, 1) := by decide +kernel
theorem dX7_doSmudge_4 : decode cX7_doSmudge 4 = .ok (.invokevirtual 137, 3) := by decide +kernel
theorem dX7_doSmudge_7 : decode cX7_doSmudge 7 = .ok (.ifCond .ne 9, 3) := by decide +kernel
theorem dX7_doSmudge_10 : decode cX7_doSmudge 10 = .ok (.aload_n 0, 1) := by decide +kernel
theorem dX7_doSmudge_11 : decode cX7_doSmudge 11 = .ok (.iconst 1, 1) := by decide +kernel
theorem dX7_doSmudge_12 : decode cX7_doSmudge 12 = .ok (.invokevirtual 124, 3) := by decide +kernel
theorem dX7_doSmudge_15 : decode cX7_doSmudge 15 = .ok (.ireturn, 1) := by decide +kernel
theorem dX7_doSmudge_16 : decode cX7_doSmudge 16 = .ok (.aload_n 0, 1) := by decide +kernel
theorem dX7_doSmudge_17 : decode cX7_doSmudge 17 = .ok (.iload_n 1, 1) := by decide +kernel
theorem dX7_doSmudge_18 : decode cX7_doSmudge 18 = .ok (.iload_n 2, 1) := by decide +kernel
theorem dX7_doSmudge_19 : decode cX7_doSmudge 19 = .ok (.iload_n 3, 1) := by decide +kernel
theorem dX7_doSmudge_20 : decode cX7_doSmudge 20 = .ok (.invokevirtual 88, 3) := by decide +kernel
theorem dX7_doSmudge_23 : decode cX7_doSmudge 23 = .ok (.ifCond .ge 16, 3) := by decide +kernel
theorem dX7_doSmudge_26 : decode cX7_doSmudge 26 = .ok (.aload_n 0, 1) := by decide +kernel
theorem dX7_doSmudge_27 : decode cX7_doSmudge 27 = .ok (.iconst 2, 1) := by decide +kernel
theorem dX7_doSmudge_28 : decode cX7_doSmudge 28 = .ok (.iconst 3, 1) := by decide +kernel
theorem dX7_doSmudge_29 : decode cX7_doSmudge 29 = .ok (.bipush 10, 2) := by decide +kernel
theorem dX7_doSmudge_31 : decode cX7_doSmudge 31 = .ok (.iload_n 2, 1) := by decide +kernel
theorem dX7_doSmudge_32 : decode cX7_doSmudge 32 = .ok (.imul, 1) := by decide +kernel
theorem dX7_doSmudge_33 : decode cX7_doSmudge 33 = .ok (.iload_n 3, 1) := by decide +kernel
theorem dX7_doSmudge_34 : decode cX7_doSmudge 34 = .ok (.iadd, 1) := by decide +kernel
theorem dX7_doSmudge_35 : decode cX7_doSmudge 35 = .ok (.invokevirtual 128, 3) := by decide +kernel
theorem dX7_doSmudge_38 : decode cX7_doSmudge 38 = .ok (.ireturn, 1) := by decide +kernel
theorem dX7_doSmudge_39 : decode cX7_doSmudge 39 = .ok (.aload_n 0, 1) := by decide +kernel
theorem dX7_doSmudge_40 : decode cX7_doSmudge 40 = .ok (.iload_n 1, 1) := by decide +kernel
theorem dX7_doSmudge_41 : decode cX7_doSmudge 41 = .ok (.iload_n 2, 1) := by decide +kernel
theorem dX7_doSmudge_42 : decode cX7_doSmudge 42 = .ok (.iload_n 3, 1) := by decide +kernel
theorem dX7_doSmudge_43 : decode cX7_doSmudge 43 = .ok (.iconst (-1), 1) := by decide +kernel
theorem dX7_doSmudge_44 : decode cX7_doSmudge 44 = .ok (.invokevirtual 140, 3) := by decide +kernel
theorem dX7_doSmudge_47 : decode cX7_doSmudge 47 = .ok (.aload_n 0, 1) := by decide +kernel
theorem dX7_doSmudge_48 : decode cX7_doSmudge 48 = .ok (.getfield 9, 3) := by decide +kernel
theorem dX7_doSmudge_51 : decode cX7_doSmudge 51 = .ok (.iconst 2, 1) := by decide +kernel
theorem dX7_doSmudge_52 : decode cX7_doSmudge 52 = .ok (.dup2, 1) := by decide +kernel
theorem dX7_doSmudge_53 : decode cX7_doSmudge 53 = .ok (.iaload, 1) := by decide +kernel
theorem dX7_doSmudge_54 : decode cX7_doSmudge 54 = .ok (.iconst 1, 1) := by decide +kernel
theorem dX7_doSmudge_55 : decode cX7_doSmudge 55 = .ok (.iadd, 1) := by decide +kernel
theorem dX7_doSmudge_56 : decode cX7_doSmudge 56 = .ok (.iastore, 1) := by decide +kernel
theorem dX7_doSmudge_57 : decode cX7_doSmudge 57 = .ok (.aload_n 0, 1) := by decide +kernel
theorem dX7_doSmudge_58 : decode cX7_doSmudge 58 = .ok (.iload_n 1, 1) := by decide +kernel
theorem dX7_doSmudge_59 : decode cX7_doSmudge 59 = .ok (.invokevirtual 134, 3) := by decide +kernel
theorem dX7_doSmudge_62 : decode cX7_doSmudge 62 = .ok (.ireturn, 1) := by decide +kernel
theorem dX7_smudge_0 : decode cX7_smudge 0 = .ok (.aload_n 0, 1) := by decide +kernel
theorem dX7_smudge_1 : decode cX7_smudge 1 = .ok (.invokevirtual 121, 3) := by decide +kernel
theorem dX7_smudge_4 : decode cX7_smudge 4 = .ok (.aload_n 0, 1) := by decide +kernel
theorem dX7_smudge_5 : decode cX7_smudge 5 = .ok (.aload_n 0, 1) := by decide +kernel
theorem dX7_smudge_6 : decode cX7_smudge 6 = .ok (.iload_n 1, 1) := by decide +kernel
theorem dX7_smudge_7 : decode cX7_smudge 7 = .ok (.iload_n 2, 1) := by decide +kernel
theorem dX7_smudge_8 : decode cX7_smudge 8 = .ok (.iload_n 3, 1) := by decide +kernel
theorem dX7_smudge_9 : decode cX7_smudge 9 = .ok (.invokevirtual 157, 3) := by decide +kernel
theorem dX7_smudge_12 : decode cX7_smudge 12 = .ok (.invokevirtual 131, 3) := by decide +kernel
theorem dX7_smudge_15 : decode cX7_smudge 15 = .ok (.ireturn, 1) := by decide +kernel
theorem dX7_rowSum_0 : decode cX7_rowSum 0 = .ok (.aload_n 0, 1) := by decide +kernel
theorem dX7_rowSum_1 : decode cX7_rowSum 1 = .ok (.aload_n 0, 1) := by decide +kernel
theorem dX7_rowSum_2 : decode cX7_rowSum 2 = .ok (.iload_n 1, 1) := by decide +kernel
theorem dX7_rowSum_3 : decode cX7_rowSum 3 = .ok (.iload_n 2, 1) := by decide +kernel
theorem dX7_rowSum_4 : decode cX7_rowSum 4 = .ok (.invokevirtual 73, 3) := by decide +kernel
theorem dX7_rowSum_7 : decode cX7_rowSum 7 = .ok (.ifCond .ne 7, 3) := by decide +kernel
theorem dX7_rowSum_10 : decode cX7_rowSum 10 = .ok (.iconst 1, 1) := by decide +kernel
theorem dX7_rowSum_11 : decode cX7_rowSum 11 = .ok (.goto 16, 3) := by decide +kernel
theorem dX7_rowSum_14 : decode cX7_rowSum 14 = .ok (.aload_n 0, 1) := by decide +kernel
theorem dX7_rowSum_15 : decode cX7_rowSum 15 = .ok (.iload_n 1, 1) := by decide +kernel
theorem dX7_rowSum_16 : decode cX7_rowSum 16 = .ok (.invokevirtual 111, 3) := by decide +kernel
theorem dX7_rowSum_19 : decode cX7_rowSum 19 = .ok (.ifCond .ne 7, 3) := by decide +kernel
theorem dX7_rowSum_22 : decode cX7_rowSum 22 = .ok (.iconst 2, 1) := by decide +kernel
theorem dX7_rowSum_23 : decode cX7_rowSum 23 = .ok (.goto 4, 3) := by decide +kernel
theorem dX7_rowSum_26 : decode cX7_rowSum 26 = .ok (.iconst 0, 1) := by decide +kernel
theorem dX7_rowSum_27 : decode cX7_rowSum 27 = .ok (.putfield 39, 3) := by decide +kernel
theorem dX7_rowSum_30 : decode cX7_rowSum 30 = .ok (.aload_n 0, 1) := by decide +kernel
theorem dX7_rowSum_31 : decode cX7_rowSum 31 = .ok (.getfield 39, 3) := by decide +kernel
theorem dX7_rowSum_34 : decode cX7_rowSum 34 = .ok (.ifCond .le 7, 3) := by decide +kernel
theorem dX7_rowSum_37 : decode cX7_rowSum 37 = .ok (.iconst 0, 1) := by decide +kernel
theorem dX7_rowSum_38 : decode cX7_rowSum 38 = .ok (.goto 10, 3) := by decide +kernel
theorem dX7_rowSum_41 : decode cX7_rowSum 41 = .ok (.aload_n 0, 1) := by decide +kernel
theorem dX7_rowSum_42 : decode cX7_rowSum 42 = .ok (.iload_n 1, 1) := by decide +kernel
theorem dX7_rowSum_43 : decode cX7_rowSum 43 = .ok (.iconst 1, 1) := by decide +kernel
theorem dX7_rowSum_44 : decode cX7_rowSum 44 = .ok (.iload_n 2, 1) := by decide +kernel
theorem dX7_rowSum_45 : decode cX7_rowSum 45 = .ok (.invokevirtual 105, 3) := by decide +kernel
theorem dX7_rowSum_48 : decode cX7_rowSum 48 = .ok (.ireturn, 1) := by decide +kernel
theorem dX7_columnSum_0 : decode cX7_columnSum 0 = .ok (.aload_n 0, 1) := by decide +kernel
theorem dX7_columnSum_1 : decode cX7_columnSum 1 = .ok (.aload_n 0, 1) := by decide +kernel
theorem dX7_columnSum_2 : decode cX7_columnSum 2 = .ok (.iload_n 1, 1) := by decide +kernel
theorem dX7_columnSum_3 : decode cX7_columnSum 3 = .ok (.iload_n 2, 1) := by decide +kernel
theorem dX7_columnSum_4 : decode cX7_columnSum 4 = .ok (.invokevirtual 77, 3) := by decide +kernel
theorem dX7_columnSum_7 : decode cX7_columnSum 7 = .ok (.ifCond .ne 7, 3) := by decide +kernel
theorem dX7_columnSum_10 : decode cX7_columnSum 10 = .ok (.iconst 1, 1) := by decide +kernel
theorem dX7_columnSum_11 : decode cX7_columnSum 11 = .ok (.goto 16, 3) := by decide +kernel
theorem dX7_columnSum_14 : decode cX7_columnSum 14 = .ok (.aload_n 0, 1) := by decide +kernel
theorem dX7_columnSum_15 : decode cX7_columnSum 15 = .ok (.iload_n 1, 1) := by decide +kernel
theorem dX7_columnSum_16 : decode cX7_columnSum 16 = .ok (.invokevirtual 111, 3) := by decide +kernel
theorem dX7_columnSum_19 : decode cX7_columnSum 19 = .ok (.ifCond .ne 7, 3) := by decide +kernel
theorem dX7_columnSum_22 : decode cX7_columnSum 22 = .ok (.iconst 2, 1) := by decide +kernel
theorem dX7_columnSum_23 : decode cX7_columnSum 23 = .ok (.goto 4, 3) := by decide +kernel
theorem dX7_columnSum_26 : decode cX7_columnSum 26 = .ok (.iconst 0, 1) := by decide +kernel
theorem dX7_columnSum_27 : decode cX7_columnSum 27 = .ok (.putfield 39, 3) := by decide +kernel
theorem dX7_columnSum_30 : decode cX7_columnSum 30 = .ok (.aload_n 0, 1) := by decide +kernel
theorem dX7_columnSum_31 : decode cX7_columnSum 31 = .ok (.getfield 39, 3) := by decide +kernel
theorem dX7_columnSum_34 : decode cX7_columnSum 34 = .ok (.ifCond .le 7, 3) := by decide +kernel
theorem dX7_columnSum_37 : decode cX7_columnSum 37 = .ok (.iconst 0, 1) := by decide +kernel
theorem dX7_columnSum_38 : decode cX7_columnSum 38 = .ok (.goto 10, 3) := by decide +kernel
theorem dX7_columnSum_41 : decode cX7_columnSum 41 = .ok (.aload_n 0, 1) := by decide +kernel
theorem dX7_columnSum_42 : decode cX7_columnSum 42 = .ok (.iload_n 1, 1) := by decide +kernel
theorem dX7_columnSum_43 : decode cX7_columnSum 43 = .ok (.iconst 0, 1) := by decide +kernel
theorem dX7_columnSum_44 : decode cX7_columnSum 44 = .ok (.iload_n 2, 1) := by decide +kernel
theorem dX7_columnSum_45 : decode cX7_columnSum 45 = .ok (.invokevirtual 105, 3) := by decide +kernel
theorem dX7_columnSum_48 : decode cX7_columnSum 48 = .ok (.ireturn, 1) := by decide +kernel
theorem dX7_rowFault_0 : decode cX7_rowFault 0 = .ok (.aload_n 0, 1) := by decide +kernel
theorem dX7_rowFault_1 : decode cX7_rowFault 1 = .ok (.aload_n 0, 1) := by decide +kernel
theorem dX7_rowFault_2 : decode cX7_rowFault 2 = .ok (.iload_n 1, 1) := by decide +kernel
theorem dX7_rowFault_3 : decode cX7_rowFault 3 = .ok (.iload_n 2, 1) := by decide +kernel
theorem dX7_rowFault_4 : decode cX7_rowFault 4 = .ok (.invokevirtual 73, 3) := by decide +kernel
theorem dX7_rowFault_7 : decode cX7_rowFault 7 = .ok (.ifCond .ne 7, 3) := by decide +kernel
theorem dX7_rowFault_10 : decode cX7_rowFault 10 = .ok (.iconst 1, 1) := by decide +kernel
theorem dX7_rowFault_11 : decode cX7_rowFault 11 = .ok (.goto 16, 3) := by decide +kernel
theorem dX7_rowFault_14 : decode cX7_rowFault 14 = .ok (.aload_n 0, 1) := by decide +kernel
theorem dX7_rowFault_15 : decode cX7_rowFault 15 = .ok (.iload_n 1, 1) := by decide +kernel
theorem dX7_rowFault_16 : decode cX7_rowFault 16 = .ok (.invokevirtual 111, 3) := by decide +kernel
theorem dX7_rowFault_19 : decode cX7_rowFault 19 = .ok (.ifCond .ne 7, 3) := by decide +kernel
theorem dX7_rowFault_22 : decode cX7_rowFault 22 = .ok (.iconst 2, 1) := by decide +kernel
theorem dX7_rowFault_23 : decode cX7_rowFault 23 = .ok (.goto 4, 3) := by decide +kernel
theorem dX7_rowFault_26 : decode cX7_rowFault 26 = .ok (.iconst 0, 1) := by decide +kernel
theorem dX7_rowFault_27 : decode cX7_rowFault 27 = .ok (.putfield 39, 3) := by decide +kernel
theorem dX7_rowFault_30 : decode cX7_rowFault 30 = .ok (.aload_n 0, 1) := by decide +kernel
theorem dX7_rowFault_31 : decode cX7_rowFault 31 = .ok (.getfield 39, 3) := by decide +kernel
theorem dX7_rowFault_34 : decode cX7_rowFault 34 = .ok (.ifCond .le 7, 3) := by decide +kernel
theorem dX7_rowFault_37 : decode cX7_rowFault 37 = .ok (.iconst 0, 1) := by decide +kernel
theorem dX7_rowFault_38 : decode cX7_rowFault 38 = .ok (.goto 10, 3) := by decide +kernel
theorem dX7_rowFault_41 : decode cX7_rowFault 41 = .ok (.aload_n 0, 1) := by decide +kernel
theorem dX7_rowFault_42 : decode cX7_rowFault 42 = .ok (.iload_n 1, 1) := by decide +kernel
theorem dX7_rowFault_43 : decode cX7_rowFault 43 = .ok (.iconst 1, 1) := by decide +kernel
theorem dX7_rowFault_44 : decode cX7_rowFault 44 = .ok (.iload_n 2, 1) := by decide +kernel
theorem dX7_rowFault_45 : decode cX7_rowFault 45 = .ok (.invokevirtual 114, 3) := by decide +kernel
theorem dX7_rowFault_48 : decode cX7_rowFault 48 = .ok (.ireturn, 1) := by decide +kernel
theorem dX7_columnFault_0 : decode cX7_columnFault 0 = .ok (.aload_n 0, 1) := by decide +kernel
theorem dX7_columnFault_1 : decode cX7_columnFault 1 = .ok (.aload_n 0, 1) := by decide +kernel
theorem dX7_columnFault_2 : decode cX7_columnFault 2 = .ok (.iload_n 1, 1) := by decide +kernel
theorem dX7_columnFault_3 : decode cX7_columnFault 3 = .ok (.iload_n 2, 1) := by decide +kernel
theorem dX7_columnFault_4 : decode cX7_columnFault 4 = .ok (.invokevirtual 77, 3) := by decide +kernel
theorem dX7_columnFault_7 : decode cX7_columnFault 7 = .ok (.ifCond .ne 7, 3) := by decide +kernel
theorem dX7_columnFault_10 : decode cX7_columnFault 10 = .ok (.iconst 1, 1) := by decide +kernel
theorem dX7_columnFault_11 : decode cX7_columnFault 11 = .ok (.goto 16, 3) := by decide +kernel
theorem dX7_columnFault_14 : decode cX7_columnFault 14 = .ok (.aload_n 0, 1) := by decide +kernel
theorem dX7_columnFault_15 : decode cX7_columnFault 15 = .ok (.iload_n 1, 1) := by decide +kernel
theorem dX7_columnFault_16 : decode cX7_columnFault 16 = .ok (.invokevirtual 111, 3) := by decide +kernel
theorem dX7_columnFault_19 : decode cX7_columnFault 19 = .ok (.ifCond .ne 7, 3) := by decide +kernel
theorem dX7_columnFault_22 : decode cX7_columnFault 22 = .ok (.iconst 2, 1) := by decide +kernel
theorem dX7_columnFault_23 : decode cX7_columnFault 23 = .ok (.goto 4, 3) := by decide +kernel
theorem dX7_columnFault_26 : decode cX7_columnFault 26 = .ok (.iconst 0, 1) := by decide +kernel
theorem dX7_columnFault_27 : decode cX7_columnFault 27 = .ok (.putfield 39, 3) := by decide +kernel
theorem dX7_columnFault_30 : decode cX7_columnFault 30 = .ok (.aload_n 0, 1) := by decide +kernel
theorem dX7_columnFault_31 : decode cX7_columnFault 31 = .ok (.getfield 39, 3) := by decide +kernel
theorem dX7_columnFault_34 : decode cX7_columnFault 34 = .ok (.ifCond .le 7, 3) := by decide +kernel
theorem dX7_columnFault_37 : decode cX7_columnFault 37 = .ok (.iconst 0, 1) := by decide +kernel
theorem dX7_columnFault_38 : decode cX7_columnFault 38 = .ok (.goto 10, 3) := by decide +kernel
theorem dX7_columnFault_41 : decode cX7_columnFault 41 = .ok (.aload_n 0, 1) := by decide +kernel
theorem dX7_columnFault_42 : decode cX7_columnFault 42 = .ok (.iload_n 1, 1) := by decide +kernel
theorem dX7_columnFault_43 : decode cX7_columnFault 43 = .ok (.iconst 0, 1) := by decide +kernel
theorem dX7_columnFault_44 : decode cX7_columnFault 44 = .ok (.iload_n 2, 1) := by decide +kernel
theorem dX7_columnFault_45 : decode cX7_columnFault 45 = .ok (.invokevirtual 114, 3) := by decide +kernel
theorem dX7_columnFault_48 : decode cX7_columnFault 48 = .ok (.ireturn, 1) := by decide +kernel
theorem dX7_wrongRows_0 : decode cX7_wrongRows 0 = .ok (.aload_n 0, 1) := by decide +kernel
theorem dX7_wrongRows_1 : decode cX7_wrongRows 1 = .ok (.aload_n 0, 1) := by decide +kernel
theorem dX7_wrongRows_2 : decode cX7_wrongRows 2 = .ok (.iload_n 1, 1) := by decide +kernel
theorem dX7_wrongRows_3 : decode cX7_wrongRows 3 = .ok (.invokevirtual 65, 3) := by decide +kernel
theorem dX7_wrongRows_6 : decode cX7_wrongRows 6 = .ok (.ifCond .ne 7, 3) := by decide +kernel
theorem dX7_wrongRows_9 : decode cX7_wrongRows 9 = .ok (.iconst 1, 1) := by decide +kernel
theorem dX7_wrongRows_10 : decode cX7_wrongRows 10 = .ok (.goto 16, 3) := by decide +kernel
theorem dX7_wrongRows_13 : decode cX7_wrongRows 13 = .ok (.aload_n 0, 1) := by decide +kernel
theorem dX7_wrongRows_14 : decode cX7_wrongRows 14 = .ok (.iload_n 1, 1) := by decide +kernel
theorem dX7_wrongRows_15 : decode cX7_wrongRows 15 = .ok (.invokevirtual 111, 3) := by decide +kernel
theorem dX7_wrongRows_18 : decode cX7_wrongRows 18 = .ok (.ifCond .ne 7, 3) := by decide +kernel
theorem dX7_wrongRows_21 : decode cX7_wrongRows 21 = .ok (.iconst 2, 1) := by decide +kernel
theorem dX7_wrongRows_22 : decode cX7_wrongRows 22 = .ok (.goto 4, 3) := by decide +kernel
theorem dX7_wrongRows_25 : decode cX7_wrongRows 25 = .ok (.iconst 0, 1) := by decide +kernel
theorem dX7_wrongRows_26 : decode cX7_wrongRows 26 = .ok (.putfield 39, 3) := by decide +kernel
theorem dX7_wrongRows_29 : decode cX7_wrongRows 29 = .ok (.aload_n 0, 1) := by decide +kernel
theorem dX7_wrongRows_30 : decode cX7_wrongRows 30 = .ok (.getfield 39, 3) := by decide +kernel
theorem dX7_wrongRows_33 : decode cX7_wrongRows 33 = .ok (.ifCond .le 7, 3) := by decide +kernel
theorem dX7_wrongRows_36 : decode cX7_wrongRows 36 = .ok (.iconst 0, 1) := by decide +kernel
theorem dX7_wrongRows_37 : decode cX7_wrongRows 37 = .ok (.goto 9, 3) := by decide +kernel
theorem dX7_wrongRows_40 : decode cX7_wrongRows 40 = .ok (.aload_n 0, 1) := by decide +kernel
theorem dX7_wrongRows_41 : decode cX7_wrongRows 41 = .ok (.iload_n 1, 1) := by decide +kernel
theorem dX7_wrongRows_42 : decode cX7_wrongRows 42 = .ok (.iconst 1, 1) := by decide +kernel
theorem dX7_wrongRows_43 : decode cX7_wrongRows 43 = .ok (.invokevirtual 160, 3) := by decide +kernel
theorem dX7_wrongRows_46 : decode cX7_wrongRows 46 = .ok (.ireturn, 1) := by decide +kernel
theorem dX7_wrongColumns_0 : decode cX7_wrongColumns 0 = .ok (.aload_n 0, 1) := by decide +kernel
theorem dX7_wrongColumns_1 : decode cX7_wrongColumns 1 = .ok (.aload_n 0, 1) := by decide +kernel
theorem dX7_wrongColumns_2 : decode cX7_wrongColumns 2 = .ok (.iload_n 1, 1) := by decide +kernel
theorem dX7_wrongColumns_3 : decode cX7_wrongColumns 3 = .ok (.invokevirtual 65, 3) := by decide +kernel
theorem dX7_wrongColumns_6 : decode cX7_wrongColumns 6 = .ok (.ifCond .ne 7, 3) := by decide +kernel
theorem dX7_wrongColumns_9 : decode cX7_wrongColumns 9 = .ok (.iconst 1, 1) := by decide +kernel
theorem dX7_wrongColumns_10 : decode cX7_wrongColumns 10 = .ok (.goto 16, 3) := by decide +kernel
theorem dX7_wrongColumns_13 : decode cX7_wrongColumns 13 = .ok (.aload_n 0, 1) := by decide +kernel
theorem dX7_wrongColumns_14 : decode cX7_wrongColumns 14 = .ok (.iload_n 1, 1) := by decide +kernel
theorem dX7_wrongColumns_15 : decode cX7_wrongColumns 15 = .ok (.invokevirtual 111, 3) := by decide +kernel
theorem dX7_wrongColumns_18 : decode cX7_wrongColumns 18 = .ok (.ifCond .ne 7, 3) := by decide +kernel
theorem dX7_wrongColumns_21 : decode cX7_wrongColumns 21 = .ok (.iconst 2, 1) := by decide +kernel
theorem dX7_wrongColumns_22 : decode cX7_wrongColumns 22 = .ok (.goto 4, 3) := by decide +kernel
theorem dX7_wrongColumns_25 : decode cX7_wrongColumns 25 = .ok (.iconst 0, 1) := by decide +kernel
theorem dX7_wrongColumns_26 : decode cX7_wrongColumns 26 = .ok (.putfield 39, 3) := by decide +kernel
theorem dX7_wrongColumns_29 : decode cX7_wrongColumns 29 = .ok (.aload_n 0, 1) := by decide +kernel
theorem dX7_wrongColumns_30 : decode cX7_wrongColumns 30 = .ok (.getfield 39, 3) := by decide +kernel
theorem dX7_wrongColumns_33 : decode cX7_wrongColumns 33 = .ok (.ifCond .le 7, 3) := by decide +kernel
theorem dX7_wrongColumns_36 : decode cX7_wrongColumns 36 = .ok (.iconst 0, 1) := by decide +kernel
theorem dX7_wrongColumns_37 : decode cX7_wrongColumns 37 = .ok (.goto 9, 3) := by decide +kernel
theorem dX7_wrongColumns_40 : decode cX7_wrongColumns 40 = .ok (.aload_n 0, 1) := by decide +kernel
theorem dX7_wrongColumns_41 : decode cX7_wrongColumns 41 = .ok (.iload_n 1, 1) := by decide +kernel
theorem dX7_wrongColumns_42 : decode cX7_wrongColumns 42 = .ok (.iconst 0, 1) := by decide +kernel
theorem dX7_wrongColumns_43 : decode cX7_wrongColumns 43 = .ok (.invokevirtual 160, 3) := by decide +kernel
theorem dX7_wrongColumns_46 : decode cX7_wrongColumns 46 = .ok (.ireturn, 1) := by decide +kernel
theorem dX7_inDoubt_0 : decode cX7_inDoubt 0 = .ok (.aload_n 0, 1) := by decide +kernel
theorem dX7_inDoubt_1 : decode cX7_inDoubt 1 = .ok (.iload_n 1, 1) := by decide +kernel
theorem dX7_inDoubt_2 : decode cX7_inDoubt 2 = .ok (.iload_n 2, 1) := by decide +kernel
theorem dX7_inDoubt_3 : decode cX7_inDoubt 3 = .ok (.iload_n 3, 1) := by decide +kernel
theorem dX7_inDoubt_4 : decode cX7_inDoubt 4 = .ok (.invokevirtual 88, 3) := by decide +kernel
theorem dX7_inDoubt_7 : decode cX7_inDoubt 7 = .ok (.ifCond .lt 23, 3) := by decide +kernel
theorem dX7_inDoubt_10 : decode cX7_inDoubt 10 = .ok (.aload_n 0, 1) := by decide +kernel
theorem dX7_inDoubt_11 : decode cX7_inDoubt 11 = .ok (.iload_n 1, 1) := by decide +kernel
theorem dX7_inDoubt_12 : decode cX7_inDoubt 12 = .ok (.iconst 1, 1) := by decide +kernel
theorem dX7_inDoubt_13 : decode cX7_inDoubt 13 = .ok (.iload_n 2, 1) := by decide +kernel
theorem dX7_inDoubt_14 : decode cX7_inDoubt 14 = .ok (.invokevirtual 117, 3) := by decide +kernel
theorem dX7_inDoubt_17 : decode cX7_inDoubt 17 = .ok (.ifCond .eq 17, 3) := by decide +kernel
theorem dX7_inDoubt_20 : decode cX7_inDoubt 20 = .ok (.aload_n 0, 1) := by decide +kernel
theorem dX7_inDoubt_21 : decode cX7_inDoubt 21 = .ok (.iload_n 1, 1) := by decide +kernel
theorem dX7_inDoubt_22 : decode cX7_inDoubt 22 = .ok (.iconst 0, 1) := by decide +kernel
theorem dX7_inDoubt_23 : decode cX7_inDoubt 23 = .ok (.iload_n 3, 1) := by decide +kernel
theorem dX7_inDoubt_24 : decode cX7_inDoubt 24 = .ok (.invokevirtual 117, 3) := by decide +kernel
theorem dX7_inDoubt_27 : decode cX7_inDoubt 27 = .ok (.ifCond .eq 7, 3) := by decide +kernel
theorem dX7_inDoubt_30 : decode cX7_inDoubt 30 = .ok (.iconst 1, 1) := by decide +kernel
theorem dX7_inDoubt_31 : decode cX7_inDoubt 31 = .ok (.goto 4, 3) := by decide +kernel
theorem dX7_inDoubt_34 : decode cX7_inDoubt 34 = .ok (.iconst 0, 1) := by decide +kernel
theorem dX7_inDoubt_35 : decode cX7_inDoubt 35 = .ok (.ireturn, 1) := by decide +kernel
theorem dX7_isInDoubt_0 : decode cX7_isInDoubt 0 = .ok (.aload_n 0, 1) := by decide +kernel
theorem dX7_isInDoubt_1 : decode cX7_isInDoubt 1 = .ok (.aload_n 0, 1) := by decide +kernel
theorem dX7_isInDoubt_2 : decode cX7_isInDoubt 2 = .ok (.iload_n 1, 1) := by decide +kernel
theorem dX7_isInDoubt_3 : decode cX7_isInDoubt 3 = .ok (.iload_n 2, 1) := by decide +kernel
theorem dX7_isInDoubt_4 : decode cX7_isInDoubt 4 = .ok (.iload_n 3, 1) := by decide +kernel
theorem dX7_isInDoubt_5 : decode cX7_isInDoubt 5 = .ok (.invokevirtual 137, 3) := by decide +kernel
theorem dX7_isInDoubt_8 : decode cX7_isInDoubt 8 = .ok (.ifCond .eq 7, 3) := by decide +kernel
theorem dX7_isInDoubt_11 : decode cX7_isInDoubt 11 = .ok (.iconst 0, 1) := by decide +kernel
theorem dX7_isInDoubt_12 : decode cX7_isInDoubt 12 = .ok (.goto 4, 3) := by decide +kernel
theorem dX7_isInDoubt_15 : decode cX7_isInDoubt 15 = .ok (.iconst 1, 1) := by decide +kernel
theorem dX7_isInDoubt_16 : decode cX7_isInDoubt 16 = .ok (.putfield 39, 3) := by decide +kernel
theorem dX7_isInDoubt_19 : decode cX7_isInDoubt 19 = .ok (.aload_n 0, 1) := by decide +kernel
theorem dX7_isInDoubt_20 : decode cX7_isInDoubt 20 = .ok (.getfield 39, 3) := by decide +kernel
theorem dX7_isInDoubt_23 : decode cX7_isInDoubt 23 = .ok (.ifCond .ne 17, 3) := by decide +kernel
theorem dX7_isInDoubt_26 : decode cX7_isInDoubt 26 = .ok (.aload_n 0, 1) := by decide +kernel
theorem dX7_isInDoubt_27 : decode cX7_isInDoubt 27 = .ok (.iload_n 1, 1) := by decide +kernel
theorem dX7_isInDoubt_28 : decode cX7_isInDoubt 28 = .ok (.iload_n 2, 1) := by decide +kernel
theorem dX7_isInDoubt_29 : decode cX7_isInDoubt 29 = .ok (.iload_n 3, 1) := by decide +kernel
theorem dX7_isInDoubt_30 : decode cX7_isInDoubt 30 = .ok (.invokevirtual 163, 3) := by decide +kernel
theorem dX7_isInDoubt_33 : decode cX7_isInDoubt 33 = .ok (.ifCond .eq 7, 3) := by decide +kernel
theorem dX7_isInDoubt_36 : decode cX7_isInDoubt 36 = .ok (.iconst 1, 1) := by decide +kernel
theorem dX7_isInDoubt_37 : decode cX7_isInDoubt 37 = .ok (.goto 4, 3) := by decide +kernel
theorem dX7_isInDoubt_40 : decode cX7_isInDoubt 40 = .ok (.iconst 0, 1) := by decide +kernel
theorem dX7_isInDoubt_41 : decode cX7_isInDoubt 41 = .ok (.ireturn, 1) := by decide +kernel
theorem dX7_doubtsOf_0 : decode cX7_doubtsOf 0 = .ok (.iconst 0, 1) := by decide +kernel
theorem dX7_doubtsOf_1 : decode cX7_doubtsOf 1 = .ok (.istore_n 2, 1) := by decide +kernel
theorem dX7_doubtsOf_2 : decode cX7_doubtsOf 2 = .ok (.iconst 0, 1) := by decide +kernel
theorem dX7_doubtsOf_3 : decode cX7_doubtsOf 3 = .ok (.istore_n 3, 1) := by decide +kernel
theorem dX7_doubtsOf_4 : decode cX7_doubtsOf 4 = .ok (.iload_n 3, 1) := by decide +kernel
theorem dX7_doubtsOf_5 : decode cX7_doubtsOf 5 = .ok (.aload_n 0, 1) := by decide +kernel
theorem dX7_doubtsOf_6 : decode cX7_doubtsOf 6 = .ok (.iload_n 1, 1) := by decide +kernel
theorem dX7_doubtsOf_7 : decode cX7_doubtsOf 7 = .ok (.iconst 0, 1) := by decide +kernel
theorem dX7_doubtsOf_8 : decode cX7_doubtsOf 8 = .ok (.invokevirtual 69, 3) := by decide +kernel
theorem dX7_doubtsOf_11 : decode cX7_doubtsOf 11 = .ok (.if_icmp .ge 48, 3) := by decide +kernel
theorem dX7_doubtsOf_14 : decode cX7_doubtsOf 14 = .ok (.iconst 0, 1) := by decide +kernel
theorem dX7_doubtsOf_15 : decode cX7_doubtsOf 15 = .ok (.istore 4, 2) := by decide +kernel
theorem dX7_doubtsOf_17 : decode cX7_doubtsOf 17 = .ok (.iload 4, 2) := by decide +kernel
theorem dX7_doubtsOf_19 : decode cX7_doubtsOf 19 = .ok (.aload_n 0, 1) := by decide +kernel
theorem dX7_doubtsOf_20 : decode cX7_doubtsOf 20 = .ok (.iload_n 1, 1) := by decide +kernel
theorem dX7_doubtsOf_21 : decode cX7_doubtsOf 21 = .ok (.iconst 1, 1) := by decide +kernel
theorem dX7_doubtsOf_22 : decode cX7_doubtsOf 22 = .ok (.invokevirtual 69, 3) := by decide +kernel
theorem dX7_doubtsOf_25 : decode cX7_doubtsOf 25 = .ok (.if_icmp .ge 28, 3) := by decide +kernel
theorem dX7_doubtsOf_28 : decode cX7_doubtsOf 28 = .ok (.iload_n 2, 1) := by decide +kernel
theorem dX7_doubtsOf_29 : decode cX7_doubtsOf 29 = .ok (.aload_n 0, 1) := by decide +kernel
theorem dX7_doubtsOf_30 : decode cX7_doubtsOf 30 = .ok (.iload_n 1, 1) := by decide +kernel
theorem dX7_doubtsOf_31 : decode cX7_doubtsOf 31 = .ok (.iload_n 3, 1) := by decide +kernel
theorem dX7_doubtsOf_32 : decode cX7_doubtsOf 32 = .ok (.iload 4, 2) := by decide +kernel
theorem dX7_doubtsOf_34 : decode cX7_doubtsOf 34 = .ok (.invokevirtual 163, 3) := by decide +kernel
theorem dX7_doubtsOf_37 : decode cX7_doubtsOf 37 = .ok (.ifCond .eq 7, 3) := by decide +kernel
theorem dX7_doubtsOf_40 : decode cX7_doubtsOf 40 = .ok (.iconst 1, 1) := by decide +kernel
theorem dX7_doubtsOf_41 : decode cX7_doubtsOf 41 = .ok (.goto 4, 3) := by decide +kernel
theorem dX7_doubtsOf_44 : decode cX7_doubtsOf 44 = .ok (.iconst 0, 1) := by decide +kernel
theorem dX7_doubtsOf_45 : decode cX7_doubtsOf 45 = .ok (.iadd, 1) := by decide +kernel
theorem dX7_doubtsOf_46 : decode cX7_doubtsOf 46 = .ok (.istore_n 2, 1) := by decide +kernel
theorem dX7_doubtsOf_47 : decode cX7_doubtsOf 47 = .ok (.iinc 4 1, 3) := by decide +kernel
theorem dX7_doubtsOf_50 : decode cX7_doubtsOf 50 = .ok (.goto (-33), 3) := by decide +kernel
theorem dX7_doubtsOf_53 : decode cX7_doubtsOf 53 = .ok (.iinc 3 1, 3) := by decide +kernel
theorem dX7_doubtsOf_56 : decode cX7_doubtsOf 56 = .ok (.goto (-52), 3) := by decide +kernel
theorem dX7_doubtsOf_59 : decode cX7_doubtsOf 59 = .ok (.iload_n 2, 1) := by decide +kernel
theorem dX7_doubtsOf_60 : decode cX7_doubtsOf 60 = .ok (.ireturn, 1) := by decide +kernel
theorem dX7_doubts_0 : decode cX7_doubts 0 = .ok (.aload_n 0, 1) := by decide +kernel
theorem dX7_doubts_1 : decode cX7_doubts 1 = .ok (.aload_n 0, 1) := by decide +kernel
theorem dX7_doubts_2 : decode cX7_doubts 2 = .ok (.iload_n 1, 1) := by decide +kernel
theorem dX7_doubts_3 : decode cX7_doubts 3 = .ok (.invokevirtual 65, 3) := by decide +kernel
theorem dX7_doubts_6 : decode cX7_doubts 6 = .ok (.ifCond .eq 7, 3) := by decide +kernel
theorem dX7_doubts_9 : decode cX7_doubts 9 = .ok (.iconst 0, 1) := by decide +kernel
theorem dX7_doubts_10 : decode cX7_doubts 10 = .ok (.goto 4, 3) := by decide +kernel
theorem dX7_doubts_13 : decode cX7_doubts 13 = .ok (.iconst 1, 1) := by decide +kernel
theorem dX7_doubts_14 : decode cX7_doubts 14 = .ok (.putfield 39, 3) := by decide +kernel
theorem dX7_doubts_17 : decode cX7_doubts 17 = .ok (.aload_n 0, 1) := by decide +kernel
theorem dX7_doubts_18 : decode cX7_doubts 18 = .ok (.getfield 39, 3) := by decide +kernel
theorem dX7_doubts_21 : decode cX7_doubts 21 = .ok (.ifCond .le 7, 3) := by decide +kernel
theorem dX7_doubts_24 : decode cX7_doubts 24 = .ok (.iconst 0, 1) := by decide +kernel
theorem dX7_doubts_25 : decode cX7_doubts 25 = .ok (.goto 8, 3) := by decide +kernel
theorem dX7_doubts_28 : decode cX7_doubts 28 = .ok (.aload_n 0, 1) := by decide +kernel
theorem dX7_doubts_29 : decode cX7_doubts 29 = .ok (.iload_n 1, 1) := by decide +kernel
theorem dX7_doubts_30 : decode cX7_doubts 30 = .ok (.invokevirtual 166, 3) := by decide +kernel
theorem dX7_doubts_33 : decode cX7_doubts 33 = .ok (.ireturn, 1) := by decide +kernel
theorem dX7_doubtsAgain_0 : decode cX7_doubtsAgain 0 = .ok (.aload_n 0, 1) := by decide +kernel
theorem dX7_doubtsAgain_1 : decode cX7_doubtsAgain 1 = .ok (.iload_n 1, 1) := by decide +kernel
theorem dX7_doubtsAgain_2 : decode cX7_doubtsAgain 2 = .ok (.invokevirtual 169, 3) := by decide +kernel
theorem dX7_doubtsAgain_5 : decode cX7_doubtsAgain 5 = .ok (.ireturn, 1) := by decide +kernel
theorem dX7_mendBar_0 : decode cX7_mendBar 0 = .ok (.aload_n 0, 1) := by decide +kernel
theorem dX7_mendBar_1 : decode cX7_mendBar 1 = .ok (.iload_n 1, 1) := by decide +kernel
theorem dX7_mendBar_2 : decode cX7_mendBar 2 = .ok (.invokevirtual 111, 3) := by decide +kernel
theorem dX7_mendBar_5 : decode cX7_mendBar 5 = .ok (.ifCond .ne 5, 3) := by decide +kernel
theorem dX7_mendBar_8 : decode cX7_mendBar 8 = .ok (.iconst 4, 1) := by decide +kernel
theorem dX7_mendBar_9 : decode cX7_mendBar 9 = .ok (.ireturn, 1) := by decide +kernel
theorem dX7_mendBar_10 : decode cX7_mendBar 10 = .ok (.aload_n 0, 1) := by decide +kernel
theorem dX7_mendBar_11 : decode cX7_mendBar 11 = .ok (.iload_n 1, 1) := by decide +kernel
theorem dX7_mendBar_12 : decode cX7_mendBar 12 = .ok (.invokevirtual 134, 3) := by decide +kernel
theorem dX7_mendBar_15 : decode cX7_mendBar 15 = .ok (.ifCond .le 5, 3) := by decide +kernel
theorem dX7_mendBar_18 : decode cX7_mendBar 18 = .ok (.iconst 2, 1) := by decide +kernel
theorem dX7_mendBar_19 : decode cX7_mendBar 19 = .ok (.ireturn, 1) := by decide +kernel
theorem dX7_mendBar_20 : decode cX7_mendBar 20 = .ok (.aload_n 0, 1) := by decide +kernel
theorem dX7_mendBar_21 : decode cX7_mendBar 21 = .ok (.iload_n 1, 1) := by decide +kernel
theorem dX7_mendBar_22 : decode cX7_mendBar 22 = .ok (.iconst 1, 1) := by decide +kernel
theorem dX7_mendBar_23 : decode cX7_mendBar 23 = .ok (.invokevirtual 160, 3) := by decide +kernel
theorem dX7_mendBar_26 : decode cX7_mendBar 26 = .ok (.istore_n 2, 1) := by decide +kernel
theorem dX7_mendBar_27 : decode cX7_mendBar 27 = .ok (.aload_n 0, 1) := by decide +kernel
theorem dX7_mendBar_28 : decode cX7_mendBar 28 = .ok (.iload_n 1, 1) := by decide +kernel
theorem dX7_mendBar_29 : decode cX7_mendBar 29 = .ok (.iconst 0, 1) := by decide +kernel
theorem dX7_mendBar_30 : decode cX7_mendBar 30 = .ok (.invokevirtual 160, 3) := by decide +kernel
theorem dX7_mendBar_33 : decode cX7_mendBar 33 = .ok (.istore_n 3, 1) := by decide +kernel
theorem dX7_mendBar_34 : decode cX7_mendBar 34 = .ok (.iload_n 2, 1) := by decide +kernel
theorem dX7_mendBar_35 : decode cX7_mendBar 35 = .ok (.ifCond .ne 9, 3) := by decide +kernel
theorem dX7_mendBar_38 : decode cX7_mendBar 38 = .ok (.iload_n 3, 1) := by decide +kernel
theorem dX7_mendBar_39 : decode cX7_mendBar 39 = .ok (.ifCond .ne 5, 3) := by decide +kernel
theorem dX7_mendBar_42 : decode cX7_mendBar 42 = .ok (.iconst 5, 1) := by decide +kernel
theorem dX7_mendBar_43 : decode cX7_mendBar 43 = .ok (.ireturn, 1) := by decide +kernel
theorem dX7_mendBar_44 : decode cX7_mendBar 44 = .ok (.iload_n 2, 1) := by decide +kernel
theorem dX7_mendBar_45 : decode cX7_mendBar 45 = .ok (.iconst 1, 1) := by decide +kernel
theorem dX7_mendBar_46 : decode cX7_mendBar 46 = .ok (.if_icmp .ne 8, 3) := by decide +kernel
theorem dX7_mendBar_49 : decode cX7_mendBar 49 = .ok (.iload_n 3, 1) := by decide +kernel
theorem dX7_mendBar_50 : decode cX7_mendBar 50 = .ok (.iconst 1, 1) := by decide +kernel
theorem dX7_mendBar_51 : decode cX7_mendBar 51 = .ok (.if_icmp .eq 6, 3) := by decide +kernel
theorem dX7_mendBar_54 : decode cX7_mendBar 54 = .ok (.bipush 6, 2) := by decide +kernel
theorem dX7_mendBar_56 : decode cX7_mendBar 56 = .ok (.ireturn, 1) := by decide +kernel
theorem dX7_mendBar_57 : decode cX7_mendBar 57 = .ok (.aload_n 0, 1) := by decide +kernel
theorem dX7_mendBar_58 : decode cX7_mendBar 58 = .ok (.iload_n 1, 1) := by decide +kernel
theorem dX7_mendBar_59 : decode cX7_mendBar 59 = .ok (.iconst 1, 1) := by decide +kernel
theorem dX7_mendBar_60 : decode cX7_mendBar 60 = .ok (.aload_n 0, 1) := by decide +kernel
theorem dX7_mendBar_61 : decode cX7_mendBar 61 = .ok (.iload_n 1, 1) := by decide +kernel
theorem dX7_mendBar_62 : decode cX7_mendBar 62 = .ok (.iconst 1, 1) := by decide +kernel
theorem dX7_mendBar_63 : decode cX7_mendBar 63 = .ok (.invokevirtual 172, 3) := by decide +kernel
theorem dX7_mendBar_66 : decode cX7_mendBar 66 = .ok (.invokevirtual 114, 3) := by decide +kernel
theorem dX7_mendBar_69 : decode cX7_mendBar 69 = .ok (.aload_n 0, 1) := by decide +kernel
theorem dX7_mendBar_70 : decode cX7_mendBar 70 = .ok (.iload_n 1, 1) := by decide +kernel
theorem dX7_mendBar_71 : decode cX7_mendBar 71 = .ok (.iconst 0, 1) := by decide +kernel
theorem dX7_mendBar_72 : decode cX7_mendBar 72 = .ok (.aload_n 0, 1) := by decide +kernel
theorem dX7_mendBar_73 : decode cX7_mendBar 73 = .ok (.iload_n 1, 1) := by decide +kernel
theorem dX7_mendBar_74 : decode cX7_mendBar 74 = .ok (.iconst 0, 1) := by decide +kernel
theorem dX7_mendBar_75 : decode cX7_mendBar 75 = .ok (.invokevirtual 172, 3) := by decide +kernel
theorem dX7_mendBar_78 : decode cX7_mendBar 78 = .ok (.invokevirtual 114, 3) := by decide +kernel
theorem dX7_mendBar_81 : decode cX7_mendBar 81 = .ok (.if_icmp .ne 7, 3) := by decide +kernel
theorem dX7_mendBar_84 : decode cX7_mendBar 84 = .ok (.iconst 0, 1) := by decide +kernel
theorem dX7_mendBar_85 : decode cX7_mendBar 85 = .ok (.goto 5, 3) := by decide +kernel
theorem dX7_mendBar_88 : decode cX7_mendBar 88 = .ok (.bipush 7, 2) := by decide +kernel
theorem dX7_mendBar_90 : decode cX7_mendBar 90 = .ok (.ireturn, 1) := by decide +kernel
theorem dX7_mendDetail_0 : decode cX7_mendDetail 0 = .ok (.iload_n 2, 1) := by decide +kernel
theorem dX7_mendDetail_1 : decode cX7_mendDetail 1 = .ok (.tableswitch 62 2 6 #[37, 62, 35, 43, 45], 35) := by decide +kernel
theorem dX7_mendDetail_36 : decode cX7_mendDetail 36 = .ok (.iload_n 1, 1) := by decide +kernel
theorem dX7_mendDetail_37 : decode cX7_mendDetail 37 = .ok (.ireturn, 1) := by decide +kernel
theorem dX7_mendDetail_38 : decode cX7_mendDetail 38 = .ok (.aload_n 0, 1) := by decide +kernel
theorem dX7_mendDetail_39 : decode cX7_mendDetail 39 = .ok (.iload_n 1, 1) := by decide +kernel
theorem dX7_mendDetail_40 : decode cX7_mendDetail 40 = .ok (.invokevirtual 134, 3) := by decide +kernel
theorem dX7_mendDetail_43 : decode cX7_mendDetail 43 = .ok (.ireturn, 1) := by decide +kernel
theorem dX7_mendDetail_44 : decode cX7_mendDetail 44 = .ok (.iconst 0, 1) := by decide +kernel
theorem dX7_mendDetail_45 : decode cX7_mendDetail 45 = .ok (.ireturn, 1) := by decide +kernel
theorem dX7_mendDetail_46 : decode cX7_mendDetail 46 = .ok (.bipush 10, 2) := by decide +kernel
theorem dX7_mendDetail_48 : decode cX7_mendDetail 48 = .ok (.aload_n 0, 1) := by decide +kernel
theorem dX7_mendDetail_49 : decode cX7_mendDetail 49 = .ok (.iload_n 1, 1) := by decide +kernel
theorem dX7_mendDetail_50 : decode cX7_mendDetail 50 = .ok (.iconst 1, 1) := by decide +kernel
theorem dX7_mendDetail_51 : decode cX7_mendDetail 51 = .ok (.invokevirtual 160, 3) := by decide +kernel
theorem dX7_mendDetail_54 : decode cX7_mendDetail 54 = .ok (.imul, 1) := by decide +kernel
theorem dX7_mendDetail_55 : decode cX7_mendDetail 55 = .ok (.aload_n 0, 1) := by decide +kernel
theorem dX7_mendDetail_56 : decode cX7_mendDetail 56 = .ok (.iload_n 1, 1) := by decide +kernel
theorem dX7_mendDetail_57 : decode cX7_mendDetail 57 = .ok (.iconst 0, 1) := by decide +kernel
theorem dX7_mendDetail_58 : decode cX7_mendDetail 58 = .ok (.invokevirtual 160, 3) := by decide +kernel
theorem dX7_mendDetail_61 : decode cX7_mendDetail 61 = .ok (.iadd, 1) := by decide +kernel
theorem dX7_mendDetail_62 : decode cX7_mendDetail 62 = .ok (.ireturn, 1) := by decide +kernel
theorem dX7_mendDetail_63 : decode cX7_mendDetail 63 = .ok (.bipush 10, 2) := by decide +kernel
theorem dX7_mendDetail_65 : decode cX7_mendDetail 65 = .ok (.aload_n 0, 1) := by decide +kernel
theorem dX7_mendDetail_66 : decode cX7_mendDetail 66 = .ok (.iload_n 1, 1) := by decide +kernel
theorem dX7_mendDetail_67 : decode cX7_mendDetail 67 = .ok (.iconst 1, 1) := by decide +kernel
theorem dX7_mendDetail_68 : decode cX7_mendDetail 68 = .ok (.aload_n 0, 1) := by decide +kernel
theorem dX7_mendDetail_69 : decode cX7_mendDetail 69 = .ok (.iload_n 1, 1) := by decide +kernel
theorem dX7_mendDetail_70 : decode cX7_mendDetail 70 = .ok (.iconst 1, 1) := by decide +kernel
theorem dX7_mendDetail_71 : decode cX7_mendDetail 71 = .ok (.invokevirtual 172, 3) := by decide +kernel
theorem dX7_mendDetail_74 : decode cX7_mendDetail 74 = .ok (.invokevirtual 114, 3) := by decide +kernel
theorem dX7_mendDetail_77 : decode cX7_mendDetail 77 = .ok (.imul, 1) := by decide +kernel
theorem dX7_mendDetail_78 : decode cX7_mendDetail 78 = .ok (.aload_n 0, 1) := by decide +kernel
theorem dX7_mendDetail_79 : decode cX7_mendDetail 79 = .ok (.iload_n 1, 1) := by decide +kernel
theorem dX7_mendDetail_80 : decode cX7_mendDetail 80 = .ok (.iconst 0, 1) := by decide +kernel
theorem dX7_mendDetail_81 : decode cX7_mendDetail 81 = .ok (.aload_n 0, 1) := by decide +kernel
theorem dX7_mendDetail_82 : decode cX7_mendDetail 82 = .ok (.iload_n 1, 1) := by decide +kernel
theorem dX7_mendDetail_83 : decode cX7_mendDetail 83 = .ok (.iconst 0, 1) := by decide +kernel
theorem dX7_mendDetail_84 : decode cX7_mendDetail 84 = .ok (.invokevirtual 172, 3) := by decide +kernel
theorem dX7_mendDetail_87 : decode cX7_mendDetail 87 = .ok (.invokevirtual 114, 3) := by decide +kernel
theorem dX7_mendDetail_90 : decode cX7_mendDetail 90 = .ok (.iadd, 1) := by decide +kernel
theorem dX7_mendDetail_91 : decode cX7_mendDetail 91 = .ok (.ireturn, 1) := by decide +kernel
theorem dX7_doMend_0 : decode cX7_doMend 0 = .ok (.aload_n 0, 1) := by decide +kernel
theorem dX7_doMend_1 : decode cX7_doMend 1 = .ok (.iload_n 1, 1) := by decide +kernel
theorem dX7_doMend_2 : decode cX7_doMend 2 = .ok (.invokevirtual 65, 3) := by decide +kernel
theorem dX7_doMend_5 : decode cX7_doMend 5 = .ok (.ifCond .ne 9, 3) := by decide +kernel
theorem dX7_doMend_8 : decode cX7_doMend 8 = .ok (.aload_n 0, 1) := by decide +kernel
theorem dX7_doMend_9 : decode cX7_doMend 9 = .ok (.iconst 1, 1) := by decide +kernel
theorem dX7_doMend_10 : decode cX7_doMend 10 = .ok (.invokevirtual 124, 3) := by decide +kernel
theorem dX7_doMend_13 : decode cX7_doMend 13 = .ok (.ireturn, 1) := by decide +kernel
theorem dX7_doMend_14 : decode cX7_doMend 14 = .ok (.aload_n 0, 1) := by decide +kernel
theorem dX7_doMend_15 : decode cX7_doMend 15 = .ok (.iload_n 1, 1) := by decide +kernel
theorem dX7_doMend_16 : decode cX7_doMend 16 = .ok (.invokevirtual 175, 3) := by decide +kernel
theorem dX7_doMend_19 : decode cX7_doMend 19 = .ok (.istore_n 2, 1) := by decide +kernel
theorem dX7_doMend_20 : decode cX7_doMend 20 = .ok (.iload_n 2, 1) := by decide +kernel
theorem dX7_doMend_21 : decode cX7_doMend 21 = .ok (.ifCond .le 16, 3) := by decide +kernel
theorem dX7_doMend_24 : decode cX7_doMend 24 = .ok (.aload_n 0, 1) := by decide +kernel
theorem dX7_doMend_25 : decode cX7_doMend 25 = .ok (.iconst 2, 1) := by decide +kernel
theorem dX7_doMend_26 : decode cX7_doMend 26 = .ok (.iload_n 2, 1) := by decide +kernel
theorem dX7_doMend_27 : decode cX7_doMend 27 = .ok (.aload_n 0, 1) := by decide +kernel
theorem dX7_doMend_28 : decode cX7_doMend 28 = .ok (.iload_n 1, 1) := by decide +kernel
theorem dX7_doMend_29 : decode cX7_doMend 29 = .ok (.iload_n 2, 1) := by decide +kernel
theorem dX7_doMend_30 : decode cX7_doMend 30 = .ok (.invokevirtual 178, 3) := by decide +kernel
theorem dX7_doMend_33 : decode cX7_doMend 33 = .ok (.invokevirtual 128, 3) := by decide +kernel
theorem dX7_doMend_36 : decode cX7_doMend 36 = .ok (.ireturn, 1) := by decide +kernel
theorem dX7_doMend_37 : decode cX7_doMend 37 = .ok (.aload_n 0, 1) := by decide +kernel
theorem dX7_doMend_38 : decode cX7_doMend 38 = .ok (.iload_n 1, 1) := by decide +kernel
theorem dX7_doMend_39 : decode cX7_doMend 39 = .ok (.iconst 1, 1) := by decide +kernel
theorem dX7_doMend_40 : decode cX7_doMend 40 = .ok (.invokevirtual 172, 3) := by decide +kernel
theorem dX7_doMend_43 : decode cX7_doMend 43 = .ok (.istore_n 3, 1) := by decide +kernel
theorem dX7_doMend_44 : decode cX7_doMend 44 = .ok (.aload_n 0, 1) := by decide +kernel
theorem dX7_doMend_45 : decode cX7_doMend 45 = .ok (.iload_n 1, 1) := by decide +kernel
theorem dX7_doMend_46 : decode cX7_doMend 46 = .ok (.iconst 0, 1) := by decide +kernel
theorem dX7_doMend_47 : decode cX7_doMend 47 = .ok (.invokevirtual 172, 3) := by decide +kernel
theorem dX7_doMend_50 : decode cX7_doMend 50 = .ok (.istore 4, 2) := by decide +kernel
theorem dX7_doMend_52 : decode cX7_doMend 52 = .ok (.aload_n 0, 1) := by decide +kernel
theorem dX7_doMend_53 : decode cX7_doMend 53 = .ok (.iload_n 1, 1) := by decide +kernel
theorem dX7_doMend_54 : decode cX7_doMend 54 = .ok (.iload_n 3, 1) := by decide +kernel
theorem dX7_doMend_55 : decode cX7_doMend 55 = .ok (.iload 4, 2) := by decide +kernel
theorem dX7_doMend_57 : decode cX7_doMend 57 = .ok (.aload_n 0, 1) := by decide +kernel
theorem dX7_doMend_58 : decode cX7_doMend 58 = .ok (.iload_n 1, 1) := by decide +kernel
theorem dX7_doMend_59 : decode cX7_doMend 59 = .ok (.iload_n 3, 1) := by decide +kernel
theorem dX7_doMend_60 : decode cX7_doMend 60 = .ok (.iload 4, 2) := by decide +kernel
theorem dX7_doMend_62 : decode cX7_doMend 62 = .ok (.invokevirtual 88, 3) := by decide +kernel
theorem dX7_doMend_65 : decode cX7_doMend 65 = .ok (.aload_n 0, 1) := by decide +kernel
theorem dX7_doMend_66 : decode cX7_doMend 66 = .ok (.iload_n 1, 1) := by decide +kernel
theorem dX7_doMend_67 : decode cX7_doMend 67 = .ok (.iconst 1, 1) := by decide +kernel
theorem dX7_doMend_68 : decode cX7_doMend 68 = .ok (.iload_n 3, 1) := by decide +kernel
theorem dX7_doMend_69 : decode cX7_doMend 69 = .ok (.invokevirtual 114, 3) := by decide +kernel
theorem dX7_doMend_72 : decode cX7_doMend 72 = .ok (.iadd, 1) := by decide +kernel
theorem dX7_doMend_73 : decode cX7_doMend 73 = .ok (.bipush 10, 2) := by decide +kernel
theorem dX7_doMend_75 : decode cX7_doMend 75 = .ok (.irem, 1) := by decide +kernel
theorem dX7_doMend_76 : decode cX7_doMend 76 = .ok (.invokevirtual 140, 3) := by decide +kernel
theorem dX7_doMend_79 : decode cX7_doMend 79 = .ok (.aload_n 0, 1) := by decide +kernel
theorem dX7_doMend_80 : decode cX7_doMend 80 = .ok (.iload_n 1, 1) := by decide +kernel
theorem dX7_doMend_81 : decode cX7_doMend 81 = .ok (.iconst 4, 1) := by decide +kernel
theorem dX7_doMend_82 : decode cX7_doMend 82 = .ok (.aload_n 0, 1) := by decide +kernel
theorem dX7_doMend_83 : decode cX7_doMend 83 = .ok (.iload_n 1, 1) := by decide +kernel
theorem dX7_doMend_84 : decode cX7_doMend 84 = .ok (.iconst 4, 1) := by decide +kernel
theorem dX7_doMend_85 : decode cX7_doMend 85 = .ok (.invokevirtual 69, 3) := by decide +kernel
theorem dX7_doMend_88 : decode cX7_doMend 88 = .ok (.iconst 1, 1) := by decide +kernel
theorem dX7_doMend_89 : decode cX7_doMend 89 = .ok (.iadd, 1) := by decide +kernel
theorem dX7_doMend_90 : decode cX7_doMend 90 = .ok (.invokevirtual 80, 3) := by decide +kernel
theorem dX7_doMend_93 : decode cX7_doMend 93 = .ok (.aload_n 0, 1) := by decide +kernel
theorem dX7_doMend_94 : decode cX7_doMend 94 = .ok (.getfield 9, 3) := by decide +kernel
theorem dX7_doMend_97 : decode cX7_doMend 97 = .ok (.iconst 3, 1) := by decide +kernel
theorem dX7_doMend_98 : decode cX7_doMend 98 = .ok (.dup2, 1) := by decide +kernel
theorem dX7_doMend_99 : decode cX7_doMend 99 = .ok (.iaload, 1) := by decide +kernel
theorem dX7_doMend_100 : decode cX7_doMend 100 = .ok (.iconst 1, 1) := by decide +kernel
theorem dX7_doMend_101 : decode cX7_doMend 101 = .ok (.iadd, 1) := by decide +kernel
theorem dX7_doMend_102 : decode cX7_doMend 102 = .ok (.iastore, 1) := by decide +kernel
theorem dX7_doMend_103 : decode cX7_doMend 103 = .ok (.bipush 10, 2) := by decide +kernel
theorem dX7_doMend_105 : decode cX7_doMend 105 = .ok (.iload_n 3, 1) := by decide +kernel
theorem dX7_doMend_106 : decode cX7_doMend 106 = .ok (.imul, 1) := by decide +kernel
theorem dX7_doMend_107 : decode cX7_doMend 107 = .ok (.iload 4, 2) := by decide +kernel
theorem dX7_doMend_109 : decode cX7_doMend 109 = .ok (.iadd, 1) := by decide +kernel
theorem dX7_doMend_110 : decode cX7_doMend 110 = .ok (.ireturn, 1) := by decide +kernel
theorem dX7_mend_0 : decode cX7_mend 0 = .ok (.aload_n 0, 1) := by decide +kernel
theorem dX7_mend_1 : decode cX7_mend 1 = .ok (.invokevirtual 121, 3) := by decide +kernel
theorem dX7_mend_4 : decode cX7_mend 4 = .ok (.aload_n 0, 1) := by decide +kernel
theorem dX7_mend_5 : decode cX7_mend 5 = .ok (.aload_n 0, 1) := by decide +kernel
theorem dX7_mend_6 : decode cX7_mend 6 = .ok (.iload_n 1, 1) := by decide +kernel
theorem dX7_mend_7 : decode cX7_mend 7 = .ok (.invokevirtual 181, 3) := by decide +kernel
theorem dX7_mend_10 : decode cX7_mend 10 = .ok (.invokevirtual 131, 3) := by decide +kernel
theorem dX7_mend_13 : decode cX7_mend 13 = .ok (.ireturn, 1) := by decide +kernel
theorem dX7_wouldMend_0 : decode cX7_wouldMend 0 = .ok (.aload_n 0, 1) := by decide +kernel
theorem dX7_wouldMend_1 : decode cX7_wouldMend 1 = .ok (.aload_n 0, 1) := by decide +kernel
theorem dX7_wouldMend_2 : decode cX7_wouldMend 2 = .ok (.iload_n 1, 1) := by decide +kernel
theorem dX7_wouldMend_3 : decode cX7_wouldMend 3 = .ok (.invokevirtual 65, 3) := by decide +kernel
theorem dX7_wouldMend_6 : decode cX7_wouldMend 6 = .ok (.ifCond .ne 7, 3) := by decide +kernel
theorem dX7_wouldMend_9 : decode cX7_wouldMend 9 = .ok (.iconst 1, 1) := by decide +kernel
theorem dX7_wouldMend_10 : decode cX7_wouldMend 10 = .ok (.goto 16, 3) := by decide +kernel
theorem dX7_wouldMend_13 : decode cX7_wouldMend 13 = .ok (.aload_n 0, 1) := by decide +kernel
theorem dX7_wouldMend_14 : decode cX7_wouldMend 14 = .ok (.iload_n 1, 1) := by decide +kernel
theorem dX7_wouldMend_15 : decode cX7_wouldMend 15 = .ok (.invokevirtual 175, 3) := by decide +kernel
theorem dX7_wouldMend_18 : decode cX7_wouldMend 18 = .ok (.ifCond .le 7, 3) := by decide +kernel
theorem dX7_wouldMend_21 : decode cX7_wouldMend 21 = .ok (.iconst 2, 1) := by decide +kernel
theorem dX7_wouldMend_22 : decode cX7_wouldMend 22 = .ok (.goto 4, 3) := by decide +kernel
theorem dX7_wouldMend_25 : decode cX7_wouldMend 25 = .ok (.iconst 0, 1) := by decide +kernel
theorem dX7_wouldMend_26 : decode cX7_wouldMend 26 = .ok (.putfield 39, 3) := by decide +kernel
theorem dX7_wouldMend_29 : decode cX7_wouldMend 29 = .ok (.aload_n 0, 1) := by decide +kernel
theorem dX7_wouldMend_30 : decode cX7_wouldMend 30 = .ok (.getfield 39, 3) := by decide +kernel
theorem dX7_wouldMend_33 : decode cX7_wouldMend 33 = .ok (.ifCond .le 7, 3) := by decide +kernel
theorem dX7_wouldMend_36 : decode cX7_wouldMend 36 = .ok (.iconst 0, 1) := by decide +kernel
theorem dX7_wouldMend_37 : decode cX7_wouldMend 37 = .ok (.goto 19, 3) := by decide +kernel
theorem dX7_wouldMend_40 : decode cX7_wouldMend 40 = .ok (.bipush 10, 2) := by decide +kernel
theorem dX7_wouldMend_42 : decode cX7_wouldMend 42 = .ok (.aload_n 0, 1) := by decide +kernel
theorem dX7_wouldMend_43 : decode cX7_wouldMend 43 = .ok (.iload_n 1, 1) := by decide +kernel
theorem dX7_wouldMend_44 : decode cX7_wouldMend 44 = .ok (.iconst 1, 1) := by decide +kernel
theorem dX7_wouldMend_45 : decode cX7_wouldMend 45 = .ok (.invokevirtual 172, 3) := by decide +kernel
theorem dX7_wouldMend_48 : decode cX7_wouldMend 48 = .ok (.imul, 1) := by decide +kernel
theorem dX7_wouldMend_49 : decode cX7_wouldMend 49 = .ok (.aload_n 0, 1) := by decide +kernel
theorem dX7_wouldMend_50 : decode cX7_wouldMend 50 = .ok (.iload_n 1, 1) := by decide +kernel
theorem dX7_wouldMend_51 : decode cX7_wouldMend 51 = .ok (.iconst 0, 1) := by decide +kernel
theorem dX7_wouldMend_52 : decode cX7_wouldMend 52 = .ok (.invokevirtual 172, 3) := by decide +kernel
theorem dX7_wouldMend_55 : decode cX7_wouldMend 55 = .ok (.iadd, 1) := by decide +kernel
theorem dX7_wouldMend_56 : decode cX7_wouldMend 56 = .ok (.ireturn, 1) := by decide +kernel
theorem dX7_mendAgain_0 : decode cX7_mendAgain 0 = .ok (.aload_n 0, 1) := by decide +kernel
theorem dX7_mendAgain_1 : decode cX7_mendAgain 1 = .ok (.iload_n 1, 1) := by decide +kernel
theorem dX7_mendAgain_2 : decode cX7_mendAgain 2 = .ok (.invokevirtual 184, 3) := by decide +kernel
theorem dX7_mendAgain_5 : decode cX7_mendAgain 5 = .ok (.ireturn, 1) := by decide +kernel
theorem dX7_oneIn_0 : decode cX7_oneIn 0 = .ok (.iconst 0, 1) := by decide +kernel
theorem dX7_oneIn_1 : decode cX7_oneIn 1 = .ok (.istore_n 3, 1) := by decide +kernel
theorem dX7_oneIn_2 : decode cX7_oneIn 2 = .ok (.iload_n 3, 1) := by decide +kernel
theorem dX7_oneIn_3 : decode cX7_oneIn 3 = .ok (.aload_n 0, 1) := by decide +kernel
theorem dX7_oneIn_4 : decode cX7_oneIn 4 = .ok (.iload_n 1, 1) := by decide +kernel
theorem dX7_oneIn_5 : decode cX7_oneIn 5 = .ok (.iload_n 2, 1) := by decide +kernel
theorem dX7_oneIn_6 : decode cX7_oneIn 6 = .ok (.ifCond .ne 7, 3) := by decide +kernel
theorem dX7_oneIn_9 : decode cX7_oneIn 9 = .ok (.iconst 1, 1) := by decide +kernel
theorem dX7_oneIn_10 : decode cX7_oneIn 10 = .ok (.goto 4, 3) := by decide +kernel
theorem dX7_oneIn_13 : decode cX7_oneIn 13 = .ok (.iconst 0, 1) := by decide +kernel
theorem dX7_oneIn_14 : decode cX7_oneIn 14 = .ok (.invokevirtual 92, 3) := by decide +kernel
theorem dX7_oneIn_17 : decode cX7_oneIn 17 = .ok (.if_icmp .ge 22, 3) := by decide +kernel
theorem dX7_oneIn_20 : decode cX7_oneIn 20 = .ok (.aload_n 0, 1) := by decide +kernel
theorem dX7_oneIn_21 : decode cX7_oneIn 21 = .ok (.iload_n 1, 1) := by decide +kernel
theorem dX7_oneIn_22 : decode cX7_oneIn 22 = .ok (.iload_n 2, 1) := by decide +kernel
theorem dX7_oneIn_23 : decode cX7_oneIn 23 = .ok (.iload_n 3, 1) := by decide +kernel
theorem dX7_oneIn_24 : decode cX7_oneIn 24 = .ok (.invokevirtual 84, 3) := by decide +kernel
theorem dX7_oneIn_27 : decode cX7_oneIn 27 = .ok (.iconst 1, 1) := by decide +kernel
theorem dX7_oneIn_28 : decode cX7_oneIn 28 = .ok (.if_icmp .ne 5, 3) := by decide +kernel
theorem dX7_oneIn_31 : decode cX7_oneIn 31 = .ok (.iload_n 3, 1) := by decide +kernel
theorem dX7_oneIn_32 : decode cX7_oneIn 32 = .ok (.ireturn, 1) := by decide +kernel
theorem dX7_oneIn_33 : decode cX7_oneIn 33 = .ok (.iinc 3 1, 3) := by decide +kernel
theorem dX7_oneIn_36 : decode cX7_oneIn 36 = .ok (.goto (-34), 3) := by decide +kernel
theorem dX7_oneIn_39 : decode cX7_oneIn 39 = .ok (.iconst (-1), 1) := by decide +kernel
theorem dX7_oneIn_40 : decode cX7_oneIn 40 = .ok (.ireturn, 1) := by decide +kernel
theorem dX7_fillsOne_0 : decode cX7_fillsOne 0 = .ok (.aload_n 0, 1) := by decide +kernel
theorem dX7_fillsOne_1 : decode cX7_fillsOne 1 = .ok (.iload_n 1, 1) := by decide +kernel
theorem dX7_fillsOne_2 : decode cX7_fillsOne 2 = .ok (.iconst 1, 1) := by decide +kernel
theorem dX7_fillsOne_3 : decode cX7_fillsOne 3 = .ok (.invokevirtual 187, 3) := by decide +kernel
theorem dX7_fillsOne_6 : decode cX7_fillsOne 6 = .ok (.ifCond .lt 7, 3) := by decide +kernel
theorem dX7_fillsOne_9 : decode cX7_fillsOne 9 = .ok (.iconst 1, 1) := by decide +kernel
theorem dX7_fillsOne_10 : decode cX7_fillsOne 10 = .ok (.goto 4, 3) := by decide +kernel
theorem dX7_fillsOne_13 : decode cX7_fillsOne 13 = .ok (.iconst 0, 1) := by decide +kernel
theorem dX7_fillsOne_14 : decode cX7_fillsOne 14 = .ok (.istore_n 2, 1) := by decide +kernel
theorem dX7_fillsOne_15 : decode cX7_fillsOne 15 = .ok (.aload_n 0, 1) := by decide +kernel
theorem dX7_fillsOne_16 : decode cX7_fillsOne 16 = .ok (.iload_n 1, 1) := by decide +kernel
theorem dX7_fillsOne_17 : decode cX7_fillsOne 17 = .ok (.iload_n 2, 1) := by decide +kernel
theorem dX7_fillsOne_18 : decode cX7_fillsOne 18 = .ok (.invokevirtual 187, 3) := by decide +kernel
theorem dX7_fillsOne_21 : decode cX7_fillsOne 21 = .ok (.istore_n 3, 1) := by decide +kernel
theorem dX7_fillsOne_22 : decode cX7_fillsOne 22 = .ok (.iload_n 3, 1) := by decide +kernel
theorem dX7_fillsOne_23 : decode cX7_fillsOne 23 = .ok (.ifCond .ge 5, 3) := by decide +kernel
theorem dX7_fillsOne_26 : decode cX7_fillsOne 26 = .ok (.iconst 0, 1) := by decide +kernel
theorem dX7_fillsOne_27 : decode cX7_fillsOne 27 = .ok (.ireturn, 1) := by decide +kernel
theorem dX7_fillsOne_28 : decode cX7_fillsOne 28 = .ok (.aload_n 0, 1) := by decide +kernel
theorem dX7_fillsOne_29 : decode cX7_fillsOne 29 = .ok (.iload_n 1, 1) := by decide +kernel
theorem dX7_fillsOne_30 : decode cX7_fillsOne 30 = .ok (.iload_n 2, 1) := by decide +kernel
theorem dX7_fillsOne_31 : decode cX7_fillsOne 31 = .ok (.iload_n 3, 1) := by decide +kernel
theorem dX7_fillsOne_32 : decode cX7_fillsOne 32 = .ok (.invokevirtual 114, 3) := by decide +kernel
theorem dX7_fillsOne_35 : decode cX7_fillsOne 35 = .ok (.istore 4, 2) := by decide +kernel
theorem dX7_fillsOne_37 : decode cX7_fillsOne 37 = .ok (.iconst 0, 1) := by decide +kernel
theorem dX7_fillsOne_38 : decode cX7_fillsOne 38 = .ok (.istore 5, 2) := by decide +kernel
theorem dX7_fillsOne_40 : decode cX7_fillsOne 40 = .ok (.iload 5, 2) := by decide +kernel
theorem dX7_fillsOne_42 : decode cX7_fillsOne 42 = .ok (.aload_n 0, 1) := by decide +kernel
theorem dX7_fillsOne_43 : decode cX7_fillsOne 43 = .ok (.iload_n 1, 1) := by decide +kernel
theorem dX7_fillsOne_44 : decode cX7_fillsOne 44 = .ok (.iload_n 2, 1) := by decide +kernel
theorem dX7_fillsOne_45 : decode cX7_fillsOne 45 = .ok (.invokevirtual 92, 3) := by decide +kernel
theorem dX7_fillsOne_48 : decode cX7_fillsOne 48 = .ok (.if_icmp .ge 50, 3) := by decide +kernel
theorem dX7_fillsOne_51 : decode cX7_fillsOne 51 = .ok (.aload_n 0, 1) := by decide +kernel
theorem dX7_fillsOne_52 : decode cX7_fillsOne 52 = .ok (.iload_n 1, 1) := by decide +kernel
theorem dX7_fillsOne_53 : decode cX7_fillsOne 53 = .ok (.iload_n 2, 1) := by decide +kernel
theorem dX7_fillsOne_54 : decode cX7_fillsOne 54 = .ok (.iload_n 3, 1) := by decide +kernel
theorem dX7_fillsOne_55 : decode cX7_fillsOne 55 = .ok (.iload 5, 2) := by decide +kernel
theorem dX7_fillsOne_57 : decode cX7_fillsOne 57 = .ok (.invokevirtual 96, 3) := by decide +kernel
theorem dX7_fillsOne_60 : decode cX7_fillsOne 60 = .ok (.ifCond .ge 32, 3) := by decide +kernel
theorem dX7_fillsOne_63 : decode cX7_fillsOne 63 = .ok (.aload_n 0, 1) := by decide +kernel
theorem dX7_fillsOne_64 : decode cX7_fillsOne 64 = .ok (.iload_n 1, 1) := by decide +kernel
theorem dX7_fillsOne_65 : decode cX7_fillsOne 65 = .ok (.iload_n 2, 1) := by decide +kernel
theorem dX7_fillsOne_66 : decode cX7_fillsOne 66 = .ok (.ifCond .eq 7, 3) := by decide +kernel
theorem dX7_fillsOne_69 : decode cX7_fillsOne 69 = .ok (.iload_n 3, 1) := by decide +kernel
theorem dX7_fillsOne_70 : decode cX7_fillsOne 70 = .ok (.goto 5, 3) := by decide +kernel
theorem dX7_fillsOne_73 : decode cX7_fillsOne 73 = .ok (.iload 5, 2) := by decide +kernel
theorem dX7_fillsOne_75 : decode cX7_fillsOne 75 = .ok (.iload_n 2, 1) := by decide +kernel
theorem dX7_fillsOne_76 : decode cX7_fillsOne 76 = .ok (.ifCond .eq 8, 3) := by decide +kernel
theorem dX7_fillsOne_79 : decode cX7_fillsOne 79 = .ok (.iload 5, 2) := by decide +kernel
theorem dX7_fillsOne_81 : decode cX7_fillsOne 81 = .ok (.goto 4, 3) := by decide +kernel
theorem dX7_fillsOne_84 : decode cX7_fillsOne 84 = .ok (.iload_n 3, 1) := by decide +kernel
theorem dX7_fillsOne_85 : decode cX7_fillsOne 85 = .ok (.iload 4, 2) := by decide +kernel
theorem dX7_fillsOne_87 : decode cX7_fillsOne 87 = .ok (.invokevirtual 140, 3) := by decide +kernel
theorem dX7_fillsOne_90 : decode cX7_fillsOne 90 = .ok (.iconst 1, 1) := by decide +kernel
theorem dX7_fillsOne_91 : decode cX7_fillsOne 91 = .ok (.ireturn, 1) := by decide +kernel
theorem dX7_fillsOne_92 : decode cX7_fillsOne 92 = .ok (.iinc 5 1, 3) := by decide +kernel
theorem dX7_fillsOne_95 : decode cX7_fillsOne 95 = .ok (.goto (-55), 3) := by decide +kernel
theorem dX7_fillsOne_98 : decode cX7_fillsOne 98 = .ok (.iconst 0, 1) := by decide +kernel
theorem dX7_fillsOne_99 : decode cX7_fillsOne 99 = .ok (.ireturn, 1) := by decide +kernel
theorem dX7_doFill_0 : decode cX7_doFill 0 = .ok (.aload_n 0, 1) := by decide +kernel
theorem dX7_doFill_1 : decode cX7_doFill 1 = .ok (.iload_n 1, 1) := by decide +kernel
theorem dX7_doFill_2 : decode cX7_doFill 2 = .ok (.invokevirtual 65, 3) := by decide +kernel
theorem dX7_doFill_5 : decode cX7_doFill 5 = .ok (.ifCond .ne 9, 3) := by decide +kernel
theorem dX7_doFill_8 : decode cX7_doFill 8 = .ok (.aload_n 0, 1) := by decide +kernel
theorem dX7_doFill_9 : decode cX7_doFill 9 = .ok (.iconst 1, 1) := by decide +kernel
theorem dX7_doFill_10 : decode cX7_doFill 10 = .ok (.invokevirtual 124, 3) := by decide +kernel
theorem dX7_doFill_13 : decode cX7_doFill 13 = .ok (.ireturn, 1) := by decide +kernel
theorem dX7_doFill_14 : decode cX7_doFill 14 = .ok (.aload_n 0, 1) := by decide +kernel
theorem dX7_doFill_15 : decode cX7_doFill 15 = .ok (.iload_n 1, 1) := by decide +kernel
theorem dX7_doFill_16 : decode cX7_doFill 16 = .ok (.invokevirtual 111, 3) := by decide +kernel
theorem dX7_doFill_19 : decode cX7_doFill 19 = .ok (.ifCond .ne 11, 3) := by decide +kernel
theorem dX7_doFill_22 : decode cX7_doFill 22 = .ok (.aload_n 0, 1) := by decide +kernel
theorem dX7_doFill_23 : decode cX7_doFill 23 = .ok (.iconst 2, 1) := by decide +kernel
theorem dX7_doFill_24 : decode cX7_doFill 24 = .ok (.iconst 4, 1) := by decide +kernel
theorem dX7_doFill_25 : decode cX7_doFill 25 = .ok (.iload_n 1, 1) := by decide +kernel
theorem dX7_doFill_26 : decode cX7_doFill 26 = .ok (.invokevirtual 128, 3) := by decide +kernel
theorem dX7_doFill_29 : decode cX7_doFill 29 = .ok (.ireturn, 1) := by decide +kernel
theorem dX7_doFill_30 : decode cX7_doFill 30 = .ok (.iconst 0, 1) := by decide +kernel
theorem dX7_doFill_31 : decode cX7_doFill 31 = .ok (.istore_n 2, 1) := by decide +kernel
theorem dX7_doFill_32 : decode cX7_doFill 32 = .ok (.aload_n 0, 1) := by decide +kernel
theorem dX7_doFill_33 : decode cX7_doFill 33 = .ok (.iload_n 1, 1) := by decide +kernel
theorem dX7_doFill_34 : decode cX7_doFill 34 = .ok (.invokevirtual 190, 3) := by decide +kernel
theorem dX7_doFill_37 : decode cX7_doFill 37 = .ok (.ifCond .eq 9, 3) := by decide +kernel
theorem dX7_doFill_40 : decode cX7_doFill 40 = .ok (.iinc 2 1, 3) := by decide +kernel
theorem dX7_doFill_43 : decode cX7_doFill 43 = .ok (.goto (-11), 3) := by decide +kernel
theorem dX7_doFill_46 : decode cX7_doFill 46 = .ok (.aload_n 0, 1) := by decide +kernel
theorem dX7_doFill_47 : decode cX7_doFill 47 = .ok (.iload_n 1, 1) := by decide +kernel
theorem dX7_doFill_48 : decode cX7_doFill 48 = .ok (.iconst 5, 1) := by decide +kernel
theorem dX7_doFill_49 : decode cX7_doFill 49 = .ok (.aload_n 0, 1) := by decide +kernel
theorem dX7_doFill_50 : decode cX7_doFill 50 = .ok (.iload_n 1, 1) := by decide +kernel
theorem dX7_doFill_51 : decode cX7_doFill 51 = .ok (.iconst 5, 1) := by decide +kernel
theorem dX7_doFill_52 : decode cX7_doFill 52 = .ok (.invokevirtual 69, 3) := by decide +kernel
theorem dX7_doFill_55 : decode cX7_doFill 55 = .ok (.iload_n 2, 1) := by decide +kernel
theorem dX7_doFill_56 : decode cX7_doFill 56 = .ok (.iadd, 1) := by decide +kernel
theorem dX7_doFill_57 : decode cX7_doFill 57 = .ok (.invokevirtual 80, 3) := by decide +kernel
theorem dX7_doFill_60 : decode cX7_doFill 60 = .ok (.aload_n 0, 1) := by decide +kernel
theorem dX7_doFill_61 : decode cX7_doFill 61 = .ok (.getfield 9, 3) := by decide +kernel
theorem dX7_doFill_64 : decode cX7_doFill 64 = .ok (.iconst 4, 1) := by decide +kernel
theorem dX7_doFill_65 : decode cX7_doFill 65 = .ok (.dup2, 1) := by decide +kernel
theorem dX7_doFill_66 : decode cX7_doFill 66 = .ok (.iaload, 1) := by decide +kernel
theorem dX7_doFill_67 : decode cX7_doFill 67 = .ok (.iload_n 2, 1) := by decide +kernel
theorem dX7_doFill_68 : decode cX7_doFill 68 = .ok (.iadd, 1) := by decide +kernel
theorem dX7_doFill_69 : decode cX7_doFill 69 = .ok (.iastore, 1) := by decide +kernel
theorem dX7_doFill_70 : decode cX7_doFill 70 = .ok (.iload_n 2, 1) := by decide +kernel
theorem dX7_doFill_71 : decode cX7_doFill 71 = .ok (.ireturn, 1) := by decide +kernel
theorem dX7_fill_0 : decode cX7_fill 0 = .ok (.aload_n 0, 1) := by decide +kernel
theorem dX7_fill_1 : decode cX7_fill 1 = .ok (.invokevirtual 121, 3) := by decide +kernel
theorem dX7_fill_4 : decode cX7_fill 4 = .ok (.aload_n 0, 1) := by decide +kernel
theorem dX7_fill_5 : decode cX7_fill 5 = .ok (.aload_n 0, 1) := by decide +kernel
theorem dX7_fill_6 : decode cX7_fill 6 = .ok (.iload_n 1, 1) := by decide +kernel
theorem dX7_fill_7 : decode cX7_fill 7 = .ok (.invokevirtual 193, 3) := by decide +kernel
theorem dX7_fill_10 : decode cX7_fill 10 = .ok (.invokevirtual 131, 3) := by decide +kernel
theorem dX7_fill_13 : decode cX7_fill 13 = .ok (.ireturn, 1) := by decide +kernel
theorem dX7_wouldFill_0 : decode cX7_wouldFill 0 = .ok (.aload_n 0, 1) := by decide +kernel
theorem dX7_wouldFill_1 : decode cX7_wouldFill 1 = .ok (.aload_n 0, 1) := by decide +kernel
theorem dX7_wouldFill_2 : decode cX7_wouldFill 2 = .ok (.iload_n 1, 1) := by decide +kernel
theorem dX7_wouldFill_3 : decode cX7_wouldFill 3 = .ok (.iload_n 2, 1) := by decide +kernel
theorem dX7_wouldFill_4 : decode cX7_wouldFill 4 = .ok (.iload_n 3, 1) := by decide +kernel
theorem dX7_wouldFill_5 : decode cX7_wouldFill 5 = .ok (.invokevirtual 137, 3) := by decide +kernel
theorem dX7_wouldFill_8 : decode cX7_wouldFill 8 = .ok (.ifCond .eq 7, 3) := by decide +kernel
theorem dX7_wouldFill_11 : decode cX7_wouldFill 11 = .ok (.iconst 0, 1) := by decide +kernel
theorem dX7_wouldFill_12 : decode cX7_wouldFill 12 = .ok (.goto 4, 3) := by decide +kernel
theorem dX7_wouldFill_15 : decode cX7_wouldFill 15 = .ok (.iconst 1, 1) := by decide +kernel
theorem dX7_wouldFill_16 : decode cX7_wouldFill 16 = .ok (.putfield 39, 3) := by decide +kernel
theorem dX7_wouldFill_19 : decode cX7_wouldFill 19 = .ok (.aload_n 0, 1) := by decide +kernel
theorem dX7_wouldFill_20 : decode cX7_wouldFill 20 = .ok (.getfield 39, 3) := by decide +kernel
theorem dX7_wouldFill_23 : decode cX7_wouldFill 23 = .ok (.ifCond .le 5, 3) := by decide +kernel
theorem dX7_wouldFill_26 : decode cX7_wouldFill 26 = .ok (.iconst 0, 1) := by decide +kernel
theorem dX7_wouldFill_27 : decode cX7_wouldFill 27 = .ok (.ireturn, 1) := by decide +kernel
theorem dX7_wouldFill_28 : decode cX7_wouldFill 28 = .ok (.iconst (-1), 1) := by decide +kernel
theorem dX7_wouldFill_29 : decode cX7_wouldFill 29 = .ok (.istore 4, 2) := by decide +kernel
theorem dX7_wouldFill_31 : decode cX7_wouldFill 31 = .ok (.aload_n 0, 1) := by decide +kernel
theorem dX7_wouldFill_32 : decode cX7_wouldFill 32 = .ok (.iload_n 1, 1) := by decide +kernel
theorem dX7_wouldFill_33 : decode cX7_wouldFill 33 = .ok (.invokevirtual 111, 3) := by decide +kernel
theorem dX7_wouldFill_36 : decode cX7_wouldFill 36 = .ok (.ifCond .eq 61, 3) := by decide +kernel
theorem dX7_wouldFill_39 : decode cX7_wouldFill 39 = .ok (.aload_n 0, 1) := by decide +kernel
theorem dX7_wouldFill_40 : decode cX7_wouldFill 40 = .ok (.iload_n 1, 1) := by decide +kernel
theorem dX7_wouldFill_41 : decode cX7_wouldFill 41 = .ok (.iload_n 2, 1) := by decide +kernel
theorem dX7_wouldFill_42 : decode cX7_wouldFill 42 = .ok (.iload_n 3, 1) := by decide +kernel
theorem dX7_wouldFill_43 : decode cX7_wouldFill 43 = .ok (.invokevirtual 88, 3) := by decide +kernel
theorem dX7_wouldFill_46 : decode cX7_wouldFill 46 = .ok (.ifCond .ge 51, 3) := by decide +kernel
theorem dX7_wouldFill_49 : decode cX7_wouldFill 49 = .ok (.aload_n 0, 1) := by decide +kernel
theorem dX7_wouldFill_50 : decode cX7_wouldFill 50 = .ok (.getfield 9, 3) := by decide +kernel
theorem dX7_wouldFill_53 : decode cX7_wouldFill 53 = .ok (.iconst 0, 1) := by decide +kernel
theorem dX7_wouldFill_54 : decode cX7_wouldFill 54 = .ok (.aload_n 0, 1) := by decide +kernel
theorem dX7_wouldFill_55 : decode cX7_wouldFill 55 = .ok (.getfield 16, 3) := by decide +kernel
theorem dX7_wouldFill_58 : decode cX7_wouldFill 58 = .ok (.iconst 0, 1) := by decide +kernel
theorem dX7_wouldFill_59 : decode cX7_wouldFill 59 = .ok (.sipush 345, 3) := by decide +kernel
theorem dX7_wouldFill_62 : decode cX7_wouldFill 62 = .ok (.invokestatic 42, 3) := by decide +kernel
theorem dX7_wouldFill_65 : decode cX7_wouldFill 65 = .ok (.aload_n 0, 1) := by decide +kernel
theorem dX7_wouldFill_66 : decode cX7_wouldFill 66 = .ok (.iload_n 1, 1) := by decide +kernel
theorem dX7_wouldFill_67 : decode cX7_wouldFill 67 = .ok (.invokevirtual 193, 3) := by decide +kernel
theorem dX7_wouldFill_70 : decode cX7_wouldFill 70 = .ok (.istore 5, 2) := by decide +kernel
theorem dX7_wouldFill_72 : decode cX7_wouldFill 72 = .ok (.aload_n 0, 1) := by decide +kernel
theorem dX7_wouldFill_73 : decode cX7_wouldFill 73 = .ok (.iload_n 1, 1) := by decide +kernel
theorem dX7_wouldFill_74 : decode cX7_wouldFill 74 = .ok (.iload_n 2, 1) := by decide +kernel
theorem dX7_wouldFill_75 : decode cX7_wouldFill 75 = .ok (.iload_n 3, 1) := by decide +kernel
theorem dX7_wouldFill_76 : decode cX7_wouldFill 76 = .ok (.invokevirtual 88, 3) := by decide +kernel
theorem dX7_wouldFill_79 : decode cX7_wouldFill 79 = .ok (.istore 4, 2) := by decide +kernel
theorem dX7_wouldFill_81 : decode cX7_wouldFill 81 = .ok (.aload_n 0, 1) := by decide +kernel
theorem dX7_wouldFill_82 : decode cX7_wouldFill 82 = .ok (.getfield 16, 3) := by decide +kernel
theorem dX7_wouldFill_85 : decode cX7_wouldFill 85 = .ok (.iconst 0, 1) := by decide +kernel
theorem dX7_wouldFill_86 : decode cX7_wouldFill 86 = .ok (.aload_n 0, 1) := by decide +kernel
theorem dX7_wouldFill_87 : decode cX7_wouldFill 87 = .ok (.getfield 9, 3) := by decide +kernel
theorem dX7_wouldFill_90 : decode cX7_wouldFill 90 = .ok (.iconst 0, 1) := by decide +kernel
theorem dX7_wouldFill_91 : decode cX7_wouldFill 91 = .ok (.sipush 345, 3) := by decide +kernel
theorem dX7_wouldFill_94 : decode cX7_wouldFill 94 = .ok (.invokestatic 42, 3) := by decide +kernel
theorem dX7_wouldFill_97 : decode cX7_wouldFill 97 = .ok (.aload_n 0, 1) := by decide +kernel
theorem dX7_wouldFill_98 : decode cX7_wouldFill 98 = .ok (.iload 4, 2) := by decide +kernel
theorem dX7_wouldFill_100 : decode cX7_wouldFill 100 = .ok (.ifCond .ge 7, 3) := by decide +kernel
theorem dX7_wouldFill_103 : decode cX7_wouldFill 103 = .ok (.iconst 2, 1) := by decide +kernel
theorem dX7_wouldFill_104 : decode cX7_wouldFill 104 = .ok (.goto 4, 3) := by decide +kernel
theorem dX7_wouldFill_107 : decode cX7_wouldFill 107 = .ok (.iconst 0, 1) := by decide +kernel
theorem dX7_wouldFill_108 : decode cX7_wouldFill 108 = .ok (.putfield 39, 3) := by decide +kernel
theorem dX7_wouldFill_111 : decode cX7_wouldFill 111 = .ok (.aload_n 0, 1) := by decide +kernel
theorem dX7_wouldFill_112 : decode cX7_wouldFill 112 = .ok (.getfield 39, 3) := by decide +kernel
theorem dX7_wouldFill_115 : decode cX7_wouldFill 115 = .ok (.ifCond .le 7, 3) := by decide +kernel
theorem dX7_wouldFill_118 : decode cX7_wouldFill 118 = .ok (.iconst 0, 1) := by decide +kernel
theorem dX7_wouldFill_119 : decode cX7_wouldFill 119 = .ok (.goto 5, 3) := by decide +kernel
theorem dX7_wouldFill_122 : decode cX7_wouldFill 122 = .ok (.iload 4, 2) := by decide +kernel
theorem dX7_wouldFill_124 : decode cX7_wouldFill 124 = .ok (.ireturn, 1) := by decide +kernel
theorem dX7_differ_0 : decode cX7_differ 0 = .ok (.aload_n 0, 1) := by decide +kernel
theorem dX7_differ_1 : decode cX7_differ 1 = .ok (.aload_n 0, 1) := by decide +kernel
theorem dX7_differ_2 : decode cX7_differ 2 = .ok (.iload_n 1, 1) := by decide +kernel
theorem dX7_differ_3 : decode cX7_differ 3 = .ok (.invokevirtual 65, 3) := by decide +kernel
theorem dX7_differ_6 : decode cX7_differ 6 = .ok (.ifCond .eq 11, 3) := by decide +kernel
theorem dX7_differ_9 : decode cX7_differ 9 = .ok (.aload_n 0, 1) := by decide +kernel
theorem dX7_differ_10 : decode cX7_differ 10 = .ok (.iload_n 2, 1) := by decide +kernel
theorem dX7_differ_11 : decode cX7_differ 11 = .ok (.invokevirtual 65, 3) := by decide +kernel
theorem dX7_differ_14 : decode cX7_differ 14 = .ok (.ifCond .ne 7, 3) := by decide +kernel
theorem dX7_differ_17 : decode cX7_differ 17 = .ok (.iconst 1, 1) := by decide +kernel
theorem dX7_differ_18 : decode cX7_differ 18 = .ok (.goto 38, 3) := by decide +kernel
theorem dX7_differ_21 : decode cX7_differ 21 = .ok (.aload_n 0, 1) := by decide +kernel
theorem dX7_differ_22 : decode cX7_differ 22 = .ok (.iload_n 1, 1) := by decide +kernel
theorem dX7_differ_23 : decode cX7_differ 23 = .ok (.iconst 0, 1) := by decide +kernel
theorem dX7_differ_24 : decode cX7_differ 24 = .ok (.invokevirtual 69, 3) := by decide +kernel
theorem dX7_differ_27 : decode cX7_differ 27 = .ok (.aload_n 0, 1) := by decide +kernel
theorem dX7_differ_28 : decode cX7_differ 28 = .ok (.iload_n 2, 1) := by decide +kernel
theorem dX7_differ_29 : decode cX7_differ 29 = .ok (.iconst 0, 1) := by decide +kernel
theorem dX7_differ_30 : decode cX7_differ 30 = .ok (.invokevirtual 69, 3) := by decide +kernel
theorem dX7_differ_33 : decode cX7_differ 33 = .ok (.if_icmp .ne 18, 3) := by decide +kernel
theorem dX7_differ_36 : decode cX7_differ 36 = .ok (.aload_n 0, 1) := by decide +kernel
theorem dX7_differ_37 : decode cX7_differ 37 = .ok (.iload_n 1, 1) := by decide +kernel
theorem dX7_differ_38 : decode cX7_differ 38 = .ok (.iconst 1, 1) := by decide +kernel
theorem dX7_differ_39 : decode cX7_differ 39 = .ok (.invokevirtual 69, 3) := by decide +kernel
theorem dX7_differ_42 : decode cX7_differ 42 = .ok (.aload_n 0, 1) := by decide +kernel
theorem dX7_differ_43 : decode cX7_differ 43 = .ok (.iload_n 2, 1) := by decide +kernel
theorem dX7_differ_44 : decode cX7_differ 44 = .ok (.iconst 1, 1) := by decide +kernel
theorem dX7_differ_45 : decode cX7_differ 45 = .ok (.invokevirtual 69, 3) := by decide +kernel
theorem dX7_differ_48 : decode cX7_differ 48 = .ok (.if_icmp .eq 7, 3) := by decide +kernel
theorem dX7_differ_51 : decode cX7_differ 51 = .ok (.iconst 2, 1) := by decide +kernel
theorem dX7_differ_52 : decode cX7_differ 52 = .ok (.goto 4, 3) := by decide +kernel
theorem dX7_differ_55 : decode cX7_differ 55 = .ok (.iconst 0, 1) := by decide +kernel
theorem dX7_differ_56 : decode cX7_differ 56 = .ok (.putfield 39, 3) := by decide +kernel
theorem dX7_differ_59 : decode cX7_differ 59 = .ok (.iconst 0, 1) := by decide +kernel
theorem dX7_differ_60 : decode cX7_differ 60 = .ok (.istore_n 3, 1) := by decide +kernel
theorem dX7_differ_61 : decode cX7_differ 61 = .ok (.iconst 0, 1) := by decide +kernel
theorem dX7_differ_62 : decode cX7_differ 62 = .ok (.istore 4, 2) := by decide +kernel
theorem dX7_differ_64 : decode cX7_differ 64 = .ok (.aload_n 0, 1) := by decide +kernel
theorem dX7_differ_65 : decode cX7_differ 65 = .ok (.getfield 39, 3) := by decide +kernel
theorem dX7_differ_68 : decode cX7_differ 68 = .ok (.ifCond .ne 69, 3) := by decide +kernel
theorem dX7_differ_71 : decode cX7_differ 71 = .ok (.iload 4, 2) := by decide +kernel
theorem dX7_differ_73 : decode cX7_differ 73 = .ok (.aload_n 0, 1) := by decide +kernel
theorem dX7_differ_74 : decode cX7_differ 74 = .ok (.iload_n 1, 1) := by decide +kernel
theorem dX7_differ_75 : decode cX7_differ 75 = .ok (.iconst 0, 1) := by decide +kernel
theorem dX7_differ_76 : decode cX7_differ 76 = .ok (.invokevirtual 69, 3) := by decide +kernel
theorem dX7_differ_79 : decode cX7_differ 79 = .ok (.if_icmp .ge 58, 3) := by decide +kernel
theorem dX7_differ_82 : decode cX7_differ 82 = .ok (.iconst 0, 1) := by decide +kernel
theorem dX7_differ_83 : decode cX7_differ 83 = .ok (.istore 5, 2) := by decide +kernel
theorem dX7_differ_85 : decode cX7_differ 85 = .ok (.iload 5, 2) := by decide +kernel
theorem dX7_differ_87 : decode cX7_differ 87 = .ok (.aload_n 0, 1) := by decide +kernel
theorem dX7_differ_88 : decode cX7_differ 88 = .ok (.iload_n 1, 1) := by decide +kernel
theorem dX7_differ_89 : decode cX7_differ 89 = .ok (.iconst 1, 1) := by decide +kernel
theorem dX7_differ_90 : decode cX7_differ 90 = .ok (.invokevirtual 69, 3) := by decide +kernel
theorem dX7_differ_93 : decode cX7_differ 93 = .ok (.if_icmp .ge 38, 3) := by decide +kernel
theorem dX7_differ_96 : decode cX7_differ 96 = .ok (.iload_n 3, 1) := by decide +kernel
theorem dX7_differ_97 : decode cX7_differ 97 = .ok (.aload_n 0, 1) := by decide +kernel
theorem dX7_differ_98 : decode cX7_differ 98 = .ok (.iload_n 1, 1) := by decide +kernel
theorem dX7_differ_99 : decode cX7_differ 99 = .ok (.iload 4, 2) := by decide +kernel
theorem dX7_differ_101 : decode cX7_differ 101 = .ok (.iload 5, 2) := by decide +kernel
theorem dX7_differ_103 : decode cX7_differ 103 = .ok (.invokevirtual 88, 3) := by decide +kernel
theorem dX7_differ_106 : decode cX7_differ 106 = .ok (.aload_n 0, 1) := by decide +kernel
theorem dX7_differ_107 : decode cX7_differ 107 = .ok (.iload_n 2, 1) := by decide +kernel
theorem dX7_differ_108 : decode cX7_differ 108 = .ok (.iload 4, 2) := by decide +kernel
theorem dX7_differ_110 : decode cX7_differ 110 = .ok (.iload 5, 2) := by decide +kernel
theorem dX7_differ_112 : decode cX7_differ 112 = .ok (.invokevirtual 88, 3) := by decide +kernel
theorem dX7_differ_115 : decode cX7_differ 115 = .ok (.if_icmp .ne 7, 3) := by decide +kernel
theorem dX7_differ_118 : decode cX7_differ 118 = .ok (.iconst 0, 1) := by decide +kernel
theorem dX7_differ_119 : decode cX7_differ 119 = .ok (.goto 4, 3) := by decide +kernel
theorem dX7_differ_122 : decode cX7_differ 122 = .ok (.iconst 1, 1) := by decide +kernel
theorem dX7_differ_123 : decode cX7_differ 123 = .ok (.iadd, 1) := by decide +kernel
theorem dX7_differ_124 : decode cX7_differ 124 = .ok (.istore_n 3, 1) := by decide +kernel
theorem dX7_differ_125 : decode cX7_differ 125 = .ok (.iinc 5 1, 3) := by decide +kernel
theorem dX7_differ_128 : decode cX7_differ 128 = .ok (.goto (-43), 3) := by decide +kernel
theorem dX7_differ_131 : decode cX7_differ 131 = .ok (.iinc 4 1, 3) := by decide +kernel
theorem dX7_differ_134 : decode cX7_differ 134 = .ok (.goto (-70), 3) := by decide +kernel
theorem dX7_differ_137 : decode cX7_differ 137 = .ok (.iload_n 3, 1) := by decide +kernel
theorem dX7_differ_138 : decode cX7_differ 138 = .ok (.ireturn, 1) := by decide +kernel
theorem dX7_cellsOf_0 : decode cX7_cellsOf 0 = .ok (.aload_n 0, 1) := by decide +kernel
theorem dX7_cellsOf_1 : decode cX7_cellsOf 1 = .ok (.iload_n 1, 1) := by decide +kernel
theorem dX7_cellsOf_2 : decode cX7_cellsOf 2 = .ok (.iconst 0, 1) := by decide +kernel
theorem dX7_cellsOf_3 : decode cX7_cellsOf 3 = .ok (.invokevirtual 69, 3) := by decide +kernel
theorem dX7_cellsOf_6 : decode cX7_cellsOf 6 = .ok (.aload_n 0, 1) := by decide +kernel
theorem dX7_cellsOf_7 : decode cX7_cellsOf 7 = .ok (.iload_n 1, 1) := by decide +kernel
theorem dX7_cellsOf_8 : decode cX7_cellsOf 8 = .ok (.iconst 1, 1) := by decide +kernel
theorem dX7_cellsOf_9 : decode cX7_cellsOf 9 = .ok (.invokevirtual 69, 3) := by decide +kernel
theorem dX7_cellsOf_12 : decode cX7_cellsOf 12 = .ok (.imul, 1) := by decide +kernel
theorem dX7_cellsOf_13 : decode cX7_cellsOf 13 = .ok (.ireturn, 1) := by decide +kernel
theorem dX7_ranked_0 : decode cX7_ranked 0 = .ok (.aload_n 0, 1) := by decide +kernel
theorem dX7_ranked_1 : decode cX7_ranked 1 = .ok (.iload_n 1, 1) := by decide +kernel
theorem dX7_ranked_2 : decode cX7_ranked 2 = .ok (.iconst 0, 1) := by decide +kernel
theorem dX7_ranked_3 : decode cX7_ranked 3 = .ok (.aload_n 0, 1) := by decide +kernel
theorem dX7_ranked_4 : decode cX7_ranked 4 = .ok (.getfield 9, 3) := by decide +kernel
theorem dX7_ranked_7 : decode cX7_ranked 7 = .ok (.iconst 0, 1) := by decide +kernel
theorem dX7_ranked_8 : decode cX7_ranked 8 = .ok (.iaload, 1) := by decide +kernel
theorem dX7_ranked_9 : decode cX7_ranked 9 = .ok (.iconst 1, 1) := by decide +kernel
theorem dX7_ranked_10 : decode cX7_ranked 10 = .ok (.isub, 1) := by decide +kernel
theorem dX7_ranked_11 : decode cX7_ranked 11 = .ok (.invokestatic 61, 3) := by decide +kernel
theorem dX7_ranked_14 : decode cX7_ranked 14 = .ok (.ifCond .eq 7, 3) := by decide +kernel
theorem dX7_ranked_17 : decode cX7_ranked 17 = .ok (.iconst 0, 1) := by decide +kernel
theorem dX7_ranked_18 : decode cX7_ranked 18 = .ok (.goto 4, 3) := by decide +kernel
theorem dX7_ranked_21 : decode cX7_ranked 21 = .ok (.iconst 1, 1) := by decide +kernel
theorem dX7_ranked_22 : decode cX7_ranked 22 = .ok (.putfield 39, 3) := by decide +kernel
theorem dX7_ranked_25 : decode cX7_ranked 25 = .ok (.iconst 0, 1) := by decide +kernel
theorem dX7_ranked_26 : decode cX7_ranked 26 = .ok (.istore_n 2, 1) := by decide +kernel
theorem dX7_ranked_27 : decode cX7_ranked 27 = .ok (.iconst 0, 1) := by decide +kernel
theorem dX7_ranked_28 : decode cX7_ranked 28 = .ok (.istore_n 3, 1) := by decide +kernel
theorem dX7_ranked_29 : decode cX7_ranked 29 = .ok (.iload_n 3, 1) := by decide +kernel
theorem dX7_ranked_30 : decode cX7_ranked 30 = .ok (.aload_n 0, 1) := by decide +kernel
theorem dX7_ranked_31 : decode cX7_ranked 31 = .ok (.getfield 9, 3) := by decide +kernel
theorem dX7_ranked_34 : decode cX7_ranked 34 = .ok (.iconst 0, 1) := by decide +kernel
theorem dX7_ranked_35 : decode cX7_ranked 35 = .ok (.iaload, 1) := by decide +kernel
theorem dX7_ranked_36 : decode cX7_ranked 36 = .ok (.if_icmp .ge 115, 3) := by decide +kernel
theorem dX7_ranked_39 : decode cX7_ranked 39 = .ok (.aload_n 0, 1) := by decide +kernel
theorem dX7_ranked_40 : decode cX7_ranked 40 = .ok (.getfield 39, 3) := by decide +kernel
theorem dX7_ranked_43 : decode cX7_ranked 43 = .ok (.ifCond .ne 108, 3) := by decide +kernel
theorem dX7_ranked_46 : decode cX7_ranked 46 = .ok (.iconst 0, 1) := by decide +kernel
theorem dX7_ranked_47 : decode cX7_ranked 47 = .ok (.istore 4, 2) := by decide +kernel
theorem dX7_ranked_49 : decode cX7_ranked 49 = .ok (.iconst 0, 1) := by decide +kernel
theorem dX7_ranked_50 : decode cX7_ranked 50 = .ok (.istore 5, 2) := by decide +kernel
theorem dX7_ranked_52 : decode cX7_ranked 52 = .ok (.iload 5, 2) := by decide +kernel
theorem dX7_ranked_54 : decode cX7_ranked 54 = .ok (.aload_n 0, 1) := by decide +kernel
theorem dX7_ranked_55 : decode cX7_ranked 55 = .ok (.getfield 9, 3) := by decide +kernel
theorem dX7_ranked_58 : decode cX7_ranked 58 = .ok (.iconst 0, 1) := by decide +kernel
theorem dX7_ranked_59 : decode cX7_ranked 59 = .ok (.iaload, 1) := by decide +kernel
theorem dX7_ranked_60 : decode cX7_ranked 60 = .ok (.if_icmp .ge 73, 3) := by decide +kernel
theorem dX7_ranked_63 : decode cX7_ranked 63 = .ok (.aload_n 0, 1) := by decide +kernel
theorem dX7_ranked_64 : decode cX7_ranked 64 = .ok (.iload_n 3, 1) := by decide +kernel
theorem dX7_ranked_65 : decode cX7_ranked 65 = .ok (.invokevirtual 166, 3) := by decide +kernel
theorem dX7_ranked_68 : decode cX7_ranked 68 = .ok (.aload_n 0, 1) := by decide +kernel
theorem dX7_ranked_69 : decode cX7_ranked 69 = .ok (.iload 5, 2) := by decide +kernel
theorem dX7_ranked_71 : decode cX7_ranked 71 = .ok (.invokevirtual 166, 3) := by decide +kernel
theorem dX7_ranked_74 : decode cX7_ranked 74 = .ok (.isub, 1) := by decide +kernel
theorem dX7_ranked_75 : decode cX7_ranked 75 = .ok (.istore 6, 2) := by decide +kernel
theorem dX7_ranked_77 : decode cX7_ranked 77 = .ok (.iload 6, 2) := by decide +kernel
theorem dX7_ranked_79 : decode cX7_ranked 79 = .ok (.ifCond .eq 8, 3) := by decide +kernel
theorem dX7_ranked_82 : decode cX7_ranked 82 = .ok (.iload 6, 2) := by decide +kernel
theorem dX7_ranked_84 : decode cX7_ranked 84 = .ok (.goto 15, 3) := by decide +kernel
theorem dX7_ranked_87 : decode cX7_ranked 87 = .ok (.aload_n 0, 1) := by decide +kernel
theorem dX7_ranked_88 : decode cX7_ranked 88 = .ok (.iload 5, 2) := by decide +kernel
theorem dX7_ranked_90 : decode cX7_ranked 90 = .ok (.invokevirtual 196, 3) := by decide +kernel
theorem dX7_ranked_93 : decode cX7_ranked 93 = .ok (.aload_n 0, 1) := by decide +kernel
theorem dX7_ranked_94 : decode cX7_ranked 94 = .ok (.iload_n 3, 1) := by decide +kernel
theorem dX7_ranked_95 : decode cX7_ranked 95 = .ok (.invokevirtual 196, 3) := by decide +kernel
theorem dX7_ranked_98 : decode cX7_ranked 98 = .ok (.isub, 1) := by decide +kernel
theorem dX7_ranked_99 : decode cX7_ranked 99 = .ok (.istore 6, 2) := by decide +kernel
theorem dX7_ranked_101 : decode cX7_ranked 101 = .ok (.iload 4, 2) := by decide +kernel
theorem dX7_ranked_103 : decode cX7_ranked 103 = .ok (.iload 6, 2) := by decide +kernel
theorem dX7_ranked_105 : decode cX7_ranked 105 = .ok (.ifCond .gt 14, 3) := by decide +kernel
theorem dX7_ranked_108 : decode cX7_ranked 108 = .ok (.iload 6, 2) := by decide +kernel
theorem dX7_ranked_110 : decode cX7_ranked 110 = .ok (.ifCond .ne 13, 3) := by decide +kernel
theorem dX7_ranked_113 : decode cX7_ranked 113 = .ok (.iload 5, 2) := by decide +kernel
theorem dX7_ranked_115 : decode cX7_ranked 115 = .ok (.iload_n 3, 1) := by decide +kernel
theorem dX7_ranked_116 : decode cX7_ranked 116 = .ok (.if_icmp .ge 7, 3) := by decide +kernel
theorem dX7_ranked_119 : decode cX7_ranked 119 = .ok (.iconst 1, 1) := by decide +kernel
theorem dX7_ranked_120 : decode cX7_ranked 120 = .ok (.goto 4, 3) := by decide +kernel
theorem dX7_ranked_123 : decode cX7_ranked 123 = .ok (.iconst 0, 1) := by decide +kernel
theorem dX7_ranked_124 : decode cX7_ranked 124 = .ok (.iadd, 1) := by decide +kernel
theorem dX7_ranked_125 : decode cX7_ranked 125 = .ok (.istore 4, 2) := by decide +kernel
theorem dX7_ranked_127 : decode cX7_ranked 127 = .ok (.iinc 5 1, 3) := by decide +kernel
theorem dX7_ranked_130 : decode cX7_ranked 130 = .ok (.goto (-78), 3) := by decide +kernel
theorem dX7_ranked_133 : decode cX7_ranked 133 = .ok (.iload 4, 2) := by decide +kernel
theorem dX7_ranked_135 : decode cX7_ranked 135 = .ok (.iload_n 1, 1) := by decide +kernel
theorem dX7_ranked_136 : decode cX7_ranked 136 = .ok (.if_icmp .ne 7, 3) := by decide +kernel
theorem dX7_ranked_139 : decode cX7_ranked 139 = .ok (.iload_n 3, 1) := by decide +kernel
theorem dX7_ranked_140 : decode cX7_ranked 140 = .ok (.goto 4, 3) := by decide +kernel
theorem dX7_ranked_143 : decode cX7_ranked 143 = .ok (.iload_n 2, 1) := by decide +kernel
theorem dX7_ranked_144 : decode cX7_ranked 144 = .ok (.istore_n 2, 1) := by decide +kernel
theorem dX7_ranked_145 : decode cX7_ranked 145 = .ok (.iinc 3 1, 3) := by decide +kernel
theorem dX7_ranked_148 : decode cX7_ranked 148 = .ok (.goto (-119), 3) := by decide +kernel
theorem dX7_ranked_151 : decode cX7_ranked 151 = .ok (.iload_n 2, 1) := by decide +kernel
theorem dX7_ranked_152 : decode cX7_ranked 152 = .ok (.ireturn, 1) := by decide +kernel
theorem dX7_countOf_0 : decode cX7_countOf 0 = .ok (.iconst 0, 1) := by decide +kernel
theorem dX7_countOf_1 : decode cX7_countOf 1 = .ok (.istore_n 3, 1) := by decide +kernel
theorem dX7_countOf_2 : decode cX7_countOf 2 = .ok (.iconst 0, 1) := by decide +kernel
theorem dX7_countOf_3 : decode cX7_countOf 3 = .ok (.istore 4, 2) := by decide +kernel
theorem dX7_countOf_5 : decode cX7_countOf 5 = .ok (.iload 4, 2) := by decide +kernel
theorem dX7_countOf_7 : decode cX7_countOf 7 = .ok (.aload_n 0, 1) := by decide +kernel
theorem dX7_countOf_8 : decode cX7_countOf 8 = .ok (.iload_n 1, 1) := by decide +kernel
theorem dX7_countOf_9 : decode cX7_countOf 9 = .ok (.iconst 0, 1) := by decide +kernel
theorem dX7_countOf_10 : decode cX7_countOf 10 = .ok (.invokevirtual 69, 3) := by decide +kernel
theorem dX7_countOf_13 : decode cX7_countOf 13 = .ok (.if_icmp .ge 50, 3) := by decide +kernel
theorem dX7_countOf_16 : decode cX7_countOf 16 = .ok (.iconst 0, 1) := by decide +kernel
theorem dX7_countOf_17 : decode cX7_countOf 17 = .ok (.istore 5, 2) := by decide +kernel
theorem dX7_countOf_19 : decode cX7_countOf 19 = .ok (.iload 5, 2) := by decide +kernel
theorem dX7_countOf_21 : decode cX7_countOf 21 = .ok (.aload_n 0, 1) := by decide +kernel
theorem dX7_countOf_22 : decode cX7_countOf 22 = .ok (.iload_n 1, 1) := by decide +kernel
theorem dX7_countOf_23 : decode cX7_countOf 23 = .ok (.iconst 1, 1) := by decide +kernel
theorem dX7_countOf_24 : decode cX7_countOf 24 = .ok (.invokevirtual 69, 3) := by decide +kernel
theorem dX7_countOf_27 : decode cX7_countOf 27 = .ok (.if_icmp .ge 30, 3) := by decide +kernel
theorem dX7_countOf_30 : decode cX7_countOf 30 = .ok (.iload_n 3, 1) := by decide +kernel
theorem dX7_countOf_31 : decode cX7_countOf 31 = .ok (.aload_n 0, 1) := by decide +kernel
theorem dX7_countOf_32 : decode cX7_countOf 32 = .ok (.iload_n 1, 1) := by decide +kernel
theorem dX7_countOf_33 : decode cX7_countOf 33 = .ok (.iload 4, 2) := by decide +kernel
theorem dX7_countOf_35 : decode cX7_countOf 35 = .ok (.iload 5, 2) := by decide +kernel
theorem dX7_countOf_37 : decode cX7_countOf 37 = .ok (.invokevirtual 88, 3) := by decide +kernel
theorem dX7_countOf_40 : decode cX7_countOf 40 = .ok (.iload_n 2, 1) := by decide +kernel
theorem dX7_countOf_41 : decode cX7_countOf 41 = .ok (.if_icmp .ne 7, 3) := by decide +kernel
theorem dX7_countOf_44 : decode cX7_countOf 44 = .ok (.iconst 1, 1) := by decide +kernel
theorem dX7_countOf_45 : decode cX7_countOf 45 = .ok (.goto 4, 3) := by decide +kernel
theorem dX7_countOf_48 : decode cX7_countOf 48 = .ok (.iconst 0, 1) := by decide +kernel
theorem dX7_countOf_49 : decode cX7_countOf 49 = .ok (.iadd, 1) := by decide +kernel
theorem dX7_countOf_50 : decode cX7_countOf 50 = .ok (.istore_n 3, 1) := by decide +kernel
theorem dX7_countOf_51 : decode cX7_countOf 51 = .ok (.iinc 5 1, 3) := by decide +kernel
theorem dX7_countOf_54 : decode cX7_countOf 54 = .ok (.goto (-35), 3) := by decide +kernel
theorem dX7_countOf_57 : decode cX7_countOf 57 = .ok (.iinc 4 1, 3) := by decide +kernel
theorem dX7_countOf_60 : decode cX7_countOf 60 = .ok (.goto (-55), 3) := by decide +kernel
theorem dX7_countOf_63 : decode cX7_countOf 63 = .ok (.iload_n 3, 1) := by decide +kernel
theorem dX7_countOf_64 : decode cX7_countOf 64 = .ok (.ireturn, 1) := by decide +kernel
theorem dX7_count_0 : decode cX7_count 0 = .ok (.aload_n 0, 1) := by decide +kernel
theorem dX7_count_1 : decode cX7_count 1 = .ok (.aload_n 0, 1) := by decide +kernel
theorem dX7_count_2 : decode cX7_count 2 = .ok (.iload_n 1, 1) := by decide +kernel
theorem dX7_count_3 : decode cX7_count 3 = .ok (.invokevirtual 65, 3) := by decide +kernel
theorem dX7_count_6 : decode cX7_count 6 = .ok (.ifCond .ne 7, 3) := by decide +kernel
theorem dX7_count_9 : decode cX7_count 9 = .ok (.iconst 1, 1) := by decide +kernel
theorem dX7_count_10 : decode cX7_count 10 = .ok (.goto 18, 3) := by decide +kernel
theorem dX7_count_13 : decode cX7_count 13 = .ok (.iload_n 2, 1) := by decide +kernel
theorem dX7_count_14 : decode cX7_count 14 = .ok (.iconst 0, 1) := by decide +kernel
theorem dX7_count_15 : decode cX7_count 15 = .ok (.bipush 9, 2) := by decide +kernel
theorem dX7_count_17 : decode cX7_count 17 = .ok (.invokestatic 61, 3) := by decide +kernel
theorem dX7_count_20 : decode cX7_count 20 = .ok (.ifCond .ne 7, 3) := by decide +kernel
theorem dX7_count_23 : decode cX7_count 23 = .ok (.iconst 2, 1) := by decide +kernel
theorem dX7_count_24 : decode cX7_count 24 = .ok (.goto 4, 3) := by decide +kernel
theorem dX7_count_27 : decode cX7_count 27 = .ok (.iconst 0, 1) := by decide +kernel
theorem dX7_count_28 : decode cX7_count 28 = .ok (.putfield 39, 3) := by decide +kernel
theorem dX7_count_31 : decode cX7_count 31 = .ok (.aload_n 0, 1) := by decide +kernel
theorem dX7_count_32 : decode cX7_count 32 = .ok (.getfield 39, 3) := by decide +kernel
theorem dX7_count_35 : decode cX7_count 35 = .ok (.ifCond .le 7, 3) := by decide +kernel
theorem dX7_count_38 : decode cX7_count 38 = .ok (.iconst 0, 1) := by decide +kernel
theorem dX7_count_39 : decode cX7_count 39 = .ok (.goto 9, 3) := by decide +kernel
theorem dX7_count_42 : decode cX7_count 42 = .ok (.aload_n 0, 1) := by decide +kernel
theorem dX7_count_43 : decode cX7_count 43 = .ok (.iload_n 1, 1) := by decide +kernel
theorem dX7_count_44 : decode cX7_count 44 = .ok (.iload_n 2, 1) := by decide +kernel
theorem dX7_count_45 : decode cX7_count 45 = .ok (.invokevirtual 199, 3) := by decide +kernel
theorem dX7_count_48 : decode cX7_count 48 = .ok (.ireturn, 1) := by decide +kernel
theorem dX7_says_0 : decode cX7_says 0 = .ok (.aload_n 0, 1) := by decide +kernel
theorem dX7_says_1 : decode cX7_says 1 = .ok (.getfield 25, 3) := by decide +kernel
theorem dX7_says_4 : decode cX7_says 4 = .ok (.aload_n 0, 1) := by decide +kernel
theorem dX7_says_5 : decode cX7_says 5 = .ok (.getfield 202, 3) := by decide +kernel
theorem dX7_says_8 : decode cX7_says 8 = .ok (.iload_n 1, 1) := by decide +kernel
theorem dX7_says_9 : decode cX7_says 9 = .ok (.castore, 1) := by decide +kernel
theorem dX7_says_10 : decode cX7_says 10 = .ok (.aload_n 0, 1) := by decide +kernel
theorem dX7_says_11 : decode cX7_says 11 = .ok (.dup, 1) := by decide +kernel
theorem dX7_says_12 : decode cX7_says 12 = .ok (.getfield 202, 3) := by decide +kernel
theorem dX7_says_15 : decode cX7_says 15 = .ok (.iconst 1, 1) := by decide +kernel
theorem dX7_says_16 : decode cX7_says 16 = .ok (.iadd, 1) := by decide +kernel
theorem dX7_says_17 : decode cX7_says 17 = .ok (.putfield 202, 3) := by decide +kernel
theorem dX7_says_20 : decode cX7_says 20 = .ok (.return_, 1) := by decide +kernel
theorem dX7_line_0 : decode cX7_line 0 = .ok (.aload_n 0, 1) := by decide +kernel
theorem dX7_line_1 : decode cX7_line 1 = .ok (.aload_n 0, 1) := by decide +kernel
theorem dX7_line_2 : decode cX7_line 2 = .ok (.iload_n 1, 1) := by decide +kernel
theorem dX7_line_3 : decode cX7_line 3 = .ok (.iload_n 2, 1) := by decide +kernel
theorem dX7_line_4 : decode cX7_line 4 = .ok (.invokevirtual 73, 3) := by decide +kernel
theorem dX7_line_7 : decode cX7_line 7 = .ok (.ifCond .eq 7, 3) := by decide +kernel
theorem dX7_line_10 : decode cX7_line 10 = .ok (.iconst 0, 1) := by decide +kernel
theorem dX7_line_11 : decode cX7_line 11 = .ok (.goto 4, 3) := by decide +kernel
theorem dX7_line_14 : decode cX7_line 14 = .ok (.iconst 1, 1) := by decide +kernel
theorem dX7_line_15 : decode cX7_line 15 = .ok (.putfield 39, 3) := by decide +kernel
theorem dX7_line_18 : decode cX7_line 18 = .ok (.aload_n 0, 1) := by decide +kernel
theorem dX7_line_19 : decode cX7_line 19 = .ok (.getfield 39, 3) := by decide +kernel
theorem dX7_line_22 : decode cX7_line 22 = .ok (.ifCond .le 5, 3) := by decide +kernel
theorem dX7_line_25 : decode cX7_line 25 = .ok (.iconst 0, 1) := by decide +kernel
theorem dX7_line_26 : decode cX7_line 26 = .ok (.ireturn, 1) := by decide +kernel
theorem dX7_line_27 : decode cX7_line 27 = .ok (.aload_n 0, 1) := by decide +kernel
theorem dX7_line_28 : decode cX7_line 28 = .ok (.iconst 0, 1) := by decide +kernel
theorem dX7_line_29 : decode cX7_line 29 = .ok (.putfield 202, 3) := by decide +kernel
theorem dX7_line_32 : decode cX7_line 32 = .ok (.iconst 0, 1) := by decide +kernel
theorem dX7_line_33 : decode cX7_line 33 = .ok (.istore_n 3, 1) := by decide +kernel
theorem dX7_line_34 : decode cX7_line 34 = .ok (.iload_n 3, 1) := by decide +kernel
theorem dX7_line_35 : decode cX7_line 35 = .ok (.aload_n 0, 1) := by decide +kernel
theorem dX7_line_36 : decode cX7_line 36 = .ok (.iload_n 1, 1) := by decide +kernel
theorem dX7_line_37 : decode cX7_line 37 = .ok (.iconst 1, 1) := by decide +kernel
theorem dX7_line_38 : decode cX7_line 38 = .ok (.invokevirtual 69, 3) := by decide +kernel
theorem dX7_line_41 : decode cX7_line 41 = .ok (.if_icmp .ge 38, 3) := by decide +kernel
theorem dX7_line_44 : decode cX7_line 44 = .ok (.aload_n 0, 1) := by decide +kernel
theorem dX7_line_45 : decode cX7_line 45 = .ok (.iload_n 1, 1) := by decide +kernel
theorem dX7_line_46 : decode cX7_line 46 = .ok (.iload_n 2, 1) := by decide +kernel
theorem dX7_line_47 : decode cX7_line 47 = .ok (.iload_n 3, 1) := by decide +kernel
theorem dX7_line_48 : decode cX7_line 48 = .ok (.invokevirtual 88, 3) := by decide +kernel
theorem dX7_line_51 : decode cX7_line 51 = .ok (.istore 4, 2) := by decide +kernel
theorem dX7_line_53 : decode cX7_line 53 = .ok (.aload_n 0, 1) := by decide +kernel
theorem dX7_line_54 : decode cX7_line 54 = .ok (.iload 4, 2) := by decide +kernel
theorem dX7_line_56 : decode cX7_line 56 = .ok (.ifCond .ge 8, 3) := by decide +kernel
theorem dX7_line_59 : decode cX7_line 59 = .ok (.bipush 63, 2) := by decide +kernel
theorem dX7_line_61 : decode cX7_line 61 = .ok (.goto 9, 3) := by decide +kernel
theorem dX7_line_64 : decode cX7_line 64 = .ok (.bipush 48, 2) := by decide +kernel
theorem dX7_line_66 : decode cX7_line 66 = .ok (.iload 4, 2) := by decide +kernel
theorem dX7_line_68 : decode cX7_line 68 = .ok (.iadd, 1) := by decide +kernel
theorem dX7_line_69 : decode cX7_line 69 = .ok (.i2c, 1) := by decide +kernel
theorem dX7_line_70 : decode cX7_line 70 = .ok (.invokevirtual 205, 3) := by decide +kernel
theorem dX7_line_73 : decode cX7_line 73 = .ok (.iinc 3 1, 3) := by decide +kernel
theorem dX7_line_76 : decode cX7_line 76 = .ok (.goto (-42), 3) := by decide +kernel
theorem dX7_line_79 : decode cX7_line 79 = .ok (.aload_n 0, 1) := by decide +kernel
theorem dX7_line_80 : decode cX7_line 80 = .ok (.iload_n 1, 1) := by decide +kernel
theorem dX7_line_81 : decode cX7_line 81 = .ok (.invokevirtual 111, 3) := by decide +kernel
theorem dX7_line_84 : decode cX7_line 84 = .ok (.ifCond .eq 40, 3) := by decide +kernel
theorem dX7_line_87 : decode cX7_line 87 = .ok (.aload_n 0, 1) := by decide +kernel
theorem dX7_line_88 : decode cX7_line 88 = .ok (.bipush 124, 2) := by decide +kernel
theorem dX7_line_90 : decode cX7_line 90 = .ok (.invokevirtual 205, 3) := by decide +kernel
theorem dX7_line_93 : decode cX7_line 93 = .ok (.aload_n 0, 1) := by decide +kernel
theorem dX7_line_94 : decode cX7_line 94 = .ok (.bipush 48, 2) := by decide +kernel
theorem dX7_line_96 : decode cX7_line 96 = .ok (.aload_n 0, 1) := by decide +kernel
theorem dX7_line_97 : decode cX7_line 97 = .ok (.iload_n 1, 1) := by decide +kernel
theorem dX7_line_98 : decode cX7_line 98 = .ok (.iconst 1, 1) := by decide +kernel
theorem dX7_line_99 : decode cX7_line 99 = .ok (.iload_n 2, 1) := by decide +kernel
theorem dX7_line_100 : decode cX7_line 100 = .ok (.invokevirtual 105, 3) := by decide +kernel
theorem dX7_line_103 : decode cX7_line 103 = .ok (.iadd, 1) := by decide +kernel
theorem dX7_line_104 : decode cX7_line 104 = .ok (.i2c, 1) := by decide +kernel
theorem dX7_line_105 : decode cX7_line 105 = .ok (.invokevirtual 205, 3) := by decide +kernel
theorem dX7_line_108 : decode cX7_line 108 = .ok (.aload_n 0, 1) := by decide +kernel
theorem dX7_line_109 : decode cX7_line 109 = .ok (.iload_n 1, 1) := by decide +kernel
theorem dX7_line_110 : decode cX7_line 110 = .ok (.iconst 1, 1) := by decide +kernel
theorem dX7_line_111 : decode cX7_line 111 = .ok (.iload_n 2, 1) := by decide +kernel
theorem dX7_line_112 : decode cX7_line 112 = .ok (.invokevirtual 117, 3) := by decide +kernel
theorem dX7_line_115 : decode cX7_line 115 = .ok (.ifCond .eq 9, 3) := by decide +kernel
theorem dX7_line_118 : decode cX7_line 118 = .ok (.aload_n 0, 1) := by decide +kernel
theorem dX7_line_119 : decode cX7_line 119 = .ok (.bipush 33, 2) := by decide +kernel
theorem dX7_line_121 : decode cX7_line 121 = .ok (.invokevirtual 205, 3) := by decide +kernel
theorem dX7_line_124 : decode cX7_line 124 = .ok (.aload_n 0, 1) := by decide +kernel
theorem dX7_line_125 : decode cX7_line 125 = .ok (.getfield 202, 3) := by decide +kernel
theorem dX7_line_128 : decode cX7_line 128 = .ok (.ireturn, 1) := by decide +kernel
theorem dX7_character_0 : decode cX7_character 0 = .ok (.aload_n 0, 1) := by decide +kernel
theorem dX7_character_1 : decode cX7_character 1 = .ok (.iload_n 1, 1) := by decide +kernel
theorem dX7_character_2 : decode cX7_character 2 = .ok (.iconst 0, 1) := by decide +kernel
theorem dX7_character_3 : decode cX7_character 3 = .ok (.aload_n 0, 1) := by decide +kernel
theorem dX7_character_4 : decode cX7_character 4 = .ok (.getfield 202, 3) := by decide +kernel
theorem dX7_character_7 : decode cX7_character 7 = .ok (.iconst 1, 1) := by decide +kernel
theorem dX7_character_8 : decode cX7_character 8 = .ok (.isub, 1) := by decide +kernel
theorem dX7_character_9 : decode cX7_character 9 = .ok (.invokestatic 61, 3) := by decide +kernel
theorem dX7_character_12 : decode cX7_character 12 = .ok (.ifCond .eq 7, 3) := by decide +kernel
theorem dX7_character_15 : decode cX7_character 15 = .ok (.iconst 0, 1) := by decide +kernel
theorem dX7_character_16 : decode cX7_character 16 = .ok (.goto 4, 3) := by decide +kernel
theorem dX7_character_19 : decode cX7_character 19 = .ok (.iconst 1, 1) := by decide +kernel
theorem dX7_character_20 : decode cX7_character 20 = .ok (.putfield 39, 3) := by decide +kernel
theorem dX7_character_23 : decode cX7_character 23 = .ok (.aload_n 0, 1) := by decide +kernel
theorem dX7_character_24 : decode cX7_character 24 = .ok (.getfield 39, 3) := by decide +kernel
theorem dX7_character_27 : decode cX7_character 27 = .ok (.ifCond .le 8, 3) := by decide +kernel
theorem dX7_character_30 : decode cX7_character 30 = .ok (.bipush 32, 2) := by decide +kernel
theorem dX7_character_32 : decode cX7_character 32 = .ok (.goto 9, 3) := by decide +kernel
theorem dX7_character_35 : decode cX7_character 35 = .ok (.aload_n 0, 1) := by decide +kernel
theorem dX7_character_36 : decode cX7_character 36 = .ok (.getfield 25, 3) := by decide +kernel
theorem dX7_character_39 : decode cX7_character 39 = .ok (.iload_n 1, 1) := by decide +kernel
theorem dX7_character_40 : decode cX7_character 40 = .ok (.caload, 1) := by decide +kernel
theorem dX7_character_41 : decode cX7_character 41 = .ok (.ireturn, 1) := by decide +kernel
theorem dX7_append_0 : decode cX7_append 0 = .ok (.aload_n 0, 1) := by decide +kernel
theorem dX7_append_1 : decode cX7_append 1 = .ok (.aload_n 0, 1) := by decide +kernel
theorem dX7_append_2 : decode cX7_append 2 = .ok (.getfield 209, 3) := by decide +kernel
theorem dX7_append_5 : decode cX7_append 5 = .ok (.bipush 60, 2) := by decide +kernel
theorem dX7_append_7 : decode cX7_append 7 = .ok (.if_icmp .ne 7, 3) := by decide +kernel
theorem dX7_append_10 : decode cX7_append 10 = .ok (.iconst 1, 1) := by decide +kernel
theorem dX7_append_11 : decode cX7_append 11 = .ok (.goto 4, 3) := by decide +kernel
theorem dX7_append_14 : decode cX7_append 14 = .ok (.iconst 0, 1) := by decide +kernel
theorem dX7_append_15 : decode cX7_append 15 = .ok (.putfield 39, 3) := by decide +kernel
theorem dX7_append_18 : decode cX7_append 18 = .ok (.aload_n 0, 1) := by decide +kernel
theorem dX7_append_19 : decode cX7_append 19 = .ok (.getfield 39, 3) := by decide +kernel
theorem dX7_append_22 : decode cX7_append 22 = .ok (.ifCond .le 5, 3) := by decide +kernel
theorem dX7_append_25 : decode cX7_append 25 = .ok (.iconst 0, 1) := by decide +kernel
theorem dX7_append_26 : decode cX7_append 26 = .ok (.ireturn, 1) := by decide +kernel
theorem dX7_append_27 : decode cX7_append 27 = .ok (.aload_n 0, 1) := by decide +kernel
theorem dX7_append_28 : decode cX7_append 28 = .ok (.getfield 29, 3) := by decide +kernel
theorem dX7_append_31 : decode cX7_append 31 = .ok (.aload_n 0, 1) := by decide +kernel
theorem dX7_append_32 : decode cX7_append 32 = .ok (.getfield 209, 3) := by decide +kernel
theorem dX7_append_35 : decode cX7_append 35 = .ok (.iload_n 1, 1) := by decide +kernel
theorem dX7_append_36 : decode cX7_append 36 = .ok (.castore, 1) := by decide +kernel
theorem dX7_append_37 : decode cX7_append 37 = .ok (.aload_n 0, 1) := by decide +kernel
theorem dX7_append_38 : decode cX7_append 38 = .ok (.dup, 1) := by decide +kernel
theorem dX7_append_39 : decode cX7_append 39 = .ok (.getfield 209, 3) := by decide +kernel
theorem dX7_append_42 : decode cX7_append 42 = .ok (.iconst 1, 1) := by decide +kernel
theorem dX7_append_43 : decode cX7_append 43 = .ok (.iadd, 1) := by decide +kernel
theorem dX7_append_44 : decode cX7_append 44 = .ok (.putfield 209, 3) := by decide +kernel
theorem dX7_append_47 : decode cX7_append 47 = .ok (.aload_n 0, 1) := by decide +kernel
theorem dX7_append_48 : decode cX7_append 48 = .ok (.getfield 209, 3) := by decide +kernel
theorem dX7_append_51 : decode cX7_append 51 = .ok (.ireturn, 1) := by decide +kernel
theorem dX7_isHere_0 : decode cX7_isHere 0 = .ok (.aload_n 0, 1) := by decide +kernel
theorem dX7_isHere_1 : decode cX7_isHere 1 = .ok (.getfield 211, 3) := by decide +kernel
theorem dX7_isHere_4 : decode cX7_isHere 4 = .ok (.ifCond .ne 35, 3) := by decide +kernel
theorem dX7_isHere_7 : decode cX7_isHere 7 = .ok (.aload_n 0, 1) := by decide +kernel
theorem dX7_isHere_8 : decode cX7_isHere 8 = .ok (.getfield 214, 3) := by decide +kernel
theorem dX7_isHere_11 : decode cX7_isHere 11 = .ok (.aload_n 0, 1) := by decide +kernel
theorem dX7_isHere_12 : decode cX7_isHere 12 = .ok (.getfield 209, 3) := by decide +kernel
theorem dX7_isHere_15 : decode cX7_isHere 15 = .ok (.if_icmp .ge 24, 3) := by decide +kernel
theorem dX7_isHere_18 : decode cX7_isHere 18 = .ok (.aload_n 0, 1) := by decide +kernel
theorem dX7_isHere_19 : decode cX7_isHere 19 = .ok (.getfield 29, 3) := by decide +kernel
theorem dX7_isHere_22 : decode cX7_isHere 22 = .ok (.aload_n 0, 1) := by decide +kernel
theorem dX7_isHere_23 : decode cX7_isHere 23 = .ok (.getfield 214, 3) := by decide +kernel
theorem dX7_isHere_26 : decode cX7_isHere 26 = .ok (.caload, 1) := by decide +kernel
theorem dX7_isHere_27 : decode cX7_isHere 27 = .ok (.iload_n 1, 1) := by decide +kernel
theorem dX7_isHere_28 : decode cX7_isHere 28 = .ok (.iload_n 2, 1) := by decide +kernel
theorem dX7_isHere_29 : decode cX7_isHere 29 = .ok (.invokestatic 61, 3) := by decide +kernel
theorem dX7_isHere_32 : decode cX7_isHere 32 = .ok (.ifCond .eq 7, 3) := by decide +kernel
theorem dX7_isHere_35 : decode cX7_isHere 35 = .ok (.iconst 1, 1) := by decide +kernel
theorem dX7_isHere_36 : decode cX7_isHere 36 = .ok (.goto 4, 3) := by decide +kernel
theorem dX7_isHere_39 : decode cX7_isHere 39 = .ok (.iconst 0, 1) := by decide +kernel
theorem dX7_isHere_40 : decode cX7_isHere 40 = .ok (.ireturn, 1) := by decide +kernel
theorem dX7_sign_0 : decode cX7_sign 0 = .ok (.aload_n 0, 1) := by decide +kernel
theorem dX7_sign_1 : decode cX7_sign 1 = .ok (.aload_n 0, 1) := by decide +kernel
theorem dX7_sign_2 : decode cX7_sign 2 = .ok (.iload_n 1, 1) := by decide +kernel
theorem dX7_sign_3 : decode cX7_sign 3 = .ok (.iload_n 2, 1) := by decide +kernel
theorem dX7_sign_4 : decode cX7_sign 4 = .ok (.invokevirtual 217, 3) := by decide +kernel
theorem dX7_sign_7 : decode cX7_sign 7 = .ok (.ifCond .ne 7, 3) := by decide +kernel
theorem dX7_sign_10 : decode cX7_sign 10 = .ok (.iconst 1, 1) := by decide +kernel
theorem dX7_sign_11 : decode cX7_sign 11 = .ok (.goto 4, 3) := by decide +kernel
theorem dX7_sign_14 : decode cX7_sign 14 = .ok (.iconst 0, 1) := by decide +kernel
theorem dX7_sign_15 : decode cX7_sign 15 = .ok (.putfield 211, 3) := by decide +kernel
theorem dX7_sign_18 : decode cX7_sign 18 = .ok (.aload_n 0, 1) := by decide +kernel
theorem dX7_sign_19 : decode cX7_sign 19 = .ok (.getfield 211, 3) := by decide +kernel
theorem dX7_sign_22 : decode cX7_sign 22 = .ok (.ifCond .eq 5, 3) := by decide +kernel
theorem dX7_sign_25 : decode cX7_sign 25 = .ok (.iconst 0, 1) := by decide +kernel
theorem dX7_sign_26 : decode cX7_sign 26 = .ok (.ireturn, 1) := by decide +kernel
theorem dX7_sign_27 : decode cX7_sign 27 = .ok (.aload_n 0, 1) := by decide +kernel
theorem dX7_sign_28 : decode cX7_sign 28 = .ok (.dup, 1) := by decide +kernel
theorem dX7_sign_29 : decode cX7_sign 29 = .ok (.getfield 214, 3) := by decide +kernel
theorem dX7_sign_32 : decode cX7_sign 32 = .ok (.iconst 1, 1) := by decide +kernel
theorem dX7_sign_33 : decode cX7_sign 33 = .ok (.iadd, 1) := by decide +kernel
theorem dX7_sign_34 : decode cX7_sign 34 = .ok (.putfield 214, 3) := by decide +kernel
theorem dX7_sign_37 : decode cX7_sign 37 = .ok (.aload_n 0, 1) := by decide +kernel
theorem dX7_sign_38 : decode cX7_sign 38 = .ok (.getfield 29, 3) := by decide +kernel
theorem dX7_sign_41 : decode cX7_sign 41 = .ok (.aload_n 0, 1) := by decide +kernel
theorem dX7_sign_42 : decode cX7_sign 42 = .ok (.getfield 214, 3) := by decide +kernel
theorem dX7_sign_45 : decode cX7_sign 45 = .ok (.iconst 1, 1) := by decide +kernel
theorem dX7_sign_46 : decode cX7_sign 46 = .ok (.isub, 1) := by decide +kernel
theorem dX7_sign_47 : decode cX7_sign 47 = .ok (.caload, 1) := by decide +kernel
theorem dX7_sign_48 : decode cX7_sign 48 = .ok (.iload_n 1, 1) := by decide +kernel
theorem dX7_sign_49 : decode cX7_sign 49 = .ok (.isub, 1) := by decide +kernel
theorem dX7_sign_50 : decode cX7_sign 50 = .ok (.ireturn, 1) := by decide +kernel
theorem dX7_digit_0 : decode cX7_digit 0 = .ok (.aload_n 0, 1) := by decide +kernel
theorem dX7_digit_1 : decode cX7_digit 1 = .ok (.bipush 48, 2) := by decide +kernel
theorem dX7_digit_3 : decode cX7_digit 3 = .ok (.bipush 57, 2) := by decide +kernel
theorem dX7_digit_5 : decode cX7_digit 5 = .ok (.invokevirtual 221, 3) := by decide +kernel
theorem dX7_digit_8 : decode cX7_digit 8 = .ok (.ireturn, 1) := by decide +kernel
theorem dX7_digitBehind_0 : decode cX7_digitBehind 0 = .ok (.aload_n 0, 1) := by decide +kernel
theorem dX7_digitBehind_1 : decode cX7_digitBehind 1 = .ok (.iload_n 1, 1) := by decide +kernel
theorem dX7_digitBehind_2 : decode cX7_digitBehind 2 = .ok (.iload_n 1, 1) := by decide +kernel
theorem dX7_digitBehind_3 : decode cX7_digitBehind 3 = .ok (.invokevirtual 221, 3) := by decide +kernel
theorem dX7_digitBehind_6 : decode cX7_digitBehind 6 = .ok (.istore_n 2, 1) := by decide +kernel
theorem dX7_digitBehind_7 : decode cX7_digitBehind 7 = .ok (.aload_n 0, 1) := by decide +kernel
theorem dX7_digitBehind_8 : decode cX7_digitBehind 8 = .ok (.invokevirtual 225, 3) := by decide +kernel
theorem dX7_digitBehind_11 : decode cX7_digitBehind 11 = .ok (.ireturn, 1) := by decide +kernel
theorem dX7_readOrder_0 : decode cX7_readOrder 0 = .ok (.aload_n 0, 1) := by decide +kernel
theorem dX7_readOrder_1 : decode cX7_readOrder 1 = .ok (.getfield 211, 3) := by decide +kernel
theorem dX7_readOrder_4 : decode cX7_readOrder 4 = .ok (.ifCond .ne 14, 3) := by decide +kernel
theorem dX7_readOrder_7 : decode cX7_readOrder 7 = .ok (.aload_n 0, 1) := by decide +kernel
theorem dX7_readOrder_8 : decode cX7_readOrder 8 = .ok (.getfield 214, 3) := by decide +kernel
theorem dX7_readOrder_11 : decode cX7_readOrder 11 = .ok (.aload_n 0, 1) := by decide +kernel
theorem dX7_readOrder_12 : decode cX7_readOrder 12 = .ok (.getfield 209, 3) := by decide +kernel
theorem dX7_readOrder_15 : decode cX7_readOrder 15 = .ok (.if_icmp .ne 8, 3) := by decide +kernel
theorem dX7_readOrder_18 : decode cX7_readOrder 18 = .ok (.bipush 32, 2) := by decide +kernel
theorem dX7_readOrder_20 : decode cX7_readOrder 20 = .ok (.goto 12, 3) := by decide +kernel
theorem dX7_readOrder_23 : decode cX7_readOrder 23 = .ok (.aload_n 0, 1) := by decide +kernel
theorem dX7_readOrder_24 : decode cX7_readOrder 24 = .ok (.getfield 29, 3) := by decide +kernel
theorem dX7_readOrder_27 : decode cX7_readOrder 27 = .ok (.aload_n 0, 1) := by decide +kernel
theorem dX7_readOrder_28 : decode cX7_readOrder 28 = .ok (.getfield 214, 3) := by decide +kernel
theorem dX7_readOrder_31 : decode cX7_readOrder 31 = .ok (.caload, 1) := by decide +kernel
theorem dX7_readOrder_32 : decode cX7_readOrder 32 = .ok (.istore_n 1, 1) := by decide +kernel
theorem dX7_readOrder_33 : decode cX7_readOrder 33 = .ok (.aload_n 0, 1) := by decide +kernel
theorem dX7_readOrder_34 : decode cX7_readOrder 34 = .ok (.ldc 229, 2) := by decide +kernel
theorem dX7_readOrder_36 : decode cX7_readOrder 36 = .ok (.iload_n 1, 1) := by decide +kernel
theorem dX7_readOrder_37 : decode cX7_readOrder 37 = .ok (.invokevirtual 231, 3) := by decide +kernel
theorem dX7_readOrder_40 : decode cX7_readOrder 40 = .ok (.ifCond .ge 7, 3) := by decide +kernel
theorem dX7_readOrder_43 : decode cX7_readOrder 43 = .ok (.iconst 1, 1) := by decide +kernel
theorem dX7_readOrder_44 : decode cX7_readOrder 44 = .ok (.goto 4, 3) := by decide +kernel
theorem dX7_readOrder_47 : decode cX7_readOrder 47 = .ok (.iconst 0, 1) := by decide +kernel
theorem dX7_readOrder_48 : decode cX7_readOrder 48 = .ok (.putfield 211, 3) := by decide +kernel
theorem dX7_readOrder_51 : decode cX7_readOrder 51 = .ok (.aload_n 0, 1) := by decide +kernel
theorem dX7_readOrder_52 : decode cX7_readOrder 52 = .ok (.getfield 211, 3) := by decide +kernel
theorem dX7_readOrder_55 : decode cX7_readOrder 55 = .ok (.ifCond .eq 4, 3) := by decide +kernel
theorem dX7_readOrder_58 : decode cX7_readOrder 58 = .ok (.return_, 1) := by decide +kernel
theorem dX7_readOrder_59 : decode cX7_readOrder 59 = .ok (.aload_n 0, 1) := by decide +kernel
theorem dX7_readOrder_60 : decode cX7_readOrder 60 = .ok (.dup, 1) := by decide +kernel
theorem dX7_readOrder_61 : decode cX7_readOrder 61 = .ok (.getfield 214, 3) := by decide +kernel
theorem dX7_readOrder_64 : decode cX7_readOrder 64 = .ok (.iconst 1, 1) := by decide +kernel
theorem dX7_readOrder_65 : decode cX7_readOrder 65 = .ok (.iadd, 1) := by decide +kernel
theorem dX7_readOrder_66 : decode cX7_readOrder 66 = .ok (.putfield 214, 3) := by decide +kernel
theorem dX7_readOrder_69 : decode cX7_readOrder 69 = .ok (.iconst 5, 1) := by decide +kernel
theorem dX7_readOrder_70 : decode cX7_readOrder 70 = .ok (.aload_n 0, 1) := by decide +kernel
theorem dX7_readOrder_71 : decode cX7_readOrder 71 = .ok (.getfield 236, 3) := by decide +kernel
theorem dX7_readOrder_74 : decode cX7_readOrder 74 = .ok (.imul, 1) := by decide +kernel
theorem dX7_readOrder_75 : decode cX7_readOrder 75 = .ok (.istore_n 2, 1) := by decide +kernel
theorem dX7_readOrder_76 : decode cX7_readOrder 76 = .ok (.iload_n 1, 1) := by decide +kernel
theorem dX7_readOrder_77 : decode cX7_readOrder 77 = .ok (.bipush 119, 2) := by decide +kernel
theorem dX7_readOrder_79 : decode cX7_readOrder 79 = .ok (.if_icmp .eq 15, 3) := by decide +kernel
theorem dX7_readOrder_82 : decode cX7_readOrder 82 = .ok (.iload_n 1, 1) := by decide +kernel
theorem dX7_readOrder_83 : decode cX7_readOrder 83 = .ok (.bipush 101, 2) := by decide +kernel
theorem dX7_readOrder_85 : decode cX7_readOrder 85 = .ok (.if_icmp .eq 9, 3) := by decide +kernel
theorem dX7_readOrder_88 : decode cX7_readOrder 88 = .ok (.iload_n 1, 1) := by decide +kernel
theorem dX7_readOrder_89 : decode cX7_readOrder 89 = .ok (.bipush 120, 2) := by decide +kernel
theorem dX7_readOrder_91 : decode cX7_readOrder 91 = .ok (.if_icmp .ne 7, 3) := by decide +kernel
theorem dX7_readOrder_94 : decode cX7_readOrder 94 = .ok (.iconst 1, 1) := by decide +kernel
theorem dX7_readOrder_95 : decode cX7_readOrder 95 = .ok (.goto 4, 3) := by decide +kernel
theorem dX7_readOrder_98 : decode cX7_readOrder 98 = .ok (.iconst 0, 1) := by decide +kernel
theorem dX7_readOrder_99 : decode cX7_readOrder 99 = .ok (.istore_n 3, 1) := by decide +kernel
theorem dX7_readOrder_100 : decode cX7_readOrder 100 = .ok (.aload_n 0, 1) := by decide +kernel
theorem dX7_readOrder_101 : decode cX7_readOrder 101 = .ok (.getfield 36, 3) := by decide +kernel
theorem dX7_readOrder_104 : decode cX7_readOrder 104 = .ok (.iload_n 2, 1) := by decide +kernel
theorem dX7_readOrder_105 : decode cX7_readOrder 105 = .ok (.iload_n 1, 1) := by decide +kernel
theorem dX7_readOrder_106 : decode cX7_readOrder 106 = .ok (.iastore, 1) := by decide +kernel
theorem dX7_readOrder_107 : decode cX7_readOrder 107 = .ok (.aload_n 0, 1) := by decide +kernel
theorem dX7_readOrder_108 : decode cX7_readOrder 108 = .ok (.getfield 36, 3) := by decide +kernel
theorem dX7_readOrder_111 : decode cX7_readOrder 111 = .ok (.iload_n 2, 1) := by decide +kernel
theorem dX7_readOrder_112 : decode cX7_readOrder 112 = .ok (.iconst 1, 1) := by decide +kernel
theorem dX7_readOrder_113 : decode cX7_readOrder 113 = .ok (.iadd, 1) := by decide +kernel
theorem dX7_readOrder_114 : decode cX7_readOrder 114 = .ok (.aload_n 0, 1) := by decide +kernel
theorem dX7_readOrder_115 : decode cX7_readOrder 115 = .ok (.invokevirtual 225, 3) := by decide +kernel
theorem dX7_readOrder_118 : decode cX7_readOrder 118 = .ok (.iastore, 1) := by decide +kernel
theorem dX7_readOrder_119 : decode cX7_readOrder 119 = .ok (.aload_n 0, 1) := by decide +kernel
theorem dX7_readOrder_120 : decode cX7_readOrder 120 = .ok (.getfield 36, 3) := by decide +kernel
theorem dX7_readOrder_123 : decode cX7_readOrder 123 = .ok (.iload_n 2, 1) := by decide +kernel
theorem dX7_readOrder_124 : decode cX7_readOrder 124 = .ok (.iconst 2, 1) := by decide +kernel
theorem dX7_readOrder_125 : decode cX7_readOrder 125 = .ok (.iadd, 1) := by decide +kernel
theorem dX7_readOrder_126 : decode cX7_readOrder 126 = .ok (.iload_n 3, 1) := by decide +kernel
theorem dX7_readOrder_127 : decode cX7_readOrder 127 = .ok (.ifCond .eq 12, 3) := by decide +kernel
theorem dX7_readOrder_130 : decode cX7_readOrder 130 = .ok (.aload_n 0, 1) := by decide +kernel
theorem dX7_readOrder_131 : decode cX7_readOrder 131 = .ok (.bipush 58, 2) := by decide +kernel
theorem dX7_readOrder_133 : decode cX7_readOrder 133 = .ok (.invokevirtual 239, 3) := by decide +kernel
theorem dX7_readOrder_136 : decode cX7_readOrder 136 = .ok (.goto 4, 3) := by decide +kernel
theorem dX7_readOrder_139 : decode cX7_readOrder 139 = .ok (.iconst 0, 1) := by decide +kernel
theorem dX7_readOrder_140 : decode cX7_readOrder 140 = .ok (.iastore, 1) := by decide +kernel
theorem dX7_readOrder_141 : decode cX7_readOrder 141 = .ok (.aload_n 0, 1) := by decide +kernel
theorem dX7_readOrder_142 : decode cX7_readOrder 142 = .ok (.getfield 36, 3) := by decide +kernel
theorem dX7_readOrder_145 : decode cX7_readOrder 145 = .ok (.iload_n 2, 1) := by decide +kernel
theorem dX7_readOrder_146 : decode cX7_readOrder 146 = .ok (.iconst 3, 1) := by decide +kernel
theorem dX7_readOrder_147 : decode cX7_readOrder 147 = .ok (.iadd, 1) := by decide +kernel
theorem dX7_readOrder_148 : decode cX7_readOrder 148 = .ok (.iload_n 3, 1) := by decide +kernel
theorem dX7_readOrder_149 : decode cX7_readOrder 149 = .ok (.ifCond .eq 12, 3) := by decide +kernel
theorem dX7_readOrder_152 : decode cX7_readOrder 152 = .ok (.aload_n 0, 1) := by decide +kernel
theorem dX7_readOrder_153 : decode cX7_readOrder 153 = .ok (.bipush 44, 2) := by decide +kernel
theorem dX7_readOrder_155 : decode cX7_readOrder 155 = .ok (.invokevirtual 239, 3) := by decide +kernel
theorem dX7_readOrder_158 : decode cX7_readOrder 158 = .ok (.goto 4, 3) := by decide +kernel
theorem dX7_readOrder_161 : decode cX7_readOrder 161 = .ok (.iconst 0, 1) := by decide +kernel
theorem dX7_readOrder_162 : decode cX7_readOrder 162 = .ok (.iastore, 1) := by decide +kernel
theorem dX7_readOrder_163 : decode cX7_readOrder 163 = .ok (.aload_n 0, 1) := by decide +kernel
theorem dX7_readOrder_164 : decode cX7_readOrder 164 = .ok (.getfield 36, 3) := by decide +kernel
theorem dX7_readOrder_167 : decode cX7_readOrder 167 = .ok (.iload_n 2, 1) := by decide +kernel
theorem dX7_readOrder_168 : decode cX7_readOrder 168 = .ok (.iconst 4, 1) := by decide +kernel
theorem dX7_readOrder_169 : decode cX7_readOrder 169 = .ok (.iadd, 1) := by decide +kernel
theorem dX7_readOrder_170 : decode cX7_readOrder 170 = .ok (.iload_n 1, 1) := by decide +kernel
theorem dX7_readOrder_171 : decode cX7_readOrder 171 = .ok (.bipush 119, 2) := by decide +kernel
theorem dX7_readOrder_173 : decode cX7_readOrder 173 = .ok (.if_icmp .ne 12, 3) := by decide +kernel
theorem dX7_readOrder_176 : decode cX7_readOrder 176 = .ok (.aload_n 0, 1) := by decide +kernel
theorem dX7_readOrder_177 : decode cX7_readOrder 177 = .ok (.bipush 61, 2) := by decide +kernel
theorem dX7_readOrder_179 : decode cX7_readOrder 179 = .ok (.invokevirtual 239, 3) := by decide +kernel
theorem dX7_readOrder_182 : decode cX7_readOrder 182 = .ok (.goto 19, 3) := by decide +kernel
theorem dX7_readOrder_185 : decode cX7_readOrder 185 = .ok (.iload_n 1, 1) := by decide +kernel
theorem dX7_readOrder_186 : decode cX7_readOrder 186 = .ok (.bipush 101, 2) := by decide +kernel
theorem dX7_readOrder_188 : decode cX7_readOrder 188 = .ok (.if_icmp .ne 12, 3) := by decide +kernel
theorem dX7_readOrder_191 : decode cX7_readOrder 191 = .ok (.aload_n 0, 1) := by decide +kernel
theorem dX7_readOrder_192 : decode cX7_readOrder 192 = .ok (.bipush 43, 2) := by decide +kernel
theorem dX7_readOrder_194 : decode cX7_readOrder 194 = .ok (.invokevirtual 239, 3) := by decide +kernel
theorem dX7_readOrder_197 : decode cX7_readOrder 197 = .ok (.goto 4, 3) := by decide +kernel
theorem dX7_readOrder_200 : decode cX7_readOrder 200 = .ok (.iconst 0, 1) := by decide +kernel
theorem dX7_readOrder_201 : decode cX7_readOrder 201 = .ok (.iastore, 1) := by decide +kernel
theorem dX7_readOrder_202 : decode cX7_readOrder 202 = .ok (.aload_n 0, 1) := by decide +kernel
theorem dX7_readOrder_203 : decode cX7_readOrder 203 = .ok (.dup, 1) := by decide +kernel
theorem dX7_readOrder_204 : decode cX7_readOrder 204 = .ok (.getfield 236, 3) := by decide +kernel
theorem dX7_readOrder_207 : decode cX7_readOrder 207 = .ok (.iconst 1, 1) := by decide +kernel
theorem dX7_readOrder_208 : decode cX7_readOrder 208 = .ok (.iadd, 1) := by decide +kernel
theorem dX7_readOrder_209 : decode cX7_readOrder 209 = .ok (.putfield 236, 3) := by decide +kernel
theorem dX7_readOrder_212 : decode cX7_readOrder 212 = .ok (.return_, 1) := by decide +kernel
theorem dX7_does_0 : decode cX7_does 0 = .ok (.aload_n 0, 1) := by decide +kernel
theorem dX7_does_1 : decode cX7_does 1 = .ok (.getfield 36, 3) := by decide +kernel
theorem dX7_does_4 : decode cX7_does 4 = .ok (.iconst 5, 1) := by decide +kernel
theorem dX7_does_5 : decode cX7_does 5 = .ok (.iload_n 1, 1) := by decide +kernel
theorem dX7_does_6 : decode cX7_does 6 = .ok (.imul, 1) := by decide +kernel
theorem dX7_does_7 : decode cX7_does 7 = .ok (.iconst 1, 1) := by decide +kernel
theorem dX7_does_8 : decode cX7_does 8 = .ok (.iadd, 1) := by decide +kernel
theorem dX7_does_9 : decode cX7_does 9 = .ok (.iaload, 1) := by decide +kernel
theorem dX7_does_10 : decode cX7_does 10 = .ok (.istore_n 2, 1) := by decide +kernel
theorem dX7_does_11 : decode cX7_does 11 = .ok (.aload_n 0, 1) := by decide +kernel
theorem dX7_does_12 : decode cX7_does 12 = .ok (.getfield 36, 3) := by decide +kernel
theorem dX7_does_15 : decode cX7_does 15 = .ok (.iconst 5, 1) := by decide +kernel
theorem dX7_does_16 : decode cX7_does 16 = .ok (.iload_n 1, 1) := by decide +kernel
theorem dX7_does_17 : decode cX7_does 17 = .ok (.imul, 1) := by decide +kernel
theorem dX7_does_18 : decode cX7_does 18 = .ok (.iconst 2, 1) := by decide +kernel
theorem dX7_does_19 : decode cX7_does 19 = .ok (.iadd, 1) := by decide +kernel
theorem dX7_does_20 : decode cX7_does 20 = .ok (.iaload, 1) := by decide +kernel
theorem dX7_does_21 : decode cX7_does 21 = .ok (.istore_n 3, 1) := by decide +kernel
theorem dX7_does_22 : decode cX7_does 22 = .ok (.aload_n 0, 1) := by decide +kernel
theorem dX7_does_23 : decode cX7_does 23 = .ok (.getfield 36, 3) := by decide +kernel
theorem dX7_does_26 : decode cX7_does 26 = .ok (.iconst 5, 1) := by decide +kernel
theorem dX7_does_27 : decode cX7_does 27 = .ok (.iload_n 1, 1) := by decide +kernel
theorem dX7_does_28 : decode cX7_does 28 = .ok (.imul, 1) := by decide +kernel
theorem dX7_does_29 : decode cX7_does 29 = .ok (.iconst 3, 1) := by decide +kernel
theorem dX7_does_30 : decode cX7_does 30 = .ok (.iadd, 1) := by decide +kernel
theorem dX7_does_31 : decode cX7_does 31 = .ok (.iaload, 1) := by decide +kernel
theorem dX7_does_32 : decode cX7_does 32 = .ok (.istore 4, 2) := by decide +kernel
theorem dX7_does_34 : decode cX7_does 34 = .ok (.aload_n 0, 1) := by decide +kernel
theorem dX7_does_35 : decode cX7_does 35 = .ok (.getfield 36, 3) := by decide +kernel
theorem dX7_does_38 : decode cX7_does 38 = .ok (.iconst 5, 1) := by decide +kernel
theorem dX7_does_39 : decode cX7_does 39 = .ok (.iload_n 1, 1) := by decide +kernel
theorem dX7_does_40 : decode cX7_does 40 = .ok (.imul, 1) := by decide +kernel
theorem dX7_does_41 : decode cX7_does 41 = .ok (.iaload, 1) := by decide +kernel
theorem dX7_does_42 : decode cX7_does 42 = .ok (.lookupswitch 147 #[(99, 127), (101, 81), (109, 137), (115, 117), (119, 58), (120, 104)], 58) := by decide +kernel
theorem dX7_does_100 : decode cX7_does 100 = .ok (.aload_n 0, 1) := by decide +kernel
theorem dX7_does_101 : decode cX7_does 101 = .ok (.iload_n 2, 1) := by decide +kernel
theorem dX7_does_102 : decode cX7_does 102 = .ok (.iload_n 3, 1) := by decide +kernel
theorem dX7_does_103 : decode cX7_does 103 = .ok (.iload 4, 2) := by decide +kernel
theorem dX7_does_105 : decode cX7_does 105 = .ok (.aload_n 0, 1) := by decide +kernel
theorem dX7_does_106 : decode cX7_does 106 = .ok (.getfield 36, 3) := by decide +kernel
theorem dX7_does_109 : decode cX7_does 109 = .ok (.iconst 5, 1) := by decide +kernel
theorem dX7_does_110 : decode cX7_does 110 = .ok (.iload_n 1, 1) := by decide +kernel
theorem dX7_does_111 : decode cX7_does 111 = .ok (.imul, 1) := by decide +kernel
theorem dX7_does_112 : decode cX7_does 112 = .ok (.iconst 4, 1) := by decide +kernel
theorem dX7_does_113 : decode cX7_does 113 = .ok (.iadd, 1) := by decide +kernel
theorem dX7_does_114 : decode cX7_does 114 = .ok (.iaload, 1) := by decide +kernel
theorem dX7_does_115 : decode cX7_does 115 = .ok (.invokevirtual 144, 3) := by decide +kernel
theorem dX7_does_118 : decode cX7_does 118 = .ok (.istore 5, 2) := by decide +kernel
theorem dX7_does_120 : decode cX7_does 120 = .ok (.goto 76, 3) := by decide +kernel
theorem dX7_does_123 : decode cX7_does 123 = .ok (.aload_n 0, 1) := by decide +kernel
theorem dX7_does_124 : decode cX7_does 124 = .ok (.iload_n 2, 1) := by decide +kernel
theorem dX7_does_125 : decode cX7_does 125 = .ok (.iload_n 3, 1) := by decide +kernel
theorem dX7_does_126 : decode cX7_does 126 = .ok (.iload 4, 2) := by decide +kernel
theorem dX7_does_128 : decode cX7_does 128 = .ok (.aload_n 0, 1) := by decide +kernel
theorem dX7_does_129 : decode cX7_does 129 = .ok (.getfield 36, 3) := by decide +kernel
theorem dX7_does_132 : decode cX7_does 132 = .ok (.iconst 5, 1) := by decide +kernel
theorem dX7_does_133 : decode cX7_does 133 = .ok (.iload_n 1, 1) := by decide +kernel
theorem dX7_does_134 : decode cX7_does 134 = .ok (.imul, 1) := by decide +kernel
theorem dX7_does_135 : decode cX7_does 135 = .ok (.iconst 4, 1) := by decide +kernel
theorem dX7_does_136 : decode cX7_does 136 = .ok (.iadd, 1) := by decide +kernel
theorem dX7_does_137 : decode cX7_does 137 = .ok (.iaload, 1) := by decide +kernel
theorem dX7_does_138 : decode cX7_does 138 = .ok (.invokevirtual 154, 3) := by decide +kernel
theorem dX7_does_141 : decode cX7_does 141 = .ok (.istore 5, 2) := by decide +kernel
theorem dX7_does_143 : decode cX7_does 143 = .ok (.goto 53, 3) := by decide +kernel
theorem dX7_does_146 : decode cX7_does 146 = .ok (.aload_n 0, 1) := by decide +kernel
theorem dX7_does_147 : decode cX7_does 147 = .ok (.iload_n 2, 1) := by decide +kernel
theorem dX7_does_148 : decode cX7_does 148 = .ok (.iload_n 3, 1) := by decide +kernel
theorem dX7_does_149 : decode cX7_does 149 = .ok (.iload 4, 2) := by decide +kernel
theorem dX7_does_151 : decode cX7_does 151 = .ok (.invokevirtual 157, 3) := by decide +kernel
theorem dX7_does_154 : decode cX7_does 154 = .ok (.istore 5, 2) := by decide +kernel
theorem dX7_does_156 : decode cX7_does 156 = .ok (.goto 40, 3) := by decide +kernel
theorem dX7_does_159 : decode cX7_does 159 = .ok (.aload_n 0, 1) := by decide +kernel
theorem dX7_does_160 : decode cX7_does 160 = .ok (.iload_n 2, 1) := by decide +kernel
theorem dX7_does_161 : decode cX7_does 161 = .ok (.invokevirtual 148, 3) := by decide +kernel
theorem dX7_does_164 : decode cX7_does 164 = .ok (.istore 5, 2) := by decide +kernel
theorem dX7_does_166 : decode cX7_does 166 = .ok (.goto 30, 3) := by decide +kernel
theorem dX7_does_169 : decode cX7_does 169 = .ok (.aload_n 0, 1) := by decide +kernel
theorem dX7_does_170 : decode cX7_does 170 = .ok (.iload_n 2, 1) := by decide +kernel
theorem dX7_does_171 : decode cX7_does 171 = .ok (.invokevirtual 151, 3) := by decide +kernel
theorem dX7_does_174 : decode cX7_does 174 = .ok (.istore 5, 2) := by decide +kernel
theorem dX7_does_176 : decode cX7_does 176 = .ok (.goto 20, 3) := by decide +kernel
theorem dX7_does_179 : decode cX7_does 179 = .ok (.aload_n 0, 1) := by decide +kernel
theorem dX7_does_180 : decode cX7_does 180 = .ok (.iload_n 2, 1) := by decide +kernel
theorem dX7_does_181 : decode cX7_does 181 = .ok (.invokevirtual 181, 3) := by decide +kernel
theorem dX7_does_184 : decode cX7_does 184 = .ok (.istore 5, 2) := by decide +kernel
theorem dX7_does_186 : decode cX7_does 186 = .ok (.goto 10, 3) := by decide +kernel
theorem dX7_does_189 : decode cX7_does 189 = .ok (.aload_n 0, 1) := by decide +kernel
theorem dX7_does_190 : decode cX7_does 190 = .ok (.iload_n 2, 1) := by decide +kernel
theorem dX7_does_191 : decode cX7_does 191 = .ok (.invokevirtual 193, 3) := by decide +kernel
theorem dX7_does_194 : decode cX7_does 194 = .ok (.istore 5, 2) := by decide +kernel
theorem dX7_does_196 : decode cX7_does 196 = .ok (.return_, 1) := by decide +kernel
theorem dX7_read_0 : decode cX7_read 0 = .ok (.aload_n 0, 1) := by decide +kernel
theorem dX7_read_1 : decode cX7_read 1 = .ok (.iconst 0, 1) := by decide +kernel
theorem dX7_read_2 : decode cX7_read 2 = .ok (.putfield 214, 3) := by decide +kernel
theorem dX7_read_5 : decode cX7_read 5 = .ok (.aload_n 0, 1) := by decide +kernel
theorem dX7_read_6 : decode cX7_read 6 = .ok (.iconst 0, 1) := by decide +kernel
theorem dX7_read_7 : decode cX7_read 7 = .ok (.putfield 211, 3) := by decide +kernel
theorem dX7_read_10 : decode cX7_read 10 = .ok (.aload_n 0, 1) := by decide +kernel
theorem dX7_read_11 : decode cX7_read 11 = .ok (.iconst 0, 1) := by decide +kernel
theorem dX7_read_12 : decode cX7_read 12 = .ok (.putfield 236, 3) := by decide +kernel
theorem dX7_read_15 : decode cX7_read 15 = .ok (.aload_n 0, 1) := by decide +kernel
theorem dX7_read_16 : decode cX7_read 16 = .ok (.invokevirtual 243, 3) := by decide +kernel
theorem dX7_read_19 : decode cX7_read 19 = .ok (.aload_n 0, 1) := by decide +kernel
theorem dX7_read_20 : decode cX7_read 20 = .ok (.bipush 59, 2) := by decide +kernel
theorem dX7_read_22 : decode cX7_read 22 = .ok (.bipush 59, 2) := by decide +kernel
theorem dX7_read_24 : decode cX7_read 24 = .ok (.invokevirtual 217, 3) := by decide +kernel
theorem dX7_read_27 : decode cX7_read 27 = .ok (.ifCond .eq 20, 3) := by decide +kernel
theorem dX7_read_30 : decode cX7_read 30 = .ok (.aload_n 0, 1) := by decide +kernel
theorem dX7_read_31 : decode cX7_read 31 = .ok (.dup, 1) := by decide +kernel
theorem dX7_read_32 : decode cX7_read 32 = .ok (.getfield 214, 3) := by decide +kernel
theorem dX7_read_35 : decode cX7_read 35 = .ok (.iconst 1, 1) := by decide +kernel
theorem dX7_read_36 : decode cX7_read 36 = .ok (.iadd, 1) := by decide +kernel
theorem dX7_read_37 : decode cX7_read 37 = .ok (.putfield 214, 3) := by decide +kernel
theorem dX7_read_40 : decode cX7_read 40 = .ok (.aload_n 0, 1) := by decide +kernel
theorem dX7_read_41 : decode cX7_read 41 = .ok (.invokevirtual 243, 3) := by decide +kernel
theorem dX7_read_44 : decode cX7_read 44 = .ok (.goto (-25), 3) := by decide +kernel
theorem dX7_read_47 : decode cX7_read 47 = .ok (.aload_n 0, 1) := by decide +kernel
theorem dX7_read_48 : decode cX7_read 48 = .ok (.aload_n 0, 1) := by decide +kernel
theorem dX7_read_49 : decode cX7_read 49 = .ok (.getfield 211, 3) := by decide +kernel
theorem dX7_read_52 : decode cX7_read 52 = .ok (.ifCond .ne 14, 3) := by decide +kernel
theorem dX7_read_55 : decode cX7_read 55 = .ok (.aload_n 0, 1) := by decide +kernel
theorem dX7_read_56 : decode cX7_read 56 = .ok (.getfield 214, 3) := by decide +kernel
theorem dX7_read_59 : decode cX7_read 59 = .ok (.aload_n 0, 1) := by decide +kernel
theorem dX7_read_60 : decode cX7_read 60 = .ok (.getfield 209, 3) := by decide +kernel
theorem dX7_read_63 : decode cX7_read 63 = .ok (.if_icmp .ge 7, 3) := by decide +kernel
theorem dX7_read_66 : decode cX7_read 66 = .ok (.iconst 1, 1) := by decide +kernel
theorem dX7_read_67 : decode cX7_read 67 = .ok (.goto 4, 3) := by decide +kernel
theorem dX7_read_70 : decode cX7_read 70 = .ok (.iconst 0, 1) := by decide +kernel
theorem dX7_read_71 : decode cX7_read 71 = .ok (.putfield 211, 3) := by decide +kernel
theorem dX7_read_74 : decode cX7_read 74 = .ok (.aload_n 0, 1) := by decide +kernel
theorem dX7_read_75 : decode cX7_read 75 = .ok (.aload_n 0, 1) := by decide +kernel
theorem dX7_read_76 : decode cX7_read 76 = .ok (.getfield 211, 3) := by decide +kernel
theorem dX7_read_79 : decode cX7_read 79 = .ok (.ifCond .eq 10, 3) := by decide +kernel
theorem dX7_read_82 : decode cX7_read 82 = .ok (.aload_n 0, 1) := by decide +kernel
theorem dX7_read_83 : decode cX7_read 83 = .ok (.getfield 214, 3) := by decide +kernel
theorem dX7_read_86 : decode cX7_read 86 = .ok (.goto 4, 3) := by decide +kernel
theorem dX7_read_89 : decode cX7_read 89 = .ok (.iconst (-1), 1) := by decide +kernel
theorem dX7_read_90 : decode cX7_read 90 = .ok (.putfield 32, 3) := by decide +kernel
theorem dX7_read_93 : decode cX7_read 93 = .ok (.aload_n 0, 1) := by decide +kernel
theorem dX7_read_94 : decode cX7_read 94 = .ok (.iconst 0, 1) := by decide +kernel
theorem dX7_read_95 : decode cX7_read 95 = .ok (.putfield 209, 3) := by decide +kernel
theorem dX7_read_98 : decode cX7_read 98 = .ok (.aload_n 0, 1) := by decide +kernel
theorem dX7_read_99 : decode cX7_read 99 = .ok (.getfield 211, 3) := by decide +kernel
theorem dX7_read_102 : decode cX7_read 102 = .ok (.ifCond .eq 9, 3) := by decide +kernel
theorem dX7_read_105 : decode cX7_read 105 = .ok (.aload_n 0, 1) := by decide +kernel
theorem dX7_read_106 : decode cX7_read 106 = .ok (.iconst 1, 1) := by decide +kernel
theorem dX7_read_107 : decode cX7_read 107 = .ok (.invokevirtual 124, 3) := by decide +kernel
theorem dX7_read_110 : decode cX7_read 110 = .ok (.ireturn, 1) := by decide +kernel
theorem dX7_read_111 : decode cX7_read 111 = .ok (.aload_n 0, 1) := by decide +kernel
theorem dX7_read_112 : decode cX7_read 112 = .ok (.invokevirtual 121, 3) := by decide +kernel
theorem dX7_read_115 : decode cX7_read 115 = .ok (.iconst 0, 1) := by decide +kernel
theorem dX7_read_116 : decode cX7_read 116 = .ok (.istore_n 1, 1) := by decide +kernel
theorem dX7_read_117 : decode cX7_read 117 = .ok (.iload_n 1, 1) := by decide +kernel
theorem dX7_read_118 : decode cX7_read 118 = .ok (.aload_n 0, 1) := by decide +kernel
theorem dX7_read_119 : decode cX7_read 119 = .ok (.getfield 236, 3) := by decide +kernel
theorem dX7_read_122 : decode cX7_read 122 = .ok (.if_icmp .ge 48, 3) := by decide +kernel
theorem dX7_read_125 : decode cX7_read 125 = .ok (.aload_n 0, 1) := by decide +kernel
theorem dX7_read_126 : decode cX7_read 126 = .ok (.iconst 0, 1) := by decide +kernel
theorem dX7_read_127 : decode cX7_read 127 = .ok (.putfield 57, 3) := by decide +kernel
theorem dX7_read_130 : decode cX7_read 130 = .ok (.aload_n 0, 1) := by decide +kernel
theorem dX7_read_131 : decode cX7_read 131 = .ok (.iload_n 1, 1) := by decide +kernel
theorem dX7_read_132 : decode cX7_read 132 = .ok (.invokevirtual 246, 3) := by decide +kernel
theorem dX7_read_135 : decode cX7_read 135 = .ok (.aload_n 0, 1) := by decide +kernel
theorem dX7_read_136 : decode cX7_read 136 = .ok (.getfield 39, 3) := by decide +kernel
theorem dX7_read_139 : decode cX7_read 139 = .ok (.ifCond .le 25, 3) := by decide +kernel
theorem dX7_read_142 : decode cX7_read 142 = .ok (.aload_n 0, 1) := by decide +kernel
theorem dX7_read_143 : decode cX7_read 143 = .ok (.aload_n 0, 1) := by decide +kernel
theorem dX7_read_144 : decode cX7_read 144 = .ok (.getfield 57, 3) := by decide +kernel
theorem dX7_read_147 : decode cX7_read 147 = .ok (.ifCond .eq 7, 3) := by decide +kernel
theorem dX7_read_150 : decode cX7_read 150 = .ok (.iconst 2, 1) := by decide +kernel
theorem dX7_read_151 : decode cX7_read 151 = .ok (.goto 4, 3) := by decide +kernel
theorem dX7_read_154 : decode cX7_read 154 = .ok (.iconst 1, 1) := by decide +kernel
theorem dX7_read_155 : decode cX7_read 155 = .ok (.putfield 39, 3) := by decide +kernel
theorem dX7_read_158 : decode cX7_read 158 = .ok (.aload_n 0, 1) := by decide +kernel
theorem dX7_read_159 : decode cX7_read 159 = .ok (.iconst 0, 1) := by decide +kernel
theorem dX7_read_160 : decode cX7_read 160 = .ok (.invokevirtual 131, 3) := by decide +kernel
theorem dX7_read_163 : decode cX7_read 163 = .ok (.ireturn, 1) := by decide +kernel
theorem dX7_read_164 : decode cX7_read 164 = .ok (.iinc 1 1, 3) := by decide +kernel
theorem dX7_read_167 : decode cX7_read 167 = .ok (.goto (-50), 3) := by decide +kernel
theorem dX7_read_170 : decode cX7_read 170 = .ok (.aload_n 0, 1) := by decide +kernel
theorem dX7_read_171 : decode cX7_read 171 = .ok (.aload_n 0, 1) := by decide +kernel
theorem dX7_read_172 : decode cX7_read 172 = .ok (.getfield 236, 3) := by decide +kernel
theorem dX7_read_175 : decode cX7_read 175 = .ok (.invokevirtual 131, 3) := by decide +kernel
theorem dX7_read_178 : decode cX7_read 178 = .ok (.ireturn, 1) := by decide +kernel
theorem dX7_errorPosition_0 : decode cX7_errorPosition 0 = .ok (.aload_n 0, 1) := by decide +kernel
theorem dX7_errorPosition_1 : decode cX7_errorPosition 1 = .ok (.iconst 0, 1) := by decide +kernel
theorem dX7_errorPosition_2 : decode cX7_errorPosition 2 = .ok (.putfield 39, 3) := by decide +kernel
theorem dX7_errorPosition_5 : decode cX7_errorPosition 5 = .ok (.aload_n 0, 1) := by decide +kernel
theorem dX7_errorPosition_6 : decode cX7_errorPosition 6 = .ok (.getfield 32, 3) := by decide +kernel
theorem dX7_errorPosition_9 : decode cX7_errorPosition 9 = .ok (.ireturn, 1) := by decide +kernel
theorem dX7_overScrolls_0 : decode cX7_overScrolls 0 = .ok (.iconst 0, 1) := by decide +kernel
theorem dX7_overScrolls_1 : decode cX7_overScrolls 1 = .ok (.istore_n 2, 1) := by decide +kernel
theorem dX7_overScrolls_2 : decode cX7_overScrolls 2 = .ok (.iconst 0, 1) := by decide +kernel
theorem dX7_overScrolls_3 : decode cX7_overScrolls 3 = .ok (.istore_n 3, 1) := by decide +kernel
theorem dX7_overScrolls_4 : decode cX7_overScrolls 4 = .ok (.iload_n 3, 1) := by decide +kernel
theorem dX7_overScrolls_5 : decode cX7_overScrolls 5 = .ok (.aload_n 0, 1) := by decide +kernel
theorem dX7_overScrolls_6 : decode cX7_overScrolls 6 = .ok (.getfield 9, 3) := by decide +kernel
theorem dX7_overScrolls_9 : decode cX7_overScrolls 9 = .ok (.iconst 0, 1) := by decide +kernel
theorem dX7_overScrolls_10 : decode cX7_overScrolls 10 = .ok (.iaload, 1) := by decide +kernel
theorem dX7_overScrolls_11 : decode cX7_overScrolls 11 = .ok (.if_icmp .ge 101, 3) := by decide +kernel
theorem dX7_overScrolls_14 : decode cX7_overScrolls 14 = .ok (.iload_n 1, 1) := by decide +kernel
theorem dX7_overScrolls_15 : decode cX7_overScrolls 15 = .ok (.tableswitch 83 1 4 #[29, 41, 61, 72], 29) := by decide +kernel
theorem dX7_overScrolls_44 : decode cX7_overScrolls 44 = .ok (.iload_n 2, 1) := by decide +kernel
theorem dX7_overScrolls_45 : decode cX7_overScrolls 45 = .ok (.aload_n 0, 1) := by decide +kernel
theorem dX7_overScrolls_46 : decode cX7_overScrolls 46 = .ok (.iload_n 3, 1) := by decide +kernel
theorem dX7_overScrolls_47 : decode cX7_overScrolls 47 = .ok (.iconst 2, 1) := by decide +kernel
theorem dX7_overScrolls_48 : decode cX7_overScrolls 48 = .ok (.invokevirtual 69, 3) := by decide +kernel
theorem dX7_overScrolls_51 : decode cX7_overScrolls 51 = .ok (.iadd, 1) := by decide +kernel
theorem dX7_overScrolls_52 : decode cX7_overScrolls 52 = .ok (.istore_n 2, 1) := by decide +kernel
theorem dX7_overScrolls_53 : decode cX7_overScrolls 53 = .ok (.goto 53, 3) := by decide +kernel
theorem dX7_overScrolls_56 : decode cX7_overScrolls 56 = .ok (.iload_n 2, 1) := by decide +kernel
theorem dX7_overScrolls_57 : decode cX7_overScrolls 57 = .ok (.aload_n 0, 1) := by decide +kernel
theorem dX7_overScrolls_58 : decode cX7_overScrolls 58 = .ok (.iload_n 3, 1) := by decide +kernel
theorem dX7_overScrolls_59 : decode cX7_overScrolls 59 = .ok (.iconst 3, 1) := by decide +kernel
theorem dX7_overScrolls_60 : decode cX7_overScrolls 60 = .ok (.invokevirtual 69, 3) := by decide +kernel
theorem dX7_overScrolls_63 : decode cX7_overScrolls 63 = .ok (.ifCond .ge 7, 3) := by decide +kernel
theorem dX7_overScrolls_66 : decode cX7_overScrolls 66 = .ok (.iconst 0, 1) := by decide +kernel
theorem dX7_overScrolls_67 : decode cX7_overScrolls 67 = .ok (.goto 4, 3) := by decide +kernel
theorem dX7_overScrolls_70 : decode cX7_overScrolls 70 = .ok (.iconst 1, 1) := by decide +kernel
theorem dX7_overScrolls_71 : decode cX7_overScrolls 71 = .ok (.iadd, 1) := by decide +kernel
theorem dX7_overScrolls_72 : decode cX7_overScrolls 72 = .ok (.istore_n 2, 1) := by decide +kernel
theorem dX7_overScrolls_73 : decode cX7_overScrolls 73 = .ok (.goto 33, 3) := by decide +kernel
theorem dX7_overScrolls_76 : decode cX7_overScrolls 76 = .ok (.iload_n 2, 1) := by decide +kernel
theorem dX7_overScrolls_77 : decode cX7_overScrolls 77 = .ok (.aload_n 0, 1) := by decide +kernel
theorem dX7_overScrolls_78 : decode cX7_overScrolls 78 = .ok (.iload_n 3, 1) := by decide +kernel
theorem dX7_overScrolls_79 : decode cX7_overScrolls 79 = .ok (.invokevirtual 196, 3) := by decide +kernel
theorem dX7_overScrolls_82 : decode cX7_overScrolls 82 = .ok (.iadd, 1) := by decide +kernel
theorem dX7_overScrolls_83 : decode cX7_overScrolls 83 = .ok (.istore_n 2, 1) := by decide +kernel
theorem dX7_overScrolls_84 : decode cX7_overScrolls 84 = .ok (.goto 22, 3) := by decide +kernel
theorem dX7_overScrolls_87 : decode cX7_overScrolls 87 = .ok (.iload_n 2, 1) := by decide +kernel
theorem dX7_overScrolls_88 : decode cX7_overScrolls 88 = .ok (.aload_n 0, 1) := by decide +kernel
theorem dX7_overScrolls_89 : decode cX7_overScrolls 89 = .ok (.iload_n 3, 1) := by decide +kernel
theorem dX7_overScrolls_90 : decode cX7_overScrolls 90 = .ok (.invokevirtual 134, 3) := by decide +kernel
theorem dX7_overScrolls_93 : decode cX7_overScrolls 93 = .ok (.iadd, 1) := by decide +kernel
theorem dX7_overScrolls_94 : decode cX7_overScrolls 94 = .ok (.istore_n 2, 1) := by decide +kernel
theorem dX7_overScrolls_95 : decode cX7_overScrolls 95 = .ok (.goto 11, 3) := by decide +kernel
theorem dX7_overScrolls_98 : decode cX7_overScrolls 98 = .ok (.iload_n 2, 1) := by decide +kernel
theorem dX7_overScrolls_99 : decode cX7_overScrolls 99 = .ok (.aload_n 0, 1) := by decide +kernel
theorem dX7_overScrolls_100 : decode cX7_overScrolls 100 = .ok (.iload_n 3, 1) := by decide +kernel
theorem dX7_overScrolls_101 : decode cX7_overScrolls 101 = .ok (.invokevirtual 166, 3) := by decide +kernel
theorem dX7_overScrolls_104 : decode cX7_overScrolls 104 = .ok (.iadd, 1) := by decide +kernel
theorem dX7_overScrolls_105 : decode cX7_overScrolls 105 = .ok (.istore_n 2, 1) := by decide +kernel
theorem dX7_overScrolls_106 : decode cX7_overScrolls 106 = .ok (.iinc 3 1, 3) := by decide +kernel
theorem dX7_overScrolls_109 : decode cX7_overScrolls 109 = .ok (.goto (-105), 3) := by decide +kernel
theorem dX7_overScrolls_112 : decode cX7_overScrolls 112 = .ok (.iload_n 2, 1) := by decide +kernel
theorem dX7_overScrolls_113 : decode cX7_overScrolls 113 = .ok (.ireturn, 1) := by decide +kernel
theorem dX7_account_0 : decode cX7_account 0 = .ok (.aload_n 0, 1) := by decide +kernel
theorem dX7_account_1 : decode cX7_account 1 = .ok (.iload_n 1, 1) := by decide +kernel
theorem dX7_account_2 : decode cX7_account 2 = .ok (.iconst 0, 1) := by decide +kernel
theorem dX7_account_3 : decode cX7_account 3 = .ok (.bipush 11, 2) := by decide +kernel
theorem dX7_account_5 : decode cX7_account 5 = .ok (.invokestatic 61, 3) := by decide +kernel
theorem dX7_account_8 : decode cX7_account 8 = .ok (.ifCond .eq 7, 3) := by decide +kernel
theorem dX7_account_11 : decode cX7_account 11 = .ok (.iconst 0, 1) := by decide +kernel
theorem dX7_account_12 : decode cX7_account 12 = .ok (.goto 4, 3) := by decide +kernel
theorem dX7_account_15 : decode cX7_account 15 = .ok (.iconst 1, 1) := by decide +kernel
theorem dX7_account_16 : decode cX7_account 16 = .ok (.putfield 39, 3) := by decide +kernel
theorem dX7_account_19 : decode cX7_account 19 = .ok (.aload_n 0, 1) := by decide +kernel
theorem dX7_account_20 : decode cX7_account 20 = .ok (.getfield 39, 3) := by decide +kernel
theorem dX7_account_23 : decode cX7_account 23 = .ok (.ifCond .le 5, 3) := by decide +kernel
theorem dX7_account_26 : decode cX7_account 26 = .ok (.iconst 0, 1) := by decide +kernel
theorem dX7_account_27 : decode cX7_account 27 = .ok (.ireturn, 1) := by decide +kernel
theorem dX7_account_28 : decode cX7_account 28 = .ok (.iload_n 1, 1) := by decide +kernel
theorem dX7_account_29 : decode cX7_account 29 = .ok (.tableswitch 86 0 11 #[63, 70, 70, 70, 70, 70, 86, 86, 86, 86, 76, 81], 63) := by decide +kernel
theorem dX7_account_92 : decode cX7_account 92 = .ok (.aload_n 0, 1) := by decide +kernel
theorem dX7_account_93 : decode cX7_account 93 = .ok (.getfield 9, 3) := by decide +kernel
theorem dX7_account_96 : decode cX7_account 96 = .ok (.iconst 0, 1) := by decide +kernel
theorem dX7_account_97 : decode cX7_account 97 = .ok (.iaload, 1) := by decide +kernel
theorem dX7_account_98 : decode cX7_account 98 = .ok (.ireturn, 1) := by decide +kernel
theorem dX7_account_99 : decode cX7_account 99 = .ok (.aload_n 0, 1) := by decide +kernel
theorem dX7_account_100 : decode cX7_account 100 = .ok (.iload_n 1, 1) := by decide +kernel
theorem dX7_account_101 : decode cX7_account 101 = .ok (.invokevirtual 250, 3) := by decide +kernel
theorem dX7_account_104 : decode cX7_account 104 = .ok (.ireturn, 1) := by decide +kernel
theorem dX7_account_105 : decode cX7_account 105 = .ok (.aload_n 0, 1) := by decide +kernel
theorem dX7_account_106 : decode cX7_account 106 = .ok (.getfield 209, 3) := by decide +kernel
theorem dX7_account_109 : decode cX7_account 109 = .ok (.ireturn, 1) := by decide +kernel
theorem dX7_account_110 : decode cX7_account 110 = .ok (.aload_n 0, 1) := by decide +kernel
theorem dX7_account_111 : decode cX7_account 111 = .ok (.getfield 48, 3) := by decide +kernel
theorem dX7_account_114 : decode cX7_account 114 = .ok (.ireturn, 1) := by decide +kernel
theorem dX7_account_115 : decode cX7_account 115 = .ok (.aload_n 0, 1) := by decide +kernel
theorem dX7_account_116 : decode cX7_account 116 = .ok (.getfield 9, 3) := by decide +kernel
theorem dX7_account_119 : decode cX7_account 119 = .ok (.iconst 1, 1) := by decide +kernel
theorem dX7_account_120 : decode cX7_account 120 = .ok (.iload_n 1, 1) := by decide +kernel
theorem dX7_account_121 : decode cX7_account 121 = .ok (.iadd, 1) := by decide +kernel
theorem dX7_account_122 : decode cX7_account 122 = .ok (.bipush 6, 2) := by decide +kernel
theorem dX7_account_124 : decode cX7_account 124 = .ok (.isub, 1) := by decide +kernel
theorem dX7_account_125 : decode cX7_account 125 = .ok (.iaload, 1) := by decide +kernel
theorem dX7_account_126 : decode cX7_account 126 = .ok (.ireturn, 1) := by decide +kernel
theorem dX7_isWell_0 : decode cX7_isWell 0 = .ok (.aload_n 0, 1) := by decide +kernel
theorem dX7_isWell_1 : decode cX7_isWell 1 = .ok (.iconst 0, 1) := by decide +kernel
theorem dX7_isWell_2 : decode cX7_isWell 2 = .ok (.putfield 39, 3) := by decide +kernel
theorem dX7_isWell_5 : decode cX7_isWell 5 = .ok (.iconst 1, 1) := by decide +kernel
theorem dX7_isWell_6 : decode cX7_isWell 6 = .ok (.istore_n 1, 1) := by decide +kernel
theorem dX7_isWell_7 : decode cX7_isWell 7 = .ok (.iconst 0, 1) := by decide +kernel
theorem dX7_isWell_8 : decode cX7_isWell 8 = .ok (.istore_n 2, 1) := by decide +kernel
theorem dX7_isWell_9 : decode cX7_isWell 9 = .ok (.iconst 0, 1) := by decide +kernel
theorem dX7_isWell_10 : decode cX7_isWell 10 = .ok (.istore_n 3, 1) := by decide +kernel
theorem dX7_isWell_11 : decode cX7_isWell 11 = .ok (.iconst 0, 1) := by decide +kernel
theorem dX7_isWell_12 : decode cX7_isWell 12 = .ok (.istore 4, 2) := by decide +kernel
theorem dX7_isWell_14 : decode cX7_isWell 14 = .ok (.iload 4, 2) := by decide +kernel
theorem dX7_isWell_16 : decode cX7_isWell 16 = .ok (.aload_n 0, 1) := by decide +kernel
theorem dX7_isWell_17 : decode cX7_isWell 17 = .ok (.getfield 9, 3) := by decide +kernel
theorem dX7_isWell_20 : decode cX7_isWell 20 = .ok (.iconst 0, 1) := by decide +kernel
theorem dX7_isWell_21 : decode cX7_isWell 21 = .ok (.iaload, 1) := by decide +kernel
theorem dX7_isWell_22 : decode cX7_isWell 22 = .ok (.if_icmp .ge 170, 3) := by decide +kernel
theorem dX7_isWell_25 : decode cX7_isWell 25 = .ok (.aload_n 0, 1) := by decide +kernel
theorem dX7_isWell_26 : decode cX7_isWell 26 = .ok (.iload 4, 2) := by decide +kernel
theorem dX7_isWell_28 : decode cX7_isWell 28 = .ok (.invokevirtual 111, 3) := by decide +kernel
theorem dX7_isWell_31 : decode cX7_isWell 31 = .ok (.ifCond .eq 36, 3) := by decide +kernel
theorem dX7_isWell_34 : decode cX7_isWell 34 = .ok (.aload_n 0, 1) := by decide +kernel
theorem dX7_isWell_35 : decode cX7_isWell 35 = .ok (.iload 4, 2) := by decide +kernel
theorem dX7_isWell_37 : decode cX7_isWell 37 = .ok (.invokevirtual 134, 3) := by decide +kernel
theorem dX7_isWell_40 : decode cX7_isWell 40 = .ok (.ifCond .ne 27, 3) := by decide +kernel
theorem dX7_isWell_43 : decode cX7_isWell 43 = .ok (.aload_n 0, 1) := by decide +kernel
theorem dX7_isWell_44 : decode cX7_isWell 44 = .ok (.iload 4, 2) := by decide +kernel
theorem dX7_isWell_46 : decode cX7_isWell 46 = .ok (.iconst 1, 1) := by decide +kernel
theorem dX7_isWell_47 : decode cX7_isWell 47 = .ok (.invokevirtual 160, 3) := by decide +kernel
theorem dX7_isWell_50 : decode cX7_isWell 50 = .ok (.ifCond .ne 17, 3) := by decide +kernel
theorem dX7_isWell_53 : decode cX7_isWell 53 = .ok (.aload_n 0, 1) := by decide +kernel
theorem dX7_isWell_54 : decode cX7_isWell 54 = .ok (.iload 4, 2) := by decide +kernel
theorem dX7_isWell_56 : decode cX7_isWell 56 = .ok (.iconst 0, 1) := by decide +kernel
theorem dX7_isWell_57 : decode cX7_isWell 57 = .ok (.invokevirtual 160, 3) := by decide +kernel
theorem dX7_isWell_60 : decode cX7_isWell 60 = .ok (.ifCond .ne 7, 3) := by decide +kernel
theorem dX7_isWell_63 : decode cX7_isWell 63 = .ok (.iconst 1, 1) := by decide +kernel
theorem dX7_isWell_64 : decode cX7_isWell 64 = .ok (.goto 4, 3) := by decide +kernel
theorem dX7_isWell_67 : decode cX7_isWell 67 = .ok (.iconst 0, 1) := by decide +kernel
theorem dX7_isWell_68 : decode cX7_isWell 68 = .ok (.istore 5, 2) := by decide +kernel
theorem dX7_isWell_70 : decode cX7_isWell 70 = .ok (.iconst 0, 1) := by decide +kernel
theorem dX7_isWell_71 : decode cX7_isWell 71 = .ok (.istore 6, 2) := by decide +kernel
theorem dX7_isWell_73 : decode cX7_isWell 73 = .ok (.iload 6, 2) := by decide +kernel
theorem dX7_isWell_75 : decode cX7_isWell 75 = .ok (.aload_n 0, 1) := by decide +kernel
theorem dX7_isWell_76 : decode cX7_isWell 76 = .ok (.iload 4, 2) := by decide +kernel
theorem dX7_isWell_78 : decode cX7_isWell 78 = .ok (.iconst 0, 1) := by decide +kernel
theorem dX7_isWell_79 : decode cX7_isWell 79 = .ok (.invokevirtual 69, 3) := by decide +kernel
theorem dX7_isWell_82 : decode cX7_isWell 82 = .ok (.if_icmp .ge 36, 3) := by decide +kernel
theorem dX7_isWell_85 : decode cX7_isWell 85 = .ok (.iload 5, 2) := by decide +kernel
theorem dX7_isWell_87 : decode cX7_isWell 87 = .ok (.ifCond .eq 31, 3) := by decide +kernel
theorem dX7_isWell_90 : decode cX7_isWell 90 = .ok (.iload_n 1, 1) := by decide +kernel
theorem dX7_isWell_91 : decode cX7_isWell 91 = .ok (.ifCond .eq 19, 3) := by decide +kernel
theorem dX7_isWell_94 : decode cX7_isWell 94 = .ok (.aload_n 0, 1) := by decide +kernel
theorem dX7_isWell_95 : decode cX7_isWell 95 = .ok (.iload 4, 2) := by decide +kernel
theorem dX7_isWell_97 : decode cX7_isWell 97 = .ok (.iconst 1, 1) := by decide +kernel
theorem dX7_isWell_98 : decode cX7_isWell 98 = .ok (.iload 6, 2) := by decide +kernel
theorem dX7_isWell_100 : decode cX7_isWell 100 = .ok (.invokevirtual 114, 3) := by decide +kernel
theorem dX7_isWell_103 : decode cX7_isWell 103 = .ok (.ifCond .ne 7, 3) := by decide +kernel
theorem dX7_isWell_106 : decode cX7_isWell 106 = .ok (.iconst 1, 1) := by decide +kernel
theorem dX7_isWell_107 : decode cX7_isWell 107 = .ok (.goto 4, 3) := by decide +kernel
theorem dX7_isWell_110 : decode cX7_isWell 110 = .ok (.iconst 0, 1) := by decide +kernel
theorem dX7_isWell_111 : decode cX7_isWell 111 = .ok (.istore_n 1, 1) := by decide +kernel
theorem dX7_isWell_112 : decode cX7_isWell 112 = .ok (.iinc 6 1, 3) := by decide +kernel
theorem dX7_isWell_115 : decode cX7_isWell 115 = .ok (.goto (-42), 3) := by decide +kernel
theorem dX7_isWell_118 : decode cX7_isWell 118 = .ok (.iconst 0, 1) := by decide +kernel
theorem dX7_isWell_119 : decode cX7_isWell 119 = .ok (.istore 6, 2) := by decide +kernel
theorem dX7_isWell_121 : decode cX7_isWell 121 = .ok (.iload 6, 2) := by decide +kernel
theorem dX7_isWell_123 : decode cX7_isWell 123 = .ok (.aload_n 0, 1) := by decide +kernel
theorem dX7_isWell_124 : decode cX7_isWell 124 = .ok (.iload 4, 2) := by decide +kernel
theorem dX7_isWell_126 : decode cX7_isWell 126 = .ok (.iconst 1, 1) := by decide +kernel
theorem dX7_isWell_127 : decode cX7_isWell 127 = .ok (.invokevirtual 69, 3) := by decide +kernel
theorem dX7_isWell_130 : decode cX7_isWell 130 = .ok (.if_icmp .ge 36, 3) := by decide +kernel
theorem dX7_isWell_133 : decode cX7_isWell 133 = .ok (.iload 5, 2) := by decide +kernel
theorem dX7_isWell_135 : decode cX7_isWell 135 = .ok (.ifCond .eq 31, 3) := by decide +kernel
theorem dX7_isWell_138 : decode cX7_isWell 138 = .ok (.iload_n 1, 1) := by decide +kernel
theorem dX7_isWell_139 : decode cX7_isWell 139 = .ok (.ifCond .eq 19, 3) := by decide +kernel
theorem dX7_isWell_142 : decode cX7_isWell 142 = .ok (.aload_n 0, 1) := by decide +kernel
theorem dX7_isWell_143 : decode cX7_isWell 143 = .ok (.iload 4, 2) := by decide +kernel
theorem dX7_isWell_145 : decode cX7_isWell 145 = .ok (.iconst 0, 1) := by decide +kernel
theorem dX7_isWell_146 : decode cX7_isWell 146 = .ok (.iload 6, 2) := by decide +kernel
theorem dX7_isWell_148 : decode cX7_isWell 148 = .ok (.invokevirtual 114, 3) := by decide +kernel
theorem dX7_isWell_151 : decode cX7_isWell 151 = .ok (.ifCond .ne 7, 3) := by decide +kernel
theorem dX7_isWell_154 : decode cX7_isWell 154 = .ok (.iconst 1, 1) := by decide +kernel
theorem dX7_isWell_155 : decode cX7_isWell 155 = .ok (.goto 4, 3) := by decide +kernel
theorem dX7_isWell_158 : decode cX7_isWell 158 = .ok (.iconst 0, 1) := by decide +kernel
theorem dX7_isWell_159 : decode cX7_isWell 159 = .ok (.istore_n 1, 1) := by decide +kernel
theorem dX7_isWell_160 : decode cX7_isWell 160 = .ok (.iinc 6 1, 3) := by decide +kernel
theorem dX7_isWell_163 : decode cX7_isWell 163 = .ok (.goto (-42), 3) := by decide +kernel
theorem dX7_isWell_166 : decode cX7_isWell 166 = .ok (.iload_n 2, 1) := by decide +kernel
theorem dX7_isWell_167 : decode cX7_isWell 167 = .ok (.aload_n 0, 1) := by decide +kernel
theorem dX7_isWell_168 : decode cX7_isWell 168 = .ok (.iload 4, 2) := by decide +kernel
theorem dX7_isWell_170 : decode cX7_isWell 170 = .ok (.iconst 4, 1) := by decide +kernel
theorem dX7_isWell_171 : decode cX7_isWell 171 = .ok (.invokevirtual 69, 3) := by decide +kernel
theorem dX7_isWell_174 : decode cX7_isWell 174 = .ok (.iadd, 1) := by decide +kernel
theorem dX7_isWell_175 : decode cX7_isWell 175 = .ok (.istore_n 2, 1) := by decide +kernel
theorem dX7_isWell_176 : decode cX7_isWell 176 = .ok (.iload_n 3, 1) := by decide +kernel
theorem dX7_isWell_177 : decode cX7_isWell 177 = .ok (.aload_n 0, 1) := by decide +kernel
theorem dX7_isWell_178 : decode cX7_isWell 178 = .ok (.iload 4, 2) := by decide +kernel
theorem dX7_isWell_180 : decode cX7_isWell 180 = .ok (.iconst 5, 1) := by decide +kernel
theorem dX7_isWell_181 : decode cX7_isWell 181 = .ok (.invokevirtual 69, 3) := by decide +kernel
theorem dX7_isWell_184 : decode cX7_isWell 184 = .ok (.iadd, 1) := by decide +kernel
theorem dX7_isWell_185 : decode cX7_isWell 185 = .ok (.istore_n 3, 1) := by decide +kernel
theorem dX7_isWell_186 : decode cX7_isWell 186 = .ok (.iinc 4 1, 3) := by decide +kernel
theorem dX7_isWell_189 : decode cX7_isWell 189 = .ok (.goto (-175), 3) := by decide +kernel
theorem dX7_isWell_192 : decode cX7_isWell 192 = .ok (.iload_n 1, 1) := by decide +kernel
theorem dX7_isWell_193 : decode cX7_isWell 193 = .ok (.ifCond .eq 27, 3) := by decide +kernel
theorem dX7_isWell_196 : decode cX7_isWell 196 = .ok (.iload_n 2, 1) := by decide +kernel
theorem dX7_isWell_197 : decode cX7_isWell 197 = .ok (.aload_n 0, 1) := by decide +kernel
theorem dX7_isWell_198 : decode cX7_isWell 198 = .ok (.getfield 9, 3) := by decide +kernel
theorem dX7_isWell_201 : decode cX7_isWell 201 = .ok (.iconst 3, 1) := by decide +kernel
theorem dX7_isWell_202 : decode cX7_isWell 202 = .ok (.iaload, 1) := by decide +kernel
theorem dX7_isWell_203 : decode cX7_isWell 203 = .ok (.if_icmp .ne 17, 3) := by decide +kernel
theorem dX7_isWell_206 : decode cX7_isWell 206 = .ok (.iload_n 3, 1) := by decide +kernel
theorem dX7_isWell_207 : decode cX7_isWell 207 = .ok (.aload_n 0, 1) := by decide +kernel
theorem dX7_isWell_208 : decode cX7_isWell 208 = .ok (.getfield 9, 3) := by decide +kernel
theorem dX7_isWell_211 : decode cX7_isWell 211 = .ok (.iconst 4, 1) := by decide +kernel
theorem dX7_isWell_212 : decode cX7_isWell 212 = .ok (.iaload, 1) := by decide +kernel
theorem dX7_isWell_213 : decode cX7_isWell 213 = .ok (.if_icmp .ne 7, 3) := by decide +kernel
theorem dX7_isWell_216 : decode cX7_isWell 216 = .ok (.iconst 1, 1) := by decide +kernel
theorem dX7_isWell_217 : decode cX7_isWell 217 = .ok (.goto 4, 3) := by decide +kernel
theorem dX7_isWell_220 : decode cX7_isWell 220 = .ok (.iconst 0, 1) := by decide +kernel
theorem dX7_isWell_221 : decode cX7_isWell 221 = .ok (.ireturn, 1) := by decide +kernel
theorem dX7_meanSign_0 : decode cX7_meanSign 0 = .ok (.aload_n 0, 1) := by decide +kernel
theorem dX7_meanSign_1 : decode cX7_meanSign 1 = .ok (.aload_n 0, 1) := by decide +kernel
theorem dX7_meanSign_2 : decode cX7_meanSign 2 = .ok (.iload_n 1, 1) := by decide +kernel
theorem dX7_meanSign_3 : decode cX7_meanSign 3 = .ok (.invokevirtual 65, 3) := by decide +kernel
theorem dX7_meanSign_6 : decode cX7_meanSign 6 = .ok (.ifCond .ne 7, 3) := by decide +kernel
theorem dX7_meanSign_9 : decode cX7_meanSign 9 = .ok (.iconst 1, 1) := by decide +kernel
theorem dX7_meanSign_10 : decode cX7_meanSign 10 = .ok (.goto 21, 3) := by decide +kernel
theorem dX7_meanSign_13 : decode cX7_meanSign 13 = .ok (.aload_n 0, 1) := by decide +kernel
theorem dX7_meanSign_14 : decode cX7_meanSign 14 = .ok (.iload_n 1, 1) := by decide +kernel
theorem dX7_meanSign_15 : decode cX7_meanSign 15 = .ok (.invokevirtual 134, 3) := by decide +kernel
theorem dX7_meanSign_18 : decode cX7_meanSign 18 = .ok (.aload_n 0, 1) := by decide +kernel
theorem dX7_meanSign_19 : decode cX7_meanSign 19 = .ok (.iload_n 1, 1) := by decide +kernel
theorem dX7_meanSign_20 : decode cX7_meanSign 20 = .ok (.invokevirtual 196, 3) := by decide +kernel
theorem dX7_meanSign_23 : decode cX7_meanSign 23 = .ok (.if_icmp .ne 7, 3) := by decide +kernel
theorem dX7_meanSign_26 : decode cX7_meanSign 26 = .ok (.iconst 2, 1) := by decide +kernel
theorem dX7_meanSign_27 : decode cX7_meanSign 27 = .ok (.goto 4, 3) := by decide +kernel
theorem dX7_meanSign_30 : decode cX7_meanSign 30 = .ok (.iconst 0, 1) := by decide +kernel
theorem dX7_meanSign_31 : decode cX7_meanSign 31 = .ok (.putfield 39, 3) := by decide +kernel
theorem dX7_meanSign_34 : decode cX7_meanSign 34 = .ok (.aload_n 0, 1) := by decide +kernel
theorem dX7_meanSign_35 : decode cX7_meanSign 35 = .ok (.getfield 39, 3) := by decide +kernel
theorem dX7_meanSign_38 : decode cX7_meanSign 38 = .ok (.ifCond .le 5, 3) := by decide +kernel
theorem dX7_meanSign_41 : decode cX7_meanSign 41 = .ok (.dconst 0, 1) := by decide +kernel
theorem dX7_meanSign_42 : decode cX7_meanSign 42 = .ok (.dreturn, 1) := by decide +kernel
theorem dX7_meanSign_43 : decode cX7_meanSign 43 = .ok (.iconst 0, 1) := by decide +kernel
theorem dX7_meanSign_44 : decode cX7_meanSign 44 = .ok (.istore_n 2, 1) := by decide +kernel
theorem dX7_meanSign_45 : decode cX7_meanSign 45 = .ok (.iconst 1, 1) := by decide +kernel
theorem dX7_meanSign_46 : decode cX7_meanSign 46 = .ok (.istore_n 3, 1) := by decide +kernel
theorem dX7_meanSign_47 : decode cX7_meanSign 47 = .ok (.iload_n 3, 1) := by decide +kernel
theorem dX7_meanSign_48 : decode cX7_meanSign 48 = .ok (.bipush 10, 2) := by decide +kernel
theorem dX7_meanSign_50 : decode cX7_meanSign 50 = .ok (.if_icmp .ge 20, 3) := by decide +kernel
theorem dX7_meanSign_53 : decode cX7_meanSign 53 = .ok (.iload_n 2, 1) := by decide +kernel
theorem dX7_meanSign_54 : decode cX7_meanSign 54 = .ok (.iload_n 3, 1) := by decide +kernel
theorem dX7_meanSign_55 : decode cX7_meanSign 55 = .ok (.aload_n 0, 1) := by decide +kernel
theorem dX7_meanSign_56 : decode cX7_meanSign 56 = .ok (.iload_n 1, 1) := by decide +kernel
theorem dX7_meanSign_57 : decode cX7_meanSign 57 = .ok (.iload_n 3, 1) := by decide +kernel
theorem dX7_meanSign_58 : decode cX7_meanSign 58 = .ok (.invokevirtual 199, 3) := by decide +kernel
theorem dX7_meanSign_61 : decode cX7_meanSign 61 = .ok (.imul, 1) := by decide +kernel
theorem dX7_meanSign_62 : decode cX7_meanSign 62 = .ok (.iadd, 1) := by decide +kernel
theorem dX7_meanSign_63 : decode cX7_meanSign 63 = .ok (.istore_n 2, 1) := by decide +kernel
theorem dX7_meanSign_64 : decode cX7_meanSign 64 = .ok (.iinc 3 1, 3) := by decide +kernel
theorem dX7_meanSign_67 : decode cX7_meanSign 67 = .ok (.goto (-20), 3) := by decide +kernel
theorem dX7_meanSign_70 : decode cX7_meanSign 70 = .ok (.iload_n 2, 1) := by decide +kernel
theorem dX7_meanSign_71 : decode cX7_meanSign 71 = .ok (.i2d, 1) := by decide +kernel
theorem dX7_meanSign_72 : decode cX7_meanSign 72 = .ok (.aload_n 0, 1) := by decide +kernel
theorem dX7_meanSign_73 : decode cX7_meanSign 73 = .ok (.iload_n 1, 1) := by decide +kernel
theorem dX7_meanSign_74 : decode cX7_meanSign 74 = .ok (.invokevirtual 196, 3) := by decide +kernel
theorem dX7_meanSign_77 : decode cX7_meanSign 77 = .ok (.aload_n 0, 1) := by decide +kernel
theorem dX7_meanSign_78 : decode cX7_meanSign 78 = .ok (.iload_n 1, 1) := by decide +kernel
theorem dX7_meanSign_79 : decode cX7_meanSign 79 = .ok (.invokevirtual 134, 3) := by decide +kernel
theorem dX7_meanSign_82 : decode cX7_meanSign 82 = .ok (.isub, 1) := by decide +kernel
theorem dX7_meanSign_83 : decode cX7_meanSign 83 = .ok (.i2d, 1) := by decide +kernel
theorem dX7_meanSign_84 : decode cX7_meanSign 84 = .ok (.ddiv, 1) := by decide +kernel
theorem dX7_meanSign_85 : decode cX7_meanSign 85 = .ok (.dreturn, 1) := by decide +kernel
theorem dX7_doubtShare_0 : decode cX7_doubtShare 0 = .ok (.aload_n 0, 1) := by decide +kernel
theorem dX7_doubtShare_1 : decode cX7_doubtShare 1 = .ok (.aload_n 0, 1) := by decide +kernel
theorem dX7_doubtShare_2 : decode cX7_doubtShare 2 = .ok (.iload_n 1, 1) := by decide +kernel
theorem dX7_doubtShare_3 : decode cX7_doubtShare 3 = .ok (.invokevirtual 65, 3) := by decide +kernel
theorem dX7_doubtShare_6 : decode cX7_doubtShare 6 = .ok (.ifCond .eq 7, 3) := by decide +kernel
theorem dX7_doubtShare_9 : decode cX7_doubtShare 9 = .ok (.iconst 0, 1) := by decide +kernel
theorem dX7_doubtShare_10 : decode cX7_doubtShare 10 = .ok (.goto 4, 3) := by decide +kernel
theorem dX7_doubtShare_13 : decode cX7_doubtShare 13 = .ok (.iconst 1, 1) := by decide +kernel
theorem dX7_doubtShare_14 : decode cX7_doubtShare 14 = .ok (.putfield 39, 3) := by decide +kernel
theorem dX7_doubtShare_17 : decode cX7_doubtShare 17 = .ok (.aload_n 0, 1) := by decide +kernel
theorem dX7_doubtShare_18 : decode cX7_doubtShare 18 = .ok (.getfield 39, 3) := by decide +kernel
theorem dX7_doubtShare_21 : decode cX7_doubtShare 21 = .ok (.ifCond .le 7, 3) := by decide +kernel
theorem dX7_doubtShare_24 : decode cX7_doubtShare 24 = .ok (.fconst 0, 1) := by decide +kernel
theorem dX7_doubtShare_25 : decode cX7_doubtShare 25 = .ok (.goto 16, 3) := by decide +kernel
theorem dX7_doubtShare_28 : decode cX7_doubtShare 28 = .ok (.aload_n 0, 1) := by decide +kernel
theorem dX7_doubtShare_29 : decode cX7_doubtShare 29 = .ok (.iload_n 1, 1) := by decide +kernel
theorem dX7_doubtShare_30 : decode cX7_doubtShare 30 = .ok (.invokevirtual 166, 3) := by decide +kernel
theorem dX7_doubtShare_33 : decode cX7_doubtShare 33 = .ok (.i2f, 1) := by decide +kernel
theorem dX7_doubtShare_34 : decode cX7_doubtShare 34 = .ok (.aload_n 0, 1) := by decide +kernel
theorem dX7_doubtShare_35 : decode cX7_doubtShare 35 = .ok (.iload_n 1, 1) := by decide +kernel
theorem dX7_doubtShare_36 : decode cX7_doubtShare 36 = .ok (.invokevirtual 196, 3) := by decide +kernel
theorem dX7_doubtShare_39 : decode cX7_doubtShare 39 = .ok (.i2f, 1) := by decide +kernel
theorem dX7_doubtShare_40 : decode cX7_doubtShare 40 = .ok (.fdiv, 1) := by decide +kernel
theorem dX7_doubtShare_41 : decode cX7_doubtShare 41 = .ok (.freturn, 1) := by decide +kernel
theorem dX7_undo_0 : decode cX7_undo 0 = .ok (.aload_n 0, 1) := by decide +kernel
theorem dX7_undo_1 : decode cX7_undo 1 = .ok (.aload_n 0, 1) := by decide +kernel
theorem dX7_undo_2 : decode cX7_undo 2 = .ok (.getfield 48, 3) := by decide +kernel
theorem dX7_undo_5 : decode cX7_undo 5 = .ok (.ifCond .ne 7, 3) := by decide +kernel
theorem dX7_undo_8 : decode cX7_undo 8 = .ok (.iconst 1, 1) := by decide +kernel
theorem dX7_undo_9 : decode cX7_undo 9 = .ok (.goto 4, 3) := by decide +kernel
theorem dX7_undo_12 : decode cX7_undo 12 = .ok (.iconst 0, 1) := by decide +kernel
theorem dX7_undo_13 : decode cX7_undo 13 = .ok (.putfield 39, 3) := by decide +kernel
theorem dX7_undo_16 : decode cX7_undo 16 = .ok (.aload_n 0, 1) := by decide +kernel
theorem dX7_undo_17 : decode cX7_undo 17 = .ok (.getfield 39, 3) := by decide +kernel
theorem dX7_undo_20 : decode cX7_undo 20 = .ok (.ifCond .le 5, 3) := by decide +kernel
theorem dX7_undo_23 : decode cX7_undo 23 = .ok (.iconst 0, 1) := by decide +kernel
theorem dX7_undo_24 : decode cX7_undo 24 = .ok (.ireturn, 1) := by decide +kernel
theorem dX7_undo_25 : decode cX7_undo 25 = .ok (.aload_n 0, 1) := by decide +kernel
theorem dX7_undo_26 : decode cX7_undo 26 = .ok (.dup, 1) := by decide +kernel
theorem dX7_undo_27 : decode cX7_undo 27 = .ok (.getfield 48, 3) := by decide +kernel
theorem dX7_undo_30 : decode cX7_undo 30 = .ok (.iconst 1, 1) := by decide +kernel
theorem dX7_undo_31 : decode cX7_undo 31 = .ok (.isub, 1) := by decide +kernel
theorem dX7_undo_32 : decode cX7_undo 32 = .ok (.putfield 48, 3) := by decide +kernel
theorem dX7_undo_35 : decode cX7_undo 35 = .ok (.aload_n 0, 1) := by decide +kernel
theorem dX7_undo_36 : decode cX7_undo 36 = .ok (.getfield 22, 3) := by decide +kernel
theorem dX7_undo_39 : decode cX7_undo 39 = .ok (.sipush 345, 3) := by decide +kernel
theorem dX7_undo_42 : decode cX7_undo 42 = .ok (.aload_n 0, 1) := by decide +kernel
theorem dX7_undo_43 : decode cX7_undo 43 = .ok (.getfield 48, 3) := by decide +kernel
theorem dX7_undo_46 : decode cX7_undo 46 = .ok (.imul, 1) := by decide +kernel
theorem dX7_undo_47 : decode cX7_undo 47 = .ok (.aload_n 0, 1) := by decide +kernel
theorem dX7_undo_48 : decode cX7_undo 48 = .ok (.getfield 9, 3) := by decide +kernel
theorem dX7_undo_51 : decode cX7_undo 51 = .ok (.iconst 0, 1) := by decide +kernel
theorem dX7_undo_52 : decode cX7_undo 52 = .ok (.sipush 345, 3) := by decide +kernel
theorem dX7_undo_55 : decode cX7_undo 55 = .ok (.invokestatic 42, 3) := by decide +kernel
theorem dX7_undo_58 : decode cX7_undo 58 = .ok (.aload_n 0, 1) := by decide +kernel
theorem dX7_undo_59 : decode cX7_undo 59 = .ok (.getfield 48, 3) := by decide +kernel
theorem dX7_undo_62 : decode cX7_undo 62 = .ok (.ireturn, 1) := by decide +kernel
theorem dX7_save_0 : decode cX7_save 0 = .ok (.aload_n 0, 1) := by decide +kernel
theorem dX7_save_1 : decode cX7_save 1 = .ok (.iconst 0, 1) := by decide +kernel
theorem dX7_save_2 : decode cX7_save 2 = .ok (.putfield 39, 3) := by decide +kernel
theorem dX7_save_5 : decode cX7_save 5 = .ok (.aload_n 0, 1) := by decide +kernel
theorem dX7_save_6 : decode cX7_save 6 = .ok (.getfield 9, 3) := by decide +kernel
theorem dX7_save_9 : decode cX7_save 9 = .ok (.iconst 0, 1) := by decide +kernel
theorem dX7_save_10 : decode cX7_save 10 = .ok (.aload_n 0, 1) := by decide +kernel
theorem dX7_save_11 : decode cX7_save 11 = .ok (.getfield 19, 3) := by decide +kernel
theorem dX7_save_14 : decode cX7_save 14 = .ok (.iconst 0, 1) := by decide +kernel
theorem dX7_save_15 : decode cX7_save 15 = .ok (.sipush 345, 3) := by decide +kernel
theorem dX7_save_18 : decode cX7_save 18 = .ok (.invokestatic 42, 3) := by decide +kernel
theorem dX7_save_21 : decode cX7_save 21 = .ok (.aload_n 0, 1) := by decide +kernel
theorem dX7_save_22 : decode cX7_save 22 = .ok (.iconst 1, 1) := by decide +kernel
theorem dX7_save_23 : decode cX7_save 23 = .ok (.putfield 253, 3) := by decide +kernel
theorem dX7_save_26 : decode cX7_save 26 = .ok (.aload_n 0, 1) := by decide +kernel
theorem dX7_save_27 : decode cX7_save 27 = .ok (.getfield 9, 3) := by decide +kernel
theorem dX7_save_30 : decode cX7_save 30 = .ok (.iconst 0, 1) := by decide +kernel
theorem dX7_save_31 : decode cX7_save 31 = .ok (.iaload, 1) := by decide +kernel
theorem dX7_save_32 : decode cX7_save 32 = .ok (.ireturn, 1) := by decide +kernel
theorem dX7_restore_0 : decode cX7_restore 0 = .ok (.aload_n 0, 1) := by decide +kernel
theorem dX7_restore_1 : decode cX7_restore 1 = .ok (.aload_n 0, 1) := by decide +kernel
theorem dX7_restore_2 : decode cX7_restore 2 = .ok (.getfield 253, 3) := by decide +kernel
theorem dX7_restore_5 : decode cX7_restore 5 = .ok (.ifCond .eq 7, 3) := by decide +kernel
theorem dX7_restore_8 : decode cX7_restore 8 = .ok (.iconst 0, 1) := by decide +kernel
theorem dX7_restore_9 : decode cX7_restore 9 = .ok (.goto 4, 3) := by decide +kernel
theorem dX7_restore_12 : decode cX7_restore 12 = .ok (.iconst 1, 1) := by decide +kernel
theorem dX7_restore_13 : decode cX7_restore 13 = .ok (.putfield 39, 3) := by decide +kernel
theorem dX7_restore_16 : decode cX7_restore 16 = .ok (.aload_n 0, 1) := by decide +kernel
theorem dX7_restore_17 : decode cX7_restore 17 = .ok (.getfield 39, 3) := by decide +kernel
theorem dX7_restore_20 : decode cX7_restore 20 = .ok (.ifCond .le 5, 3) := by decide +kernel
theorem dX7_restore_23 : decode cX7_restore 23 = .ok (.iconst 0, 1) := by decide +kernel
theorem dX7_restore_24 : decode cX7_restore 24 = .ok (.ireturn, 1) := by decide +kernel
theorem dX7_restore_25 : decode cX7_restore 25 = .ok (.aload_n 0, 1) := by decide +kernel
theorem dX7_restore_26 : decode cX7_restore 26 = .ok (.getfield 19, 3) := by decide +kernel
theorem dX7_restore_29 : decode cX7_restore 29 = .ok (.iconst 0, 1) := by decide +kernel
theorem dX7_restore_30 : decode cX7_restore 30 = .ok (.aload_n 0, 1) := by decide +kernel
theorem dX7_restore_31 : decode cX7_restore 31 = .ok (.getfield 9, 3) := by decide +kernel
theorem dX7_restore_34 : decode cX7_restore 34 = .ok (.iconst 0, 1) := by decide +kernel
theorem dX7_restore_35 : decode cX7_restore 35 = .ok (.sipush 345, 3) := by decide +kernel
theorem dX7_restore_38 : decode cX7_restore 38 = .ok (.invokestatic 42, 3) := by decide +kernel
theorem dX7_restore_41 : decode cX7_restore 41 = .ok (.aload_n 0, 1) := by decide +kernel
theorem dX7_restore_42 : decode cX7_restore 42 = .ok (.iconst 0, 1) := by decide +kernel
theorem dX7_restore_43 : decode cX7_restore 43 = .ok (.putfield 48, 3) := by decide +kernel
theorem dX7_restore_46 : decode cX7_restore 46 = .ok (.aload_n 0, 1) := by decide +kernel
theorem dX7_restore_47 : decode cX7_restore 47 = .ok (.getfield 9, 3) := by decide +kernel
theorem dX7_restore_50 : decode cX7_restore 50 = .ok (.iconst 0, 1) := by decide +kernel
theorem dX7_restore_51 : decode cX7_restore 51 = .ok (.iaload, 1) := by decide +kernel
theorem dX7_restore_52 : decode cX7_restore 52 = .ok (.ireturn, 1) := by decide +kernel
