theorem dX2_init_0 : decode cX2_init 0 = .ok (.aload_n 0, 1) := by decide +kernel
theorem dX2_init_1 : decode cX2_init 1 = .ok (.invokespecial 3, 3) := by decide +kernel
theorem dX2_init_4 : decode cX2_init 4 = .ok (.aload_n 0, 1) := by decide +kernel
theorem dX2_init_5 : decode cX2_init 5 = .ok (.bipush 8, 2) := by decide +kernel
theorem dX2_init_7 : decode cX2_init 7 = .ok (.anewarray 9, 3) := by decide +kernel
theorem dX2_init_10 : decode cX2_init 10 = .ok (.putfield 11, 3) := by decide +kernel
theorem dX2_init_13 : decode cX2_init 13 = .ok (.iconst 0, 1) := by decide +kernel
theorem dX2_init_14 : decode cX2_init 14 = .ok (.istore_n 1, 1) := by decide +kernel
theorem dX2_init_15 : decode cX2_init 15 = .ok (.iload_n 1, 1) := by decide +kernel
theorem dX2_init_16 : decode cX2_init 16 = .ok (.aload_n 0, 1) := by decide +kernel
theorem dX2_init_17 : decode cX2_init 17 = .ok (.getfield 11, 3) := by decide +kernel
theorem dX2_init_20 : decode cX2_init 20 = .ok (.arraylength, 1) := by decide +kernel
theorem dX2_init_21 : decode cX2_init 21 = .ok (.if_icmp .ge 22, 3) := by decide +kernel
theorem dX2_init_24 : decode cX2_init 24 = .ok (.aload_n 0, 1) := by decide +kernel
theorem dX2_init_25 : decode cX2_init 25 = .ok (.getfield 11, 3) := by decide +kernel
theorem dX2_init_28 : decode cX2_init 28 = .ok (.iload_n 1, 1) := by decide +kernel
theorem dX2_init_29 : decode cX2_init 29 = .ok (.new 9, 3) := by decide +kernel
theorem dX2_init_32 : decode cX2_init 32 = .ok (.dup, 1) := by decide +kernel
theorem dX2_init_33 : decode cX2_init 33 = .ok (.invokespecial 17, 3) := by decide +kernel
theorem dX2_init_36 : decode cX2_init 36 = .ok (.aastore, 1) := by decide +kernel
theorem dX2_init_37 : decode cX2_init 37 = .ok (.iinc 1 1, 3) := by decide +kernel
theorem dX2_init_40 : decode cX2_init 40 = .ok (.goto (-25), 3) := by decide +kernel
theorem dX2_init_43 : decode cX2_init 43 = .ok (.return_, 1) := by decide +kernel
theorem dX2_remember_0 : decode cX2_remember 0 = .ok (.aload_n 0, 1) := by decide +kernel
theorem dX2_remember_1 : decode cX2_remember 1 = .ok (.getfield 18, 3) := by decide +kernel
theorem dX2_remember_4 : decode cX2_remember 4 = .ok (.aload_n 0, 1) := by decide +kernel
theorem dX2_remember_5 : decode cX2_remember 5 = .ok (.getfield 11, 3) := by decide +kernel
theorem dX2_remember_8 : decode cX2_remember 8 = .ok (.arraylength, 1) := by decide +kernel
theorem dX2_remember_9 : decode cX2_remember 9 = .ok (.if_icmp .lt 18, 3) := by decide +kernel
theorem dX2_remember_12 : decode cX2_remember 12 = .ok (.aload_n 0, 1) := by decide +kernel
theorem dX2_remember_13 : decode cX2_remember 13 = .ok (.invokevirtual 22, 3) := by decide +kernel
theorem dX2_remember_16 : decode cX2_remember 16 = .ok (.aload_n 0, 1) := by decide +kernel
theorem dX2_remember_17 : decode cX2_remember 17 = .ok (.aload_n 0, 1) := by decide +kernel
theorem dX2_remember_18 : decode cX2_remember 18 = .ok (.getfield 11, 3) := by decide +kernel
theorem dX2_remember_21 : decode cX2_remember 21 = .ok (.arraylength, 1) := by decide +kernel
theorem dX2_remember_22 : decode cX2_remember 22 = .ok (.iconst 1, 1) := by decide +kernel
theorem dX2_remember_23 : decode cX2_remember 23 = .ok (.isub, 1) := by decide +kernel
theorem dX2_remember_24 : decode cX2_remember 24 = .ok (.putfield 18, 3) := by decide +kernel
theorem dX2_remember_27 : decode cX2_remember 27 = .ok (.aload_n 0, 1) := by decide +kernel
theorem dX2_remember_28 : decode cX2_remember 28 = .ok (.aload_n 0, 1) := by decide +kernel
theorem dX2_remember_29 : decode cX2_remember 29 = .ok (.getfield 18, 3) := by decide +kernel
theorem dX2_remember_32 : decode cX2_remember 32 = .ok (.invokevirtual 25, 3) := by decide +kernel
theorem dX2_remember_35 : decode cX2_remember 35 = .ok (.astore_n 2, 1) := by decide +kernel
theorem dX2_remember_36 : decode cX2_remember 36 = .ok (.aload_n 2, 1) := by decide +kernel
theorem dX2_remember_37 : decode cX2_remember 37 = .ok (.ifnull 18, 3) := by decide +kernel
theorem dX2_remember_40 : decode cX2_remember 40 = .ok (.aload_n 2, 1) := by decide +kernel
theorem dX2_remember_41 : decode cX2_remember 41 = .ok (.aload_n 1, 1) := by decide +kernel
theorem dX2_remember_42 : decode cX2_remember 42 = .ok (.invokevirtual 29, 3) := by decide +kernel
theorem dX2_remember_45 : decode cX2_remember 45 = .ok (.aload_n 0, 1) := by decide +kernel
theorem dX2_remember_46 : decode cX2_remember 46 = .ok (.dup, 1) := by decide +kernel
theorem dX2_remember_47 : decode cX2_remember 47 = .ok (.getfield 18, 3) := by decide +kernel
theorem dX2_remember_50 : decode cX2_remember 50 = .ok (.iconst 1, 1) := by decide +kernel
theorem dX2_remember_51 : decode cX2_remember 51 = .ok (.iadd, 1) := by decide +kernel
theorem dX2_remember_52 : decode cX2_remember 52 = .ok (.putfield 18, 3) := by decide +kernel
theorem dX2_remember_55 : decode cX2_remember 55 = .ok (.return_, 1) := by decide +kernel
theorem dX2_takeLatest_0 : decode cX2_takeLatest 0 = .ok (.aload_n 0, 1) := by decide +kernel
theorem dX2_takeLatest_1 : decode cX2_takeLatest 1 = .ok (.getfield 18, 3) := by decide +kernel
theorem dX2_takeLatest_4 : decode cX2_takeLatest 4 = .ok (.ifCond .gt 5, 3) := by decide +kernel
theorem dX2_takeLatest_7 : decode cX2_takeLatest 7 = .ok (.aconst_null, 1) := by decide +kernel
theorem dX2_takeLatest_8 : decode cX2_takeLatest 8 = .ok (.areturn, 1) := by decide +kernel
theorem dX2_takeLatest_9 : decode cX2_takeLatest 9 = .ok (.aload_n 0, 1) := by decide +kernel
theorem dX2_takeLatest_10 : decode cX2_takeLatest 10 = .ok (.dup, 1) := by decide +kernel
theorem dX2_takeLatest_11 : decode cX2_takeLatest 11 = .ok (.getfield 18, 3) := by decide +kernel
theorem dX2_takeLatest_14 : decode cX2_takeLatest 14 = .ok (.iconst 1, 1) := by decide +kernel
theorem dX2_takeLatest_15 : decode cX2_takeLatest 15 = .ok (.isub, 1) := by decide +kernel
theorem dX2_takeLatest_16 : decode cX2_takeLatest 16 = .ok (.putfield 18, 3) := by decide +kernel
theorem dX2_takeLatest_19 : decode cX2_takeLatest 19 = .ok (.aload_n 0, 1) := by decide +kernel
theorem dX2_takeLatest_20 : decode cX2_takeLatest 20 = .ok (.aload_n 0, 1) := by decide +kernel
theorem dX2_takeLatest_21 : decode cX2_takeLatest 21 = .ok (.getfield 18, 3) := by decide +kernel
theorem dX2_takeLatest_24 : decode cX2_takeLatest 24 = .ok (.invokevirtual 25, 3) := by decide +kernel
theorem dX2_takeLatest_27 : decode cX2_takeLatest 27 = .ok (.areturn, 1) := by decide +kernel
theorem dX2_shelfAt_0 : decode cX2_shelfAt 0 = .ok (.iload_n 1, 1) := by decide +kernel
theorem dX2_shelfAt_1 : decode cX2_shelfAt 1 = .ok (.ifCond .lt 21, 3) := by decide +kernel
theorem dX2_shelfAt_4 : decode cX2_shelfAt 4 = .ok (.iload_n 1, 1) := by decide +kernel
theorem dX2_shelfAt_5 : decode cX2_shelfAt 5 = .ok (.aload_n 0, 1) := by decide +kernel
theorem dX2_shelfAt_6 : decode cX2_shelfAt 6 = .ok (.getfield 11, 3) := by decide +kernel
theorem dX2_shelfAt_9 : decode cX2_shelfAt 9 = .ok (.arraylength, 1) := by decide +kernel
theorem dX2_shelfAt_10 : decode cX2_shelfAt 10 = .ok (.if_icmp .ge 12, 3) := by decide +kernel
theorem dX2_shelfAt_13 : decode cX2_shelfAt 13 = .ok (.aload_n 0, 1) := by decide +kernel
theorem dX2_shelfAt_14 : decode cX2_shelfAt 14 = .ok (.getfield 11, 3) := by decide +kernel
theorem dX2_shelfAt_17 : decode cX2_shelfAt 17 = .ok (.iload_n 1, 1) := by decide +kernel
theorem dX2_shelfAt_18 : decode cX2_shelfAt 18 = .ok (.aaload, 1) := by decide +kernel
theorem dX2_shelfAt_19 : decode cX2_shelfAt 19 = .ok (.goto 4, 3) := by decide +kernel
theorem dX2_shelfAt_22 : decode cX2_shelfAt 22 = .ok (.aconst_null, 1) := by decide +kernel
theorem dX2_shelfAt_23 : decode cX2_shelfAt 23 = .ok (.areturn, 1) := by decide +kernel
theorem dX2_moveOldestBehind_0 : decode cX2_moveOldestBehind 0 = .ok (.aload_n 0, 1) := by decide +kernel
theorem dX2_moveOldestBehind_1 : decode cX2_moveOldestBehind 1 = .ok (.iconst 0, 1) := by decide +kernel
theorem dX2_moveOldestBehind_2 : decode cX2_moveOldestBehind 2 = .ok (.invokevirtual 25, 3) := by decide +kernel
theorem dX2_moveOldestBehind_5 : decode cX2_moveOldestBehind 5 = .ok (.astore_n 1, 1) := by decide +kernel
theorem dX2_moveOldestBehind_6 : decode cX2_moveOldestBehind 6 = .ok (.aload_n 0, 1) := by decide +kernel
theorem dX2_moveOldestBehind_7 : decode cX2_moveOldestBehind 7 = .ok (.getfield 11, 3) := by decide +kernel
theorem dX2_moveOldestBehind_10 : decode cX2_moveOldestBehind 10 = .ok (.arraylength, 1) := by decide +kernel
theorem dX2_moveOldestBehind_11 : decode cX2_moveOldestBehind 11 = .ok (.iconst 1, 1) := by decide +kernel
theorem dX2_moveOldestBehind_12 : decode cX2_moveOldestBehind 12 = .ok (.isub, 1) := by decide +kernel
theorem dX2_moveOldestBehind_13 : decode cX2_moveOldestBehind 13 = .ok (.istore_n 2, 1) := by decide +kernel
theorem dX2_moveOldestBehind_14 : decode cX2_moveOldestBehind 14 = .ok (.iload_n 2, 1) := by decide +kernel
theorem dX2_moveOldestBehind_15 : decode cX2_moveOldestBehind 15 = .ok (.ifCond .lt 25, 3) := by decide +kernel
theorem dX2_moveOldestBehind_18 : decode cX2_moveOldestBehind 18 = .ok (.aload_n 0, 1) := by decide +kernel
theorem dX2_moveOldestBehind_19 : decode cX2_moveOldestBehind 19 = .ok (.getfield 11, 3) := by decide +kernel
theorem dX2_moveOldestBehind_22 : decode cX2_moveOldestBehind 22 = .ok (.iload_n 2, 1) := by decide +kernel
theorem dX2_moveOldestBehind_23 : decode cX2_moveOldestBehind 23 = .ok (.aaload, 1) := by decide +kernel
theorem dX2_moveOldestBehind_24 : decode cX2_moveOldestBehind 24 = .ok (.astore_n 3, 1) := by decide +kernel
theorem dX2_moveOldestBehind_25 : decode cX2_moveOldestBehind 25 = .ok (.aload_n 0, 1) := by decide +kernel
theorem dX2_moveOldestBehind_26 : decode cX2_moveOldestBehind 26 = .ok (.getfield 11, 3) := by decide +kernel
theorem dX2_moveOldestBehind_29 : decode cX2_moveOldestBehind 29 = .ok (.iload_n 2, 1) := by decide +kernel
theorem dX2_moveOldestBehind_30 : decode cX2_moveOldestBehind 30 = .ok (.aload_n 1, 1) := by decide +kernel
theorem dX2_moveOldestBehind_31 : decode cX2_moveOldestBehind 31 = .ok (.aastore, 1) := by decide +kernel
theorem dX2_moveOldestBehind_32 : decode cX2_moveOldestBehind 32 = .ok (.aload_n 3, 1) := by decide +kernel
theorem dX2_moveOldestBehind_33 : decode cX2_moveOldestBehind 33 = .ok (.astore_n 1, 1) := by decide +kernel
theorem dX2_moveOldestBehind_34 : decode cX2_moveOldestBehind 34 = .ok (.iinc 2 (-1), 3) := by decide +kernel
theorem dX2_moveOldestBehind_37 : decode cX2_moveOldestBehind 37 = .ok (.goto (-23), 3) := by decide +kernel
theorem dX2_moveOldestBehind_40 : decode cX2_moveOldestBehind 40 = .ok (.return_, 1) := by decide +kernel
theorem dX3_init_0 : decode cX3_init 0 = .ok (.aload_n 0, 1) := by decide +kernel
theorem dX3_init_1 : decode cX3_init 1 = .ok (.invokespecial 3, 3) := by decide +kernel
theorem dX3_init_4 : decode cX3_init 4 = .ok (.aload_n 0, 1) := by decide +kernel
theorem dX3_init_5 : decode cX3_init 5 = .ok (.bipush 60, 2) := by decide +kernel
theorem dX3_init_7 : decode cX3_init 7 = .ok (.newarray .char, 2) := by decide +kernel
theorem dX3_init_9 : decode cX3_init 9 = .ok (.putfield 9, 3) := by decide +kernel
theorem dX3_init_12 : decode cX3_init 12 = .ok (.return_, 1) := by decide +kernel
theorem dX3_isFull_0 : decode cX3_isFull 0 = .ok (.aload_n 0, 1) := by decide +kernel
theorem dX3_isFull_1 : decode cX3_isFull 1 = .ok (.getfield 15, 3) := by decide +kernel
theorem dX3_isFull_4 : decode cX3_isFull 4 = .ok (.aload_n 0, 1) := by decide +kernel
theorem dX3_isFull_5 : decode cX3_isFull 5 = .ok (.getfield 9, 3) := by decide +kernel
theorem dX3_isFull_8 : decode cX3_isFull 8 = .ok (.arraylength, 1) := by decide +kernel
theorem dX3_isFull_9 : decode cX3_isFull 9 = .ok (.if_icmp .lt 7, 3) := by decide +kernel
theorem dX3_isFull_12 : decode cX3_isFull 12 = .ok (.iconst 1, 1) := by decide +kernel
theorem dX3_isFull_13 : decode cX3_isFull 13 = .ok (.goto 4, 3) := by decide +kernel
theorem dX3_isFull_16 : decode cX3_isFull 16 = .ok (.iconst 0, 1) := by decide +kernel
theorem dX3_isFull_17 : decode cX3_isFull 17 = .ok (.ireturn, 1) := by decide +kernel
theorem dX3_add_0 : decode cX3_add 0 = .ok (.aload_n 0, 1) := by decide +kernel
theorem dX3_add_1 : decode cX3_add 1 = .ok (.getfield 15, 3) := by decide +kernel
theorem dX3_add_4 : decode cX3_add 4 = .ok (.ifCond .lt 35, 3) := by decide +kernel
theorem dX3_add_7 : decode cX3_add 7 = .ok (.aload_n 0, 1) := by decide +kernel
theorem dX3_add_8 : decode cX3_add 8 = .ok (.getfield 15, 3) := by decide +kernel
theorem dX3_add_11 : decode cX3_add 11 = .ok (.aload_n 0, 1) := by decide +kernel
theorem dX3_add_12 : decode cX3_add 12 = .ok (.getfield 9, 3) := by decide +kernel
theorem dX3_add_15 : decode cX3_add 15 = .ok (.arraylength, 1) := by decide +kernel
theorem dX3_add_16 : decode cX3_add 16 = .ok (.if_icmp .ge 23, 3) := by decide +kernel
theorem dX3_add_19 : decode cX3_add 19 = .ok (.aload_n 0, 1) := by decide +kernel
theorem dX3_add_20 : decode cX3_add 20 = .ok (.getfield 9, 3) := by decide +kernel
theorem dX3_add_23 : decode cX3_add 23 = .ok (.aload_n 0, 1) := by decide +kernel
theorem dX3_add_24 : decode cX3_add 24 = .ok (.getfield 15, 3) := by decide +kernel
theorem dX3_add_27 : decode cX3_add 27 = .ok (.iload_n 1, 1) := by decide +kernel
theorem dX3_add_28 : decode cX3_add 28 = .ok (.castore, 1) := by decide +kernel
theorem dX3_add_29 : decode cX3_add 29 = .ok (.aload_n 0, 1) := by decide +kernel
theorem dX3_add_30 : decode cX3_add 30 = .ok (.dup, 1) := by decide +kernel
theorem dX3_add_31 : decode cX3_add 31 = .ok (.getfield 15, 3) := by decide +kernel
theorem dX3_add_34 : decode cX3_add 34 = .ok (.iconst 1, 1) := by decide +kernel
theorem dX3_add_35 : decode cX3_add 35 = .ok (.iadd, 1) := by decide +kernel
theorem dX3_add_36 : decode cX3_add 36 = .ok (.putfield 15, 3) := by decide +kernel
theorem dX3_add_39 : decode cX3_add 39 = .ok (.return_, 1) := by decide +kernel
theorem dX3_empty_0 : decode cX3_empty 0 = .ok (.aload_n 0, 1) := by decide +kernel
theorem dX3_empty_1 : decode cX3_empty 1 = .ok (.iconst 0, 1) := by decide +kernel
theorem dX3_empty_2 : decode cX3_empty 2 = .ok (.putfield 15, 3) := by decide +kernel
theorem dX3_empty_5 : decode cX3_empty 5 = .ok (.return_, 1) := by decide +kernel
theorem dX3_firstError_0 : decode cX3_firstError 0 = .ok (.iconst 0, 1) := by decide +kernel
theorem dX3_firstError_1 : decode cX3_firstError 1 = .ok (.istore_n 1, 1) := by decide +kernel
theorem dX3_firstError_2 : decode cX3_firstError 2 = .ok (.iconst 0, 1) := by decide +kernel
theorem dX3_firstError_3 : decode cX3_firstError 3 = .ok (.istore_n 2, 1) := by decide +kernel
theorem dX3_firstError_4 : decode cX3_firstError 4 = .ok (.iload_n 2, 1) := by decide +kernel
theorem dX3_firstError_5 : decode cX3_firstError 5 = .ok (.bipush 60, 2) := by decide +kernel
theorem dX3_firstError_7 : decode cX3_firstError 7 = .ok (.if_icmp .ge 90, 3) := by decide +kernel
theorem dX3_firstError_10 : decode cX3_firstError 10 = .ok (.iload_n 1, 1) := by decide +kernel
theorem dX3_firstError_11 : decode cX3_firstError 11 = .ok (.aload_n 0, 1) := by decide +kernel
theorem dX3_firstError_12 : decode cX3_firstError 12 = .ok (.getfield 15, 3) := by decide +kernel
theorem dX3_firstError_15 : decode cX3_firstError 15 = .ok (.if_icmp .ge 82, 3) := by decide +kernel
theorem dX3_firstError_18 : decode cX3_firstError 18 = .ok (.aload_n 0, 1) := by decide +kernel
theorem dX3_firstError_19 : decode cX3_firstError 19 = .ok (.iload_n 1, 1) := by decide +kernel
theorem dX3_firstError_20 : decode cX3_firstError 20 = .ok (.invokevirtual 19, 3) := by decide +kernel
theorem dX3_firstError_23 : decode cX3_firstError 23 = .ok (.astore_n 3, 1) := by decide +kernel
theorem dX3_firstError_24 : decode cX3_firstError 24 = .ok (.aload_n 3, 1) := by decide +kernel
theorem dX3_firstError_25 : decode cX3_firstError 25 = .ok (.ifnonnull 5, 3) := by decide +kernel
theorem dX3_firstError_28 : decode cX3_firstError 28 = .ok (.iload_n 1, 1) := by decide +kernel
theorem dX3_firstError_29 : decode cX3_firstError 29 = .ok (.ireturn, 1) := by decide +kernel
theorem dX3_firstError_30 : decode cX3_firstError 30 = .ok (.aload_n 0, 1) := by decide +kernel
theorem dX3_firstError_31 : decode cX3_firstError 31 = .ok (.iload_n 1, 1) := by decide +kernel
theorem dX3_firstError_32 : decode cX3_firstError 32 = .ok (.aload_n 3, 1) := by decide +kernel
theorem dX3_firstError_33 : decode cX3_firstError 33 = .ok (.getfield 23, 3) := by decide +kernel
theorem dX3_firstError_36 : decode cX3_firstError 36 = .ok (.invokevirtual 29, 3) := by decide +kernel
theorem dX3_firstError_39 : decode cX3_firstError 39 = .ok (.istore 4, 2) := by decide +kernel
theorem dX3_firstError_41 : decode cX3_firstError 41 = .ok (.iload 4, 2) := by decide +kernel
theorem dX3_firstError_43 : decode cX3_firstError 43 = .ok (.iconst (-1), 1) := by decide +kernel
theorem dX3_firstError_44 : decode cX3_firstError 44 = .ok (.if_icmp .eq 6, 3) := by decide +kernel
theorem dX3_firstError_47 : decode cX3_firstError 47 = .ok (.iload 4, 2) := by decide +kernel
theorem dX3_firstError_49 : decode cX3_firstError 49 = .ok (.ireturn, 1) := by decide +kernel
theorem dX3_firstError_50 : decode cX3_firstError 50 = .ok (.iload_n 1, 1) := by decide +kernel
theorem dX3_firstError_51 : decode cX3_firstError 51 = .ok (.aload_n 3, 1) := by decide +kernel
theorem dX3_firstError_52 : decode cX3_firstError 52 = .ok (.getfield 23, 3) := by decide +kernel
theorem dX3_firstError_55 : decode cX3_firstError 55 = .ok (.invokevirtual 33, 3) := by decide +kernel
theorem dX3_firstError_58 : decode cX3_firstError 58 = .ok (.iadd, 1) := by decide +kernel
theorem dX3_firstError_59 : decode cX3_firstError 59 = .ok (.istore 5, 2) := by decide +kernel
theorem dX3_firstError_61 : decode cX3_firstError 61 = .ok (.iload 5, 2) := by decide +kernel
theorem dX3_firstError_63 : decode cX3_firstError 63 = .ok (.aload_n 0, 1) := by decide +kernel
theorem dX3_firstError_64 : decode cX3_firstError 64 = .ok (.getfield 15, 3) := by decide +kernel
theorem dX3_firstError_67 : decode cX3_firstError 67 = .ok (.if_icmp .ne 5, 3) := by decide +kernel
theorem dX3_firstError_70 : decode cX3_firstError 70 = .ok (.iconst (-1), 1) := by decide +kernel
theorem dX3_firstError_71 : decode cX3_firstError 71 = .ok (.ireturn, 1) := by decide +kernel
theorem dX3_firstError_72 : decode cX3_firstError 72 = .ok (.aload_n 0, 1) := by decide +kernel
theorem dX3_firstError_73 : decode cX3_firstError 73 = .ok (.iload 5, 2) := by decide +kernel
theorem dX3_firstError_75 : decode cX3_firstError 75 = .ok (.bipush 59, 2) := by decide +kernel
theorem dX3_firstError_77 : decode cX3_firstError 77 = .ok (.invokevirtual 38, 3) := by decide +kernel
theorem dX3_firstError_80 : decode cX3_firstError 80 = .ok (.ifCond .ne 6, 3) := by decide +kernel
theorem dX3_firstError_83 : decode cX3_firstError 83 = .ok (.iload 5, 2) := by decide +kernel
theorem dX3_firstError_85 : decode cX3_firstError 85 = .ok (.ireturn, 1) := by decide +kernel
theorem dX3_firstError_86 : decode cX3_firstError 86 = .ok (.iload 5, 2) := by decide +kernel
theorem dX3_firstError_88 : decode cX3_firstError 88 = .ok (.iconst 1, 1) := by decide +kernel
theorem dX3_firstError_89 : decode cX3_firstError 89 = .ok (.iadd, 1) := by decide +kernel
theorem dX3_firstError_90 : decode cX3_firstError 90 = .ok (.istore_n 1, 1) := by decide +kernel
theorem dX3_firstError_91 : decode cX3_firstError 91 = .ok (.iinc 2 1, 3) := by decide +kernel
theorem dX3_firstError_94 : decode cX3_firstError 94 = .ok (.goto (-90), 3) := by decide +kernel
theorem dX3_firstError_97 : decode cX3_firstError 97 = .ok (.iload_n 1, 1) := by decide +kernel
theorem dX3_firstError_98 : decode cX3_firstError 98 = .ok (.ireturn, 1) := by decide +kernel
theorem dX3_firstMisfit_0 : decode cX3_firstMisfit 0 = .ok (.iconst 0, 1) := by decide +kernel
theorem dX3_firstMisfit_1 : decode cX3_firstMisfit 1 = .ok (.istore_n 3, 1) := by decide +kernel
theorem dX3_firstMisfit_2 : decode cX3_firstMisfit 2 = .ok (.iload_n 3, 1) := by decide +kernel
theorem dX3_firstMisfit_3 : decode cX3_firstMisfit 3 = .ok (.aload_n 2, 1) := by decide +kernel
theorem dX3_firstMisfit_4 : decode cX3_firstMisfit 4 = .ok (.invokevirtual 33, 3) := by decide +kernel
theorem dX3_firstMisfit_7 : decode cX3_firstMisfit 7 = .ok (.if_icmp .ge 53, 3) := by decide +kernel
theorem dX3_firstMisfit_10 : decode cX3_firstMisfit 10 = .ok (.aload_n 2, 1) := by decide +kernel
theorem dX3_firstMisfit_11 : decode cX3_firstMisfit 11 = .ok (.iload_n 3, 1) := by decide +kernel
theorem dX3_firstMisfit_12 : decode cX3_firstMisfit 12 = .ok (.invokevirtual 42, 3) := by decide +kernel
theorem dX3_firstMisfit_15 : decode cX3_firstMisfit 15 = .ok (.istore 4, 2) := by decide +kernel
theorem dX3_firstMisfit_17 : decode cX3_firstMisfit 17 = .ok (.iload 4, 2) := by decide +kernel
theorem dX3_firstMisfit_19 : decode cX3_firstMisfit 19 = .ok (.bipush 35, 2) := by decide +kernel
theorem dX3_firstMisfit_21 : decode cX3_firstMisfit 21 = .ok (.if_icmp .ne 13, 3) := by decide +kernel
theorem dX3_firstMisfit_24 : decode cX3_firstMisfit 24 = .ok (.aload_n 0, 1) := by decide +kernel
theorem dX3_firstMisfit_25 : decode cX3_firstMisfit 25 = .ok (.iload_n 1, 1) := by decide +kernel
theorem dX3_firstMisfit_26 : decode cX3_firstMisfit 26 = .ok (.iload_n 3, 1) := by decide +kernel
theorem dX3_firstMisfit_27 : decode cX3_firstMisfit 27 = .ok (.iadd, 1) := by decide +kernel
theorem dX3_firstMisfit_28 : decode cX3_firstMisfit 28 = .ok (.invokevirtual 46, 3) := by decide +kernel
theorem dX3_firstMisfit_31 : decode cX3_firstMisfit 31 = .ok (.goto 12, 3) := by decide +kernel
theorem dX3_firstMisfit_34 : decode cX3_firstMisfit 34 = .ok (.aload_n 0, 1) := by decide +kernel
theorem dX3_firstMisfit_35 : decode cX3_firstMisfit 35 = .ok (.iload_n 1, 1) := by decide +kernel
theorem dX3_firstMisfit_36 : decode cX3_firstMisfit 36 = .ok (.iload_n 3, 1) := by decide +kernel
theorem dX3_firstMisfit_37 : decode cX3_firstMisfit 37 = .ok (.iadd, 1) := by decide +kernel
theorem dX3_firstMisfit_38 : decode cX3_firstMisfit 38 = .ok (.iload 4, 2) := by decide +kernel
theorem dX3_firstMisfit_40 : decode cX3_firstMisfit 40 = .ok (.invokevirtual 38, 3) := by decide +kernel
theorem dX3_firstMisfit_43 : decode cX3_firstMisfit 43 = .ok (.istore 5, 2) := by decide +kernel
theorem dX3_firstMisfit_45 : decode cX3_firstMisfit 45 = .ok (.iload 5, 2) := by decide +kernel
theorem dX3_firstMisfit_47 : decode cX3_firstMisfit 47 = .ok (.ifCond .ne 7, 3) := by decide +kernel
theorem dX3_firstMisfit_50 : decode cX3_firstMisfit 50 = .ok (.iload_n 1, 1) := by decide +kernel
theorem dX3_firstMisfit_51 : decode cX3_firstMisfit 51 = .ok (.iload_n 3, 1) := by decide +kernel
theorem dX3_firstMisfit_52 : decode cX3_firstMisfit 52 = .ok (.iadd, 1) := by decide +kernel
theorem dX3_firstMisfit_53 : decode cX3_firstMisfit 53 = .ok (.ireturn, 1) := by decide +kernel
theorem dX3_firstMisfit_54 : decode cX3_firstMisfit 54 = .ok (.iinc 3 1, 3) := by decide +kernel
theorem dX3_firstMisfit_57 : decode cX3_firstMisfit 57 = .ok (.goto (-55), 3) := by decide +kernel
theorem dX3_firstMisfit_60 : decode cX3_firstMisfit 60 = .ok (.iconst (-1), 1) := by decide +kernel
theorem dX3_firstMisfit_61 : decode cX3_firstMisfit 61 = .ok (.ireturn, 1) := by decide +kernel
theorem dX3_deedAt_0 : decode cX3_deedAt 0 = .ok (.getstatic 50, 3) := by decide +kernel
theorem dX3_deedAt_3 : decode cX3_deedAt 3 = .ok (.astore_n 2, 1) := by decide +kernel
theorem dX3_deedAt_4 : decode cX3_deedAt 4 = .ok (.aload_n 2, 1) := by decide +kernel
theorem dX3_deedAt_5 : decode cX3_deedAt 5 = .ok (.arraylength, 1) := by decide +kernel
theorem dX3_deedAt_6 : decode cX3_deedAt 6 = .ok (.istore_n 3, 1) := by decide +kernel
theorem dX3_deedAt_7 : decode cX3_deedAt 7 = .ok (.iconst 0, 1) := by decide +kernel
theorem dX3_deedAt_8 : decode cX3_deedAt 8 = .ok (.istore 4, 2) := by decide +kernel
theorem dX3_deedAt_10 : decode cX3_deedAt 10 = .ok (.iload 4, 2) := by decide +kernel
theorem dX3_deedAt_12 : decode cX3_deedAt 12 = .ok (.iload_n 3, 1) := by decide +kernel
theorem dX3_deedAt_13 : decode cX3_deedAt 13 = .ok (.if_icmp .ge 46, 3) := by decide +kernel
theorem dX3_deedAt_16 : decode cX3_deedAt 16 = .ok (.aload_n 2, 1) := by decide +kernel
theorem dX3_deedAt_17 : decode cX3_deedAt 17 = .ok (.iload 4, 2) := by decide +kernel
theorem dX3_deedAt_19 : decode cX3_deedAt 19 = .ok (.aaload, 1) := by decide +kernel
theorem dX3_deedAt_20 : decode cX3_deedAt 20 = .ok (.astore 5, 2) := by decide +kernel
theorem dX3_deedAt_22 : decode cX3_deedAt 22 = .ok (.aload 5, 2) := by decide +kernel
theorem dX3_deedAt_24 : decode cX3_deedAt 24 = .ok (.getfield 23, 3) := by decide +kernel
theorem dX3_deedAt_27 : decode cX3_deedAt 27 = .ok (.invokevirtual 54, 3) := by decide +kernel
theorem dX3_deedAt_30 : decode cX3_deedAt 30 = .ok (.ifCond .ne 23, 3) := by decide +kernel
theorem dX3_deedAt_33 : decode cX3_deedAt 33 = .ok (.aload_n 0, 1) := by decide +kernel
theorem dX3_deedAt_34 : decode cX3_deedAt 34 = .ok (.iload_n 1, 1) := by decide +kernel
theorem dX3_deedAt_35 : decode cX3_deedAt 35 = .ok (.aload 5, 2) := by decide +kernel
theorem dX3_deedAt_37 : decode cX3_deedAt 37 = .ok (.getfield 23, 3) := by decide +kernel
theorem dX3_deedAt_40 : decode cX3_deedAt 40 = .ok (.iconst 0, 1) := by decide +kernel
theorem dX3_deedAt_41 : decode cX3_deedAt 41 = .ok (.invokevirtual 42, 3) := by decide +kernel
theorem dX3_deedAt_44 : decode cX3_deedAt 44 = .ok (.invokevirtual 38, 3) := by decide +kernel
theorem dX3_deedAt_47 : decode cX3_deedAt 47 = .ok (.ifCond .eq 6, 3) := by decide +kernel
theorem dX3_deedAt_50 : decode cX3_deedAt 50 = .ok (.aload 5, 2) := by decide +kernel
theorem dX3_deedAt_52 : decode cX3_deedAt 52 = .ok (.areturn, 1) := by decide +kernel
theorem dX3_deedAt_53 : decode cX3_deedAt 53 = .ok (.iinc 4 1, 3) := by decide +kernel
theorem dX3_deedAt_56 : decode cX3_deedAt 56 = .ok (.goto (-46), 3) := by decide +kernel
theorem dX3_deedAt_59 : decode cX3_deedAt 59 = .ok (.aconst_null, 1) := by decide +kernel
theorem dX3_deedAt_60 : decode cX3_deedAt 60 = .ok (.areturn, 1) := by decide +kernel
theorem dX3_numberIn_0 : decode cX3_numberIn 0 = .ok (.iconst 2, 1) := by decide +kernel
theorem dX3_numberIn_1 : decode cX3_numberIn 1 = .ok (.iload_n 3, 1) := by decide +kernel
theorem dX3_numberIn_2 : decode cX3_numberIn 2 = .ok (.imul, 1) := by decide +kernel
theorem dX3_numberIn_3 : decode cX3_numberIn 3 = .ok (.iconst 1, 1) := by decide +kernel
theorem dX3_numberIn_4 : decode cX3_numberIn 4 = .ok (.iadd, 1) := by decide +kernel
theorem dX3_numberIn_5 : decode cX3_numberIn 5 = .ok (.istore 4, 2) := by decide +kernel
theorem dX3_numberIn_7 : decode cX3_numberIn 7 = .ok (.iload 4, 2) := by decide +kernel
theorem dX3_numberIn_9 : decode cX3_numberIn 9 = .ok (.aload_n 2, 1) := by decide +kernel
theorem dX3_numberIn_10 : decode cX3_numberIn 10 = .ok (.getfield 23, 3) := by decide +kernel
theorem dX3_numberIn_13 : decode cX3_numberIn 13 = .ok (.invokevirtual 33, 3) := by decide +kernel
theorem dX3_numberIn_16 : decode cX3_numberIn 16 = .ok (.if_icmp .ge 14, 3) := by decide +kernel
theorem dX3_numberIn_19 : decode cX3_numberIn 19 = .ok (.aload_n 0, 1) := by decide +kernel
theorem dX3_numberIn_20 : decode cX3_numberIn 20 = .ok (.iload_n 1, 1) := by decide +kernel
theorem dX3_numberIn_21 : decode cX3_numberIn 21 = .ok (.iload 4, 2) := by decide +kernel
theorem dX3_numberIn_23 : decode cX3_numberIn 23 = .ok (.iadd, 1) := by decide +kernel
theorem dX3_numberIn_24 : decode cX3_numberIn 24 = .ok (.invokevirtual 46, 3) := by decide +kernel
theorem dX3_numberIn_27 : decode cX3_numberIn 27 = .ok (.ifCond .ne 5, 3) := by decide +kernel
theorem dX3_numberIn_30 : decode cX3_numberIn 30 = .ok (.iconst 0, 1) := by decide +kernel
theorem dX3_numberIn_31 : decode cX3_numberIn 31 = .ok (.ireturn, 1) := by decide +kernel
theorem dX3_numberIn_32 : decode cX3_numberIn 32 = .ok (.aload_n 0, 1) := by decide +kernel
theorem dX3_numberIn_33 : decode cX3_numberIn 33 = .ok (.iload_n 1, 1) := by decide +kernel
theorem dX3_numberIn_34 : decode cX3_numberIn 34 = .ok (.iload 4, 2) := by decide +kernel
theorem dX3_numberIn_36 : decode cX3_numberIn 36 = .ok (.iadd, 1) := by decide +kernel
theorem dX3_numberIn_37 : decode cX3_numberIn 37 = .ok (.invokevirtual 58, 3) := by decide +kernel
theorem dX3_numberIn_40 : decode cX3_numberIn 40 = .ok (.bipush 48, 2) := by decide +kernel
theorem dX3_numberIn_42 : decode cX3_numberIn 42 = .ok (.isub, 1) := by decide +kernel
theorem dX3_numberIn_43 : decode cX3_numberIn 43 = .ok (.ireturn, 1) := by decide +kernel
theorem dX3_startOfNext_0 : decode cX3_startOfNext 0 = .ok (.aload_n 0, 1) := by decide +kernel
theorem dX3_startOfNext_1 : decode cX3_startOfNext 1 = .ok (.iload_n 1, 1) := by decide +kernel
theorem dX3_startOfNext_2 : decode cX3_startOfNext 2 = .ok (.invokevirtual 19, 3) := by decide +kernel
theorem dX3_startOfNext_5 : decode cX3_startOfNext 5 = .ok (.astore_n 2, 1) := by decide +kernel
theorem dX3_startOfNext_6 : decode cX3_startOfNext 6 = .ok (.aload_n 2, 1) := by decide +kernel
theorem dX3_startOfNext_7 : decode cX3_startOfNext 7 = .ok (.ifnonnull 10, 3) := by decide +kernel
theorem dX3_startOfNext_10 : decode cX3_startOfNext 10 = .ok (.aload_n 0, 1) := by decide +kernel
theorem dX3_startOfNext_11 : decode cX3_startOfNext 11 = .ok (.getfield 15, 3) := by decide +kernel
theorem dX3_startOfNext_14 : decode cX3_startOfNext 14 = .ok (.goto 14, 3) := by decide +kernel
theorem dX3_startOfNext_17 : decode cX3_startOfNext 17 = .ok (.iload_n 1, 1) := by decide +kernel
theorem dX3_startOfNext_18 : decode cX3_startOfNext 18 = .ok (.aload_n 2, 1) := by decide +kernel
theorem dX3_startOfNext_19 : decode cX3_startOfNext 19 = .ok (.getfield 23, 3) := by decide +kernel
theorem dX3_startOfNext_22 : decode cX3_startOfNext 22 = .ok (.invokevirtual 33, 3) := by decide +kernel
theorem dX3_startOfNext_25 : decode cX3_startOfNext 25 = .ok (.iadd, 1) := by decide +kernel
theorem dX3_startOfNext_26 : decode cX3_startOfNext 26 = .ok (.iconst 1, 1) := by decide +kernel
theorem dX3_startOfNext_27 : decode cX3_startOfNext 27 = .ok (.iadd, 1) := by decide +kernel
theorem dX3_startOfNext_28 : decode cX3_startOfNext 28 = .ok (.ireturn, 1) := by decide +kernel
theorem dX3_at_0 : decode cX3_at 0 = .ok (.iload_n 1, 1) := by decide +kernel
theorem dX3_at_1 : decode cX3_at 1 = .ok (.ifCond .lt 29, 3) := by decide +kernel
theorem dX3_at_4 : decode cX3_at 4 = .ok (.iload_n 1, 1) := by decide +kernel
theorem dX3_at_5 : decode cX3_at 5 = .ok (.aload_n 0, 1) := by decide +kernel
theorem dX3_at_6 : decode cX3_at 6 = .ok (.getfield 15, 3) := by decide +kernel
theorem dX3_at_9 : decode cX3_at 9 = .ok (.if_icmp .ge 21, 3) := by decide +kernel
theorem dX3_at_12 : decode cX3_at 12 = .ok (.iload_n 1, 1) := by decide +kernel
theorem dX3_at_13 : decode cX3_at 13 = .ok (.aload_n 0, 1) := by decide +kernel
theorem dX3_at_14 : decode cX3_at 14 = .ok (.getfield 9, 3) := by decide +kernel
theorem dX3_at_17 : decode cX3_at 17 = .ok (.arraylength, 1) := by decide +kernel
theorem dX3_at_18 : decode cX3_at 18 = .ok (.if_icmp .ge 12, 3) := by decide +kernel
theorem dX3_at_21 : decode cX3_at 21 = .ok (.aload_n 0, 1) := by decide +kernel
theorem dX3_at_22 : decode cX3_at 22 = .ok (.getfield 9, 3) := by decide +kernel
theorem dX3_at_25 : decode cX3_at 25 = .ok (.iload_n 1, 1) := by decide +kernel
theorem dX3_at_26 : decode cX3_at 26 = .ok (.caload, 1) := by decide +kernel
theorem dX3_at_27 : decode cX3_at 27 = .ok (.goto 4, 3) := by decide +kernel
theorem dX3_at_30 : decode cX3_at 30 = .ok (.iconst 0, 1) := by decide +kernel
theorem dX3_at_31 : decode cX3_at 31 = .ok (.ireturn, 1) := by decide +kernel
theorem dX3_isAt_0 : decode cX3_isAt 0 = .ok (.iload_n 1, 1) := by decide +kernel
theorem dX3_isAt_1 : decode cX3_isAt 1 = .ok (.aload_n 0, 1) := by decide +kernel
theorem dX3_isAt_2 : decode cX3_isAt 2 = .ok (.getfield 15, 3) := by decide +kernel
theorem dX3_isAt_5 : decode cX3_isAt 5 = .ok (.if_icmp .ge 16, 3) := by decide +kernel
theorem dX3_isAt_8 : decode cX3_isAt 8 = .ok (.aload_n 0, 1) := by decide +kernel
theorem dX3_isAt_9 : decode cX3_isAt 9 = .ok (.iload_n 1, 1) := by decide +kernel
theorem dX3_isAt_10 : decode cX3_isAt 10 = .ok (.invokevirtual 58, 3) := by decide +kernel
theorem dX3_isAt_13 : decode cX3_isAt 13 = .ok (.iload_n 2, 1) := by decide +kernel
theorem dX3_isAt_14 : decode cX3_isAt 14 = .ok (.if_icmp .ne 7, 3) := by decide +kernel
theorem dX3_isAt_17 : decode cX3_isAt 17 = .ok (.iconst 1, 1) := by decide +kernel
theorem dX3_isAt_18 : decode cX3_isAt 18 = .ok (.goto 4, 3) := by decide +kernel
theorem dX3_isAt_21 : decode cX3_isAt 21 = .ok (.iconst 0, 1) := by decide +kernel
theorem dX3_isAt_22 : decode cX3_isAt 22 = .ok (.ireturn, 1) := by decide +kernel
theorem dX3_isDigitAt_0 : decode cX3_isDigitAt 0 = .ok (.aload_n 0, 1) := by decide +kernel
theorem dX3_isDigitAt_1 : decode cX3_isDigitAt 1 = .ok (.iload_n 1, 1) := by decide +kernel
theorem dX3_isDigitAt_2 : decode cX3_isDigitAt 2 = .ok (.invokevirtual 58, 3) := by decide +kernel
theorem dX3_isDigitAt_5 : decode cX3_isDigitAt 5 = .ok (.bipush 48, 2) := by decide +kernel
theorem dX3_isDigitAt_7 : decode cX3_isDigitAt 7 = .ok (.if_icmp .lt 17, 3) := by decide +kernel
theorem dX3_isDigitAt_10 : decode cX3_isDigitAt 10 = .ok (.aload_n 0, 1) := by decide +kernel
theorem dX3_isDigitAt_11 : decode cX3_isDigitAt 11 = .ok (.iload_n 1, 1) := by decide +kernel
theorem dX3_isDigitAt_12 : decode cX3_isDigitAt 12 = .ok (.invokevirtual 58, 3) := by decide +kernel
theorem dX3_isDigitAt_15 : decode cX3_isDigitAt 15 = .ok (.bipush 57, 2) := by decide +kernel
theorem dX3_isDigitAt_17 : decode cX3_isDigitAt 17 = .ok (.if_icmp .gt 7, 3) := by decide +kernel
theorem dX3_isDigitAt_20 : decode cX3_isDigitAt 20 = .ok (.iconst 1, 1) := by decide +kernel
theorem dX3_isDigitAt_21 : decode cX3_isDigitAt 21 = .ok (.goto 4, 3) := by decide +kernel
theorem dX3_isDigitAt_24 : decode cX3_isDigitAt 24 = .ok (.iconst 0, 1) := by decide +kernel
theorem dX3_isDigitAt_25 : decode cX3_isDigitAt 25 = .ok (.ireturn, 1) := by decide +kernel
theorem dX4_init_0 : decode cX4_init 0 = .ok (.aload_n 0, 1) := by decide +kernel
theorem dX4_init_1 : decode cX4_init 1 = .ok (.invokespecial 3, 3) := by decide +kernel
theorem dX4_init_4 : decode cX4_init 4 = .ok (.aload_n 0, 1) := by decide +kernel
theorem dX4_init_5 : decode cX4_init 5 = .ok (.bipush 48, 2) := by decide +kernel
theorem dX4_init_7 : decode cX4_init 7 = .ok (.newarray .int, 2) := by decide +kernel
theorem dX4_init_9 : decode cX4_init 9 = .ok (.putfield 9, 3) := by decide +kernel
theorem dX4_init_12 : decode cX4_init 12 = .ok (.aload_n 0, 1) := by decide +kernel
theorem dX4_init_13 : decode cX4_init 13 = .ok (.bipush 14, 2) := by decide +kernel
theorem dX4_init_15 : decode cX4_init 15 = .ok (.newarray .int, 2) := by decide +kernel
theorem dX4_init_17 : decode cX4_init 17 = .ok (.putfield 15, 3) := by decide +kernel
theorem dX4_init_20 : decode cX4_init 20 = .ok (.aload_n 0, 1) := by decide +kernel
theorem dX4_init_21 : decode cX4_init 21 = .ok (.bipush 14, 2) := by decide +kernel
theorem dX4_init_23 : decode cX4_init 23 = .ok (.newarray .int, 2) := by decide +kernel
theorem dX4_init_25 : decode cX4_init 25 = .ok (.putfield 18, 3) := by decide +kernel
theorem dX4_init_28 : decode cX4_init 28 = .ok (.aload_n 0, 1) := by decide +kernel
theorem dX4_init_29 : decode cX4_init 29 = .ok (.bipush 14, 2) := by decide +kernel
theorem dX4_init_31 : decode cX4_init 31 = .ok (.newarray .int, 2) := by decide +kernel
theorem dX4_init_33 : decode cX4_init 33 = .ok (.putfield 21, 3) := by decide +kernel
theorem dX4_init_36 : decode cX4_init 36 = .ok (.aload_n 0, 1) := by decide +kernel
theorem dX4_init_37 : decode cX4_init 37 = .ok (.iconst (-1), 1) := by decide +kernel
theorem dX4_init_38 : decode cX4_init 38 = .ok (.putfield 24, 3) := by decide +kernel
theorem dX4_init_41 : decode cX4_init 41 = .ok (.return_, 1) := by decide +kernel
theorem dX4_begin_0 : decode cX4_begin 0 = .ok (.aload_n 0, 1) := by decide +kernel
theorem dX4_begin_1 : decode cX4_begin 1 = .ok (.iload_n 1, 1) := by decide +kernel
theorem dX4_begin_2 : decode cX4_begin 2 = .ok (.putfield 28, 3) := by decide +kernel
theorem dX4_begin_5 : decode cX4_begin 5 = .ok (.aload_n 0, 1) := by decide +kernel
theorem dX4_begin_6 : decode cX4_begin 6 = .ok (.iload_n 2, 1) := by decide +kernel
theorem dX4_begin_7 : decode cX4_begin 7 = .ok (.putfield 31, 3) := by decide +kernel
theorem dX4_begin_10 : decode cX4_begin 10 = .ok (.aload_n 0, 1) := by decide +kernel
theorem dX4_begin_11 : decode cX4_begin 11 = .ok (.iconst 0, 1) := by decide +kernel
theorem dX4_begin_12 : decode cX4_begin 12 = .ok (.putfield 34, 3) := by decide +kernel
theorem dX4_begin_15 : decode cX4_begin 15 = .ok (.aload_n 0, 1) := by decide +kernel
theorem dX4_begin_16 : decode cX4_begin 16 = .ok (.iconst (-1), 1) := by decide +kernel
theorem dX4_begin_17 : decode cX4_begin 17 = .ok (.putfield 24, 3) := by decide +kernel
theorem dX4_begin_20 : decode cX4_begin 20 = .ok (.aload_n 0, 1) := by decide +kernel
theorem dX4_begin_21 : decode cX4_begin 21 = .ok (.iconst 0, 1) := by decide +kernel
theorem dX4_begin_22 : decode cX4_begin 22 = .ok (.putfield 38, 3) := by decide +kernel
theorem dX4_begin_25 : decode cX4_begin 25 = .ok (.aload_n 0, 1) := by decide +kernel
theorem dX4_begin_26 : decode cX4_begin 26 = .ok (.iconst 0, 1) := by decide +kernel
theorem dX4_begin_27 : decode cX4_begin 27 = .ok (.putfield 41, 3) := by decide +kernel
theorem dX4_begin_30 : decode cX4_begin 30 = .ok (.aload_n 0, 1) := by decide +kernel
theorem dX4_begin_31 : decode cX4_begin 31 = .ok (.getfield 9, 3) := by decide +kernel
theorem dX4_begin_34 : decode cX4_begin 34 = .ok (.invokestatic 44, 3) := by decide +kernel
theorem dX4_begin_37 : decode cX4_begin 37 = .ok (.aload_n 0, 1) := by decide +kernel
theorem dX4_begin_38 : decode cX4_begin 38 = .ok (.getfield 15, 3) := by decide +kernel
theorem dX4_begin_41 : decode cX4_begin 41 = .ok (.invokestatic 44, 3) := by decide +kernel
theorem dX4_begin_44 : decode cX4_begin 44 = .ok (.aload_n 0, 1) := by decide +kernel
theorem dX4_begin_45 : decode cX4_begin 45 = .ok (.getfield 18, 3) := by decide +kernel
theorem dX4_begin_48 : decode cX4_begin 48 = .ok (.invokestatic 44, 3) := by decide +kernel
theorem dX4_begin_51 : decode cX4_begin 51 = .ok (.aload_n 0, 1) := by decide +kernel
theorem dX4_begin_52 : decode cX4_begin 52 = .ok (.getfield 21, 3) := by decide +kernel
theorem dX4_begin_55 : decode cX4_begin 55 = .ok (.invokestatic 44, 3) := by decide +kernel
theorem dX4_begin_58 : decode cX4_begin 58 = .ok (.return_, 1) := by decide +kernel
theorem dX4_become_0 : decode cX4_become 0 = .ok (.aload_n 0, 1) := by decide +kernel
theorem dX4_become_1 : decode cX4_become 1 = .ok (.aload_n 1, 1) := by decide +kernel
theorem dX4_become_2 : decode cX4_become 2 = .ok (.getfield 28, 3) := by decide +kernel
theorem dX4_become_5 : decode cX4_become 5 = .ok (.putfield 28, 3) := by decide +kernel
theorem dX4_become_8 : decode cX4_become 8 = .ok (.aload_n 0, 1) := by decide +kernel
theorem dX4_become_9 : decode cX4_become 9 = .ok (.aload_n 1, 1) := by decide +kernel
theorem dX4_become_10 : decode cX4_become 10 = .ok (.getfield 31, 3) := by decide +kernel
theorem dX4_become_13 : decode cX4_become 13 = .ok (.putfield 31, 3) := by decide +kernel
theorem dX4_become_16 : decode cX4_become 16 = .ok (.aload_n 0, 1) := by decide +kernel
theorem dX4_become_17 : decode cX4_become 17 = .ok (.aload_n 1, 1) := by decide +kernel
theorem dX4_become_18 : decode cX4_become 18 = .ok (.getfield 34, 3) := by decide +kernel
theorem dX4_become_21 : decode cX4_become 21 = .ok (.putfield 34, 3) := by decide +kernel
theorem dX4_become_24 : decode cX4_become 24 = .ok (.aload_n 0, 1) := by decide +kernel
theorem dX4_become_25 : decode cX4_become 25 = .ok (.aload_n 1, 1) := by decide +kernel
theorem dX4_become_26 : decode cX4_become 26 = .ok (.getfield 24, 3) := by decide +kernel
theorem dX4_become_29 : decode cX4_become 29 = .ok (.putfield 24, 3) := by decide +kernel
theorem dX4_become_32 : decode cX4_become 32 = .ok (.aload_n 0, 1) := by decide +kernel
theorem dX4_become_33 : decode cX4_become 33 = .ok (.aload_n 1, 1) := by decide +kernel
theorem dX4_become_34 : decode cX4_become 34 = .ok (.getfield 38, 3) := by decide +kernel
theorem dX4_become_37 : decode cX4_become 37 = .ok (.putfield 38, 3) := by decide +kernel
theorem dX4_become_40 : decode cX4_become 40 = .ok (.aload_n 0, 1) := by decide +kernel
theorem dX4_become_41 : decode cX4_become 41 = .ok (.aload_n 1, 1) := by decide +kernel
theorem dX4_become_42 : decode cX4_become 42 = .ok (.getfield 41, 3) := by decide +kernel
theorem dX4_become_45 : decode cX4_become 45 = .ok (.putfield 41, 3) := by decide +kernel
theorem dX4_become_48 : decode cX4_become 48 = .ok (.aload_n 1, 1) := by decide +kernel
theorem dX4_become_49 : decode cX4_become 49 = .ok (.getfield 9, 3) := by decide +kernel
theorem dX4_become_52 : decode cX4_become 52 = .ok (.aload_n 0, 1) := by decide +kernel
theorem dX4_become_53 : decode cX4_become 53 = .ok (.getfield 9, 3) := by decide +kernel
theorem dX4_become_56 : decode cX4_become 56 = .ok (.invokestatic 48, 3) := by decide +kernel
theorem dX4_become_59 : decode cX4_become 59 = .ok (.aload_n 1, 1) := by decide +kernel
theorem dX4_become_60 : decode cX4_become 60 = .ok (.getfield 15, 3) := by decide +kernel
theorem dX4_become_63 : decode cX4_become 63 = .ok (.aload_n 0, 1) := by decide +kernel
theorem dX4_become_64 : decode cX4_become 64 = .ok (.getfield 15, 3) := by decide +kernel
theorem dX4_become_67 : decode cX4_become 67 = .ok (.invokestatic 48, 3) := by decide +kernel
theorem dX4_become_70 : decode cX4_become 70 = .ok (.aload_n 1, 1) := by decide +kernel
theorem dX4_become_71 : decode cX4_become 71 = .ok (.getfield 18, 3) := by decide +kernel
theorem dX4_become_74 : decode cX4_become 74 = .ok (.aload_n 0, 1) := by decide +kernel
theorem dX4_become_75 : decode cX4_become 75 = .ok (.getfield 18, 3) := by decide +kernel
theorem dX4_become_78 : decode cX4_become 78 = .ok (.invokestatic 48, 3) := by decide +kernel
theorem dX4_become_81 : decode cX4_become 81 = .ok (.aload_n 1, 1) := by decide +kernel
theorem dX4_become_82 : decode cX4_become 82 = .ok (.getfield 21, 3) := by decide +kernel
theorem dX4_become_85 : decode cX4_become 85 = .ok (.aload_n 0, 1) := by decide +kernel
theorem dX4_become_86 : decode cX4_become 86 = .ok (.getfield 21, 3) := by decide +kernel
theorem dX4_become_89 : decode cX4_become 89 = .ok (.invokestatic 48, 3) := by decide +kernel
theorem dX4_become_92 : decode cX4_become 92 = .ok (.return_, 1) := by decide +kernel
theorem dX4_countAsCopyOf_0 : decode cX4_countAsCopyOf 0 = .ok (.aload_n 0, 1) := by decide +kernel
theorem dX4_countAsCopyOf_1 : decode cX4_countAsCopyOf 1 = .ok (.iload_n 1, 1) := by decide +kernel
theorem dX4_countAsCopyOf_2 : decode cX4_countAsCopyOf 2 = .ok (.putfield 24, 3) := by decide +kernel
theorem dX4_countAsCopyOf_5 : decode cX4_countAsCopyOf 5 = .ok (.aload_n 0, 1) := by decide +kernel
theorem dX4_countAsCopyOf_6 : decode cX4_countAsCopyOf 6 = .ok (.iconst 0, 1) := by decide +kernel
theorem dX4_countAsCopyOf_7 : decode cX4_countAsCopyOf 7 = .ok (.putfield 38, 3) := by decide +kernel
theorem dX4_countAsCopyOf_10 : decode cX4_countAsCopyOf 10 = .ok (.aload_n 0, 1) := by decide +kernel
theorem dX4_countAsCopyOf_11 : decode cX4_countAsCopyOf 11 = .ok (.iconst 0, 1) := by decide +kernel
theorem dX4_countAsCopyOf_12 : decode cX4_countAsCopyOf 12 = .ok (.putfield 41, 3) := by decide +kernel
theorem dX4_countAsCopyOf_15 : decode cX4_countAsCopyOf 15 = .ok (.return_, 1) := by decide +kernel
theorem dX4_hasRow_0 : decode cX4_hasRow 0 = .ok (.iload_n 1, 1) := by decide +kernel
theorem dX4_hasRow_1 : decode cX4_hasRow 1 = .ok (.ifCond .lt 15, 3) := by decide +kernel
theorem dX4_hasRow_4 : decode cX4_hasRow 4 = .ok (.iload_n 1, 1) := by decide +kernel
theorem dX4_hasRow_5 : decode cX4_hasRow 5 = .ok (.aload_n 0, 1) := by decide +kernel
theorem dX4_hasRow_6 : decode cX4_hasRow 6 = .ok (.getfield 28, 3) := by decide +kernel
theorem dX4_hasRow_9 : decode cX4_hasRow 9 = .ok (.if_icmp .ge 7, 3) := by decide +kernel
theorem dX4_hasRow_12 : decode cX4_hasRow 12 = .ok (.iconst 1, 1) := by decide +kernel
theorem dX4_hasRow_13 : decode cX4_hasRow 13 = .ok (.goto 4, 3) := by decide +kernel
theorem dX4_hasRow_16 : decode cX4_hasRow 16 = .ok (.iconst 0, 1) := by decide +kernel
theorem dX4_hasRow_17 : decode cX4_hasRow 17 = .ok (.ireturn, 1) := by decide +kernel
theorem dX4_hasColumn_0 : decode cX4_hasColumn 0 = .ok (.iload_n 1, 1) := by decide +kernel
theorem dX4_hasColumn_1 : decode cX4_hasColumn 1 = .ok (.ifCond .lt 15, 3) := by decide +kernel
theorem dX4_hasColumn_4 : decode cX4_hasColumn 4 = .ok (.iload_n 1, 1) := by decide +kernel
theorem dX4_hasColumn_5 : decode cX4_hasColumn 5 = .ok (.aload_n 0, 1) := by decide +kernel
theorem dX4_hasColumn_6 : decode cX4_hasColumn 6 = .ok (.getfield 31, 3) := by decide +kernel
theorem dX4_hasColumn_9 : decode cX4_hasColumn 9 = .ok (.if_icmp .ge 7, 3) := by decide +kernel
theorem dX4_hasColumn_12 : decode cX4_hasColumn 12 = .ok (.iconst 1, 1) := by decide +kernel
theorem dX4_hasColumn_13 : decode cX4_hasColumn 13 = .ok (.goto 4, 3) := by decide +kernel
theorem dX4_hasColumn_16 : decode cX4_hasColumn 16 = .ok (.iconst 0, 1) := by decide +kernel
theorem dX4_hasColumn_17 : decode cX4_hasColumn 17 = .ok (.ireturn, 1) := by decide +kernel
theorem dX4_hasCell_0 : decode cX4_hasCell 0 = .ok (.aload_n 0, 1) := by decide +kernel
theorem dX4_hasCell_1 : decode cX4_hasCell 1 = .ok (.iload_n 1, 1) := by decide +kernel
theorem dX4_hasCell_2 : decode cX4_hasCell 2 = .ok (.invokevirtual 52, 3) := by decide +kernel
theorem dX4_hasCell_5 : decode cX4_hasCell 5 = .ok (.ifCond .eq 15, 3) := by decide +kernel
theorem dX4_hasCell_8 : decode cX4_hasCell 8 = .ok (.aload_n 0, 1) := by decide +kernel
theorem dX4_hasCell_9 : decode cX4_hasCell 9 = .ok (.iload_n 2, 1) := by decide +kernel
theorem dX4_hasCell_10 : decode cX4_hasCell 10 = .ok (.invokevirtual 56, 3) := by decide +kernel
theorem dX4_hasCell_13 : decode cX4_hasCell 13 = .ok (.ifCond .eq 7, 3) := by decide +kernel
theorem dX4_hasCell_16 : decode cX4_hasCell 16 = .ok (.iconst 1, 1) := by decide +kernel
theorem dX4_hasCell_17 : decode cX4_hasCell 17 = .ok (.goto 4, 3) := by decide +kernel
theorem dX4_hasCell_20 : decode cX4_hasCell 20 = .ok (.iconst 0, 1) := by decide +kernel
theorem dX4_hasCell_21 : decode cX4_hasCell 21 = .ok (.ireturn, 1) := by decide +kernel
theorem dX4_cells_0 : decode cX4_cells 0 = .ok (.aload_n 0, 1) := by decide +kernel
theorem dX4_cells_1 : decode cX4_cells 1 = .ok (.getfield 28, 3) := by decide +kernel
theorem dX4_cells_4 : decode cX4_cells 4 = .ok (.aload_n 0, 1) := by decide +kernel
theorem dX4_cells_5 : decode cX4_cells 5 = .ok (.getfield 31, 3) := by decide +kernel
theorem dX4_cells_8 : decode cX4_cells 8 = .ok (.imul, 1) := by decide +kernel
theorem dX4_cells_9 : decode cX4_cells 9 = .ok (.ireturn, 1) := by decide +kernel
theorem dX4_sign_0 : decode cX4_sign 0 = .ok (.aload_n 0, 1) := by decide +kernel
theorem dX4_sign_1 : decode cX4_sign 1 = .ok (.getfield 9, 3) := by decide +kernel
theorem dX4_sign_4 : decode cX4_sign 4 = .ok (.iload_n 1, 1) := by decide +kernel
theorem dX4_sign_5 : decode cX4_sign 5 = .ok (.bipush 8, 2) := by decide +kernel
theorem dX4_sign_7 : decode cX4_sign 7 = .ok (.imul, 1) := by decide +kernel
theorem dX4_sign_8 : decode cX4_sign 8 = .ok (.iload_n 2, 1) := by decide +kernel
theorem dX4_sign_9 : decode cX4_sign 9 = .ok (.iadd, 1) := by decide +kernel
theorem dX4_sign_10 : decode cX4_sign 10 = .ok (.invokestatic 59, 3) := by decide +kernel
theorem dX4_sign_13 : decode cX4_sign 13 = .ok (.ireturn, 1) := by decide +kernel
theorem dX4_isSmudged_0 : decode cX4_isSmudged 0 = .ok (.aload_n 0, 1) := by decide +kernel
theorem dX4_isSmudged_1 : decode cX4_isSmudged 1 = .ok (.iload_n 1, 1) := by decide +kernel
theorem dX4_isSmudged_2 : decode cX4_isSmudged 2 = .ok (.iload_n 2, 1) := by decide +kernel
theorem dX4_isSmudged_3 : decode cX4_isSmudged 3 = .ok (.invokevirtual 63, 3) := by decide +kernel
theorem dX4_isSmudged_6 : decode cX4_isSmudged 6 = .ok (.iconst (-1), 1) := by decide +kernel
theorem dX4_isSmudged_7 : decode cX4_isSmudged 7 = .ok (.if_icmp .ne 7, 3) := by decide +kernel
theorem dX4_isSmudged_10 : decode cX4_isSmudged 10 = .ok (.iconst 1, 1) := by decide +kernel
theorem dX4_isSmudged_11 : decode cX4_isSmudged 11 = .ok (.goto 4, 3) := by decide +kernel
theorem dX4_isSmudged_14 : decode cX4_isSmudged 14 = .ok (.iconst 0, 1) := by decide +kernel
theorem dX4_isSmudged_15 : decode cX4_isSmudged 15 = .ok (.ireturn, 1) := by decide +kernel
theorem dX4_setSign_0 : decode cX4_setSign 0 = .ok (.iload_n 1, 1) := by decide +kernel
theorem dX4_setSign_1 : decode cX4_setSign 1 = .ok (.bipush 8, 2) := by decide +kernel
theorem dX4_setSign_3 : decode cX4_setSign 3 = .ok (.imul, 1) := by decide +kernel
theorem dX4_setSign_4 : decode cX4_setSign 4 = .ok (.iload_n 2, 1) := by decide +kernel
theorem dX4_setSign_5 : decode cX4_setSign 5 = .ok (.iadd, 1) := by decide +kernel
theorem dX4_setSign_6 : decode cX4_setSign 6 = .ok (.istore 4, 2) := by decide +kernel
theorem dX4_setSign_8 : decode cX4_setSign 8 = .ok (.aload_n 0, 1) := by decide +kernel
theorem dX4_setSign_9 : decode cX4_setSign 9 = .ok (.getfield 9, 3) := by decide +kernel
theorem dX4_setSign_12 : decode cX4_setSign 12 = .ok (.iload 4, 2) := by decide +kernel
theorem dX4_setSign_14 : decode cX4_setSign 14 = .ok (.invokestatic 59, 3) := by decide +kernel
theorem dX4_setSign_17 : decode cX4_setSign 17 = .ok (.istore 5, 2) := by decide +kernel
theorem dX4_setSign_19 : decode cX4_setSign 19 = .ok (.iconst 0, 1) := by decide +kernel
theorem dX4_setSign_20 : decode cX4_setSign 20 = .ok (.iload_n 3, 1) := by decide +kernel
theorem dX4_setSign_21 : decode cX4_setSign 21 = .ok (.invokestatic 67, 3) := by decide +kernel
theorem dX4_setSign_24 : decode cX4_setSign 24 = .ok (.iconst 0, 1) := by decide +kernel
theorem dX4_setSign_25 : decode cX4_setSign 25 = .ok (.iload 5, 2) := by decide +kernel
theorem dX4_setSign_27 : decode cX4_setSign 27 = .ok (.invokestatic 67, 3) := by decide +kernel
theorem dX4_setSign_30 : decode cX4_setSign 30 = .ok (.isub, 1) := by decide +kernel
theorem dX4_setSign_31 : decode cX4_setSign 31 = .ok (.istore 6, 2) := by decide +kernel
theorem dX4_setSign_33 : decode cX4_setSign 33 = .ok (.iload_n 3, 1) := by decide +kernel
theorem dX4_setSign_34 : decode cX4_setSign 34 = .ok (.iconst (-1), 1) := by decide +kernel
theorem dX4_setSign_35 : decode cX4_setSign 35 = .ok (.if_icmp .ne 7, 3) := by decide +kernel
theorem dX4_setSign_38 : decode cX4_setSign 38 = .ok (.iconst 1, 1) := by decide +kernel
theorem dX4_setSign_39 : decode cX4_setSign 39 = .ok (.goto 4, 3) := by decide +kernel
theorem dX4_setSign_42 : decode cX4_setSign 42 = .ok (.iconst 0, 1) := by decide +kernel
theorem dX4_setSign_43 : decode cX4_setSign 43 = .ok (.iload 5, 2) := by decide +kernel
theorem dX4_setSign_45 : decode cX4_setSign 45 = .ok (.iconst (-1), 1) := by decide +kernel
theorem dX4_setSign_46 : decode cX4_setSign 46 = .ok (.if_icmp .ne 7, 3) := by decide +kernel
theorem dX4_setSign_49 : decode cX4_setSign 49 = .ok (.iconst 1, 1) := by decide +kernel
theorem dX4_setSign_50 : decode cX4_setSign 50 = .ok (.goto 4, 3) := by decide +kernel
theorem dX4_setSign_53 : decode cX4_setSign 53 = .ok (.iconst 0, 1) := by decide +kernel
theorem dX4_setSign_54 : decode cX4_setSign 54 = .ok (.isub, 1) := by decide +kernel
theorem dX4_setSign_55 : decode cX4_setSign 55 = .ok (.istore 7, 2) := by decide +kernel
theorem dX4_setSign_57 : decode cX4_setSign 57 = .ok (.aload_n 0, 1) := by decide +kernel
theorem dX4_setSign_58 : decode cX4_setSign 58 = .ok (.getfield 9, 3) := by decide +kernel
theorem dX4_setSign_61 : decode cX4_setSign 61 = .ok (.iload 4, 2) := by decide +kernel
theorem dX4_setSign_63 : decode cX4_setSign 63 = .ok (.iload_n 3, 1) := by decide +kernel
theorem dX4_setSign_64 : decode cX4_setSign 64 = .ok (.invokestatic 72, 3) := by decide +kernel
theorem dX4_setSign_67 : decode cX4_setSign 67 = .ok (.aload_n 0, 1) := by decide +kernel
theorem dX4_setSign_68 : decode cX4_setSign 68 = .ok (.getfield 15, 3) := by decide +kernel
theorem dX4_setSign_71 : decode cX4_setSign 71 = .ok (.iload_n 1, 1) := by decide +kernel
theorem dX4_setSign_72 : decode cX4_setSign 72 = .ok (.iload 6, 2) := by decide +kernel
theorem dX4_setSign_74 : decode cX4_setSign 74 = .ok (.invokestatic 76, 3) := by decide +kernel
theorem dX4_setSign_77 : decode cX4_setSign 77 = .ok (.aload_n 0, 1) := by decide +kernel
theorem dX4_setSign_78 : decode cX4_setSign 78 = .ok (.getfield 15, 3) := by decide +kernel
theorem dX4_setSign_81 : decode cX4_setSign 81 = .ok (.bipush 6, 2) := by decide +kernel
theorem dX4_setSign_83 : decode cX4_setSign 83 = .ok (.iload_n 2, 1) := by decide +kernel
theorem dX4_setSign_84 : decode cX4_setSign 84 = .ok (.iadd, 1) := by decide +kernel
theorem dX4_setSign_85 : decode cX4_setSign 85 = .ok (.iload 6, 2) := by decide +kernel
theorem dX4_setSign_87 : decode cX4_setSign 87 = .ok (.invokestatic 76, 3) := by decide +kernel
theorem dX4_setSign_90 : decode cX4_setSign 90 = .ok (.aload_n 0, 1) := by decide +kernel
theorem dX4_setSign_91 : decode cX4_setSign 91 = .ok (.getfield 18, 3) := by decide +kernel
theorem dX4_setSign_94 : decode cX4_setSign 94 = .ok (.iload_n 1, 1) := by decide +kernel
theorem dX4_setSign_95 : decode cX4_setSign 95 = .ok (.iload 7, 2) := by decide +kernel
theorem dX4_setSign_97 : decode cX4_setSign 97 = .ok (.invokestatic 76, 3) := by decide +kernel
theorem dX4_setSign_100 : decode cX4_setSign 100 = .ok (.aload_n 0, 1) := by decide +kernel
theorem dX4_setSign_101 : decode cX4_setSign 101 = .ok (.getfield 18, 3) := by decide +kernel
theorem dX4_setSign_104 : decode cX4_setSign 104 = .ok (.bipush 6, 2) := by decide +kernel
theorem dX4_setSign_106 : decode cX4_setSign 106 = .ok (.iload_n 2, 1) := by decide +kernel
theorem dX4_setSign_107 : decode cX4_setSign 107 = .ok (.iadd, 1) := by decide +kernel
theorem dX4_setSign_108 : decode cX4_setSign 108 = .ok (.iload 7, 2) := by decide +kernel
theorem dX4_setSign_110 : decode cX4_setSign 110 = .ok (.invokestatic 76, 3) := by decide +kernel
theorem dX4_setSign_113 : decode cX4_setSign 113 = .ok (.return_, 1) := by decide +kernel
theorem dX4_replaceSign_0 : decode cX4_replaceSign 0 = .ok (.aload_n 0, 1) := by decide +kernel
theorem dX4_replaceSign_1 : decode cX4_replaceSign 1 = .ok (.iload_n 1, 1) := by decide +kernel
theorem dX4_replaceSign_2 : decode cX4_replaceSign 2 = .ok (.iload_n 2, 1) := by decide +kernel
theorem dX4_replaceSign_3 : decode cX4_replaceSign 3 = .ok (.invokevirtual 63, 3) := by decide +kernel
theorem dX4_replaceSign_6 : decode cX4_replaceSign 6 = .ok (.istore 4, 2) := by decide +kernel
theorem dX4_replaceSign_8 : decode cX4_replaceSign 8 = .ok (.aload_n 0, 1) := by decide +kernel
theorem dX4_replaceSign_9 : decode cX4_replaceSign 9 = .ok (.iload_n 1, 1) := by decide +kernel
theorem dX4_replaceSign_10 : decode cX4_replaceSign 10 = .ok (.iload_n 2, 1) := by decide +kernel
theorem dX4_replaceSign_11 : decode cX4_replaceSign 11 = .ok (.iload_n 3, 1) := by decide +kernel
theorem dX4_replaceSign_12 : decode cX4_replaceSign 12 = .ok (.invokevirtual 79, 3) := by decide +kernel
theorem dX4_replaceSign_15 : decode cX4_replaceSign 15 = .ok (.iload 4, 2) := by decide +kernel
theorem dX4_replaceSign_17 : decode cX4_replaceSign 17 = .ok (.ireturn, 1) := by decide +kernel
theorem dX4_letSlip_0 : decode cX4_letSlip 0 = .ok (.aload_n 0, 1) := by decide +kernel
theorem dX4_letSlip_1 : decode cX4_letSlip 1 = .ok (.iload_n 1, 1) := by decide +kernel
theorem dX4_letSlip_2 : decode cX4_letSlip 2 = .ok (.iload_n 2, 1) := by decide +kernel
theorem dX4_letSlip_3 : decode cX4_letSlip 3 = .ok (.invokevirtual 63, 3) := by decide +kernel
theorem dX4_letSlip_6 : decode cX4_letSlip 6 = .ok (.iload_n 3, 1) := by decide +kernel
theorem dX4_letSlip_7 : decode cX4_letSlip 7 = .ok (.iadd, 1) := by decide +kernel
theorem dX4_letSlip_8 : decode cX4_letSlip 8 = .ok (.bipush 10, 2) := by decide +kernel
theorem dX4_letSlip_10 : decode cX4_letSlip 10 = .ok (.irem, 1) := by decide +kernel
theorem dX4_letSlip_11 : decode cX4_letSlip 11 = .ok (.istore 4, 2) := by decide +kernel
theorem dX4_letSlip_13 : decode cX4_letSlip 13 = .ok (.aload_n 0, 1) := by decide +kernel
theorem dX4_letSlip_14 : decode cX4_letSlip 14 = .ok (.iload_n 1, 1) := by decide +kernel
theorem dX4_letSlip_15 : decode cX4_letSlip 15 = .ok (.iload_n 2, 1) := by decide +kernel
theorem dX4_letSlip_16 : decode cX4_letSlip 16 = .ok (.iload 4, 2) := by decide +kernel
theorem dX4_letSlip_18 : decode cX4_letSlip 18 = .ok (.invokevirtual 79, 3) := by decide +kernel
theorem dX4_letSlip_21 : decode cX4_letSlip 21 = .ok (.iload 4, 2) := by decide +kernel
theorem dX4_letSlip_23 : decode cX4_letSlip 23 = .ok (.ireturn, 1) := by decide +kernel
theorem dX4_smudgedCells_0 : decode cX4_smudgedCells 0 = .ok (.iconst 0, 1) := by decide +kernel
theorem dX4_smudgedCells_1 : decode cX4_smudgedCells 1 = .ok (.istore_n 1, 1) := by decide +kernel
theorem dX4_smudgedCells_2 : decode cX4_smudgedCells 2 = .ok (.iconst 0, 1) := by decide +kernel
theorem dX4_smudgedCells_3 : decode cX4_smudgedCells 3 = .ok (.istore_n 2, 1) := by decide +kernel
theorem dX4_smudgedCells_4 : decode cX4_smudgedCells 4 = .ok (.iload_n 2, 1) := by decide +kernel
theorem dX4_smudgedCells_5 : decode cX4_smudgedCells 5 = .ok (.aload_n 0, 1) := by decide +kernel
theorem dX4_smudgedCells_6 : decode cX4_smudgedCells 6 = .ok (.getfield 28, 3) := by decide +kernel
theorem dX4_smudgedCells_9 : decode cX4_smudgedCells 9 = .ok (.if_icmp .ge 20, 3) := by decide +kernel
theorem dX4_smudgedCells_12 : decode cX4_smudgedCells 12 = .ok (.iload_n 1, 1) := by decide +kernel
theorem dX4_smudgedCells_13 : decode cX4_smudgedCells 13 = .ok (.aload_n 0, 1) := by decide +kernel
theorem dX4_smudgedCells_14 : decode cX4_smudgedCells 14 = .ok (.getfield 18, 3) := by decide +kernel
theorem dX4_smudgedCells_17 : decode cX4_smudgedCells 17 = .ok (.iload_n 2, 1) := by decide +kernel
theorem dX4_smudgedCells_18 : decode cX4_smudgedCells 18 = .ok (.invokestatic 59, 3) := by decide +kernel
theorem dX4_smudgedCells_21 : decode cX4_smudgedCells 21 = .ok (.iadd, 1) := by decide +kernel
theorem dX4_smudgedCells_22 : decode cX4_smudgedCells 22 = .ok (.istore_n 1, 1) := by decide +kernel
theorem dX4_smudgedCells_23 : decode cX4_smudgedCells 23 = .ok (.iinc 2 1, 3) := by decide +kernel
theorem dX4_smudgedCells_26 : decode cX4_smudgedCells 26 = .ok (.goto (-22), 3) := by decide +kernel
theorem dX4_smudgedCells_29 : decode cX4_smudgedCells 29 = .ok (.iload_n 1, 1) := by decide +kernel
theorem dX4_smudgedCells_30 : decode cX4_smudgedCells 30 = .ok (.ireturn, 1) := by decide +kernel
theorem dX4_allSigns_0 : decode cX4_allSigns 0 = .ok (.iconst 0, 1) := by decide +kernel
theorem dX4_allSigns_1 : decode cX4_allSigns 1 = .ok (.istore_n 1, 1) := by decide +kernel
theorem dX4_allSigns_2 : decode cX4_allSigns 2 = .ok (.iconst 0, 1) := by decide +kernel
theorem dX4_allSigns_3 : decode cX4_allSigns 3 = .ok (.istore_n 2, 1) := by decide +kernel
theorem dX4_allSigns_4 : decode cX4_allSigns 4 = .ok (.iload_n 2, 1) := by decide +kernel
theorem dX4_allSigns_5 : decode cX4_allSigns 5 = .ok (.aload_n 0, 1) := by decide +kernel
theorem dX4_allSigns_6 : decode cX4_allSigns 6 = .ok (.getfield 28, 3) := by decide +kernel
theorem dX4_allSigns_9 : decode cX4_allSigns 9 = .ok (.if_icmp .ge 20, 3) := by decide +kernel
theorem dX4_allSigns_12 : decode cX4_allSigns 12 = .ok (.iload_n 1, 1) := by decide +kernel
theorem dX4_allSigns_13 : decode cX4_allSigns 13 = .ok (.aload_n 0, 1) := by decide +kernel
theorem dX4_allSigns_14 : decode cX4_allSigns 14 = .ok (.getfield 15, 3) := by decide +kernel
theorem dX4_allSigns_17 : decode cX4_allSigns 17 = .ok (.iload_n 2, 1) := by decide +kernel
theorem dX4_allSigns_18 : decode cX4_allSigns 18 = .ok (.invokestatic 59, 3) := by decide +kernel
theorem dX4_allSigns_21 : decode cX4_allSigns 21 = .ok (.iadd, 1) := by decide +kernel
theorem dX4_allSigns_22 : decode cX4_allSigns 22 = .ok (.istore_n 1, 1) := by decide +kernel
theorem dX4_allSigns_23 : decode cX4_allSigns 23 = .ok (.iinc 2 1, 3) := by decide +kernel
theorem dX4_allSigns_26 : decode cX4_allSigns 26 = .ok (.goto (-22), 3) := by decide +kernel
theorem dX4_allSigns_29 : decode cX4_allSigns 29 = .ok (.iload_n 1, 1) := by decide +kernel
theorem dX4_allSigns_30 : decode cX4_allSigns 30 = .ok (.ireturn, 1) := by decide +kernel
theorem dX4_howOften_0 : decode cX4_howOften 0 = .ok (.iconst 0, 1) := by decide +kernel
theorem dX4_howOften_1 : decode cX4_howOften 1 = .ok (.istore_n 2, 1) := by decide +kernel
theorem dX4_howOften_2 : decode cX4_howOften 2 = .ok (.iconst 0, 1) := by decide +kernel
theorem dX4_howOften_3 : decode cX4_howOften 3 = .ok (.istore_n 3, 1) := by decide +kernel
theorem dX4_howOften_4 : decode cX4_howOften 4 = .ok (.iload_n 3, 1) := by decide +kernel
theorem dX4_howOften_5 : decode cX4_howOften 5 = .ok (.aload_n 0, 1) := by decide +kernel
theorem dX4_howOften_6 : decode cX4_howOften 6 = .ok (.getfield 28, 3) := by decide +kernel
theorem dX4_howOften_9 : decode cX4_howOften 9 = .ok (.if_icmp .ge 46, 3) := by decide +kernel
theorem dX4_howOften_12 : decode cX4_howOften 12 = .ok (.iconst 0, 1) := by decide +kernel
theorem dX4_howOften_13 : decode cX4_howOften 13 = .ok (.istore 4, 2) := by decide +kernel
theorem dX4_howOften_15 : decode cX4_howOften 15 = .ok (.iload 4, 2) := by decide +kernel
theorem dX4_howOften_17 : decode cX4_howOften 17 = .ok (.aload_n 0, 1) := by decide +kernel
theorem dX4_howOften_18 : decode cX4_howOften 18 = .ok (.getfield 31, 3) := by decide +kernel
theorem dX4_howOften_21 : decode cX4_howOften 21 = .ok (.if_icmp .ge 28, 3) := by decide +kernel
theorem dX4_howOften_24 : decode cX4_howOften 24 = .ok (.iload_n 2, 1) := by decide +kernel
theorem dX4_howOften_25 : decode cX4_howOften 25 = .ok (.aload_n 0, 1) := by decide +kernel
theorem dX4_howOften_26 : decode cX4_howOften 26 = .ok (.iload_n 3, 1) := by decide +kernel
theorem dX4_howOften_27 : decode cX4_howOften 27 = .ok (.iload 4, 2) := by decide +kernel
theorem dX4_howOften_29 : decode cX4_howOften 29 = .ok (.invokevirtual 63, 3) := by decide +kernel
theorem dX4_howOften_32 : decode cX4_howOften 32 = .ok (.iload_n 1, 1) := by decide +kernel
theorem dX4_howOften_33 : decode cX4_howOften 33 = .ok (.if_icmp .ne 7, 3) := by decide +kernel
theorem dX4_howOften_36 : decode cX4_howOften 36 = .ok (.iconst 1, 1) := by decide +kernel
theorem dX4_howOften_37 : decode cX4_howOften 37 = .ok (.goto 4, 3) := by decide +kernel
theorem dX4_howOften_40 : decode cX4_howOften 40 = .ok (.iconst 0, 1) := by decide +kernel
theorem dX4_howOften_41 : decode cX4_howOften 41 = .ok (.iadd, 1) := by decide +kernel
theorem dX4_howOften_42 : decode cX4_howOften 42 = .ok (.istore_n 2, 1) := by decide +kernel
theorem dX4_howOften_43 : decode cX4_howOften 43 = .ok (.iinc 4 1, 3) := by decide +kernel
theorem dX4_howOften_46 : decode cX4_howOften 46 = .ok (.goto (-31), 3) := by decide +kernel
theorem dX4_howOften_49 : decode cX4_howOften 49 = .ok (.iinc 3 1, 3) := by decide +kernel
theorem dX4_howOften_52 : decode cX4_howOften 52 = .ok (.goto (-48), 3) := by decide +kernel
theorem dX4_howOften_55 : decode cX4_howOften 55 = .ok (.iload_n 2, 1) := by decide +kernel
theorem dX4_howOften_56 : decode cX4_howOften 56 = .ok (.ireturn, 1) := by decide +kernel
theorem dX4_differencesTo_0 : decode cX4_differencesTo 0 = .ok (.iconst 0, 1) := by decide +kernel
theorem dX4_differencesTo_1 : decode cX4_differencesTo 1 = .ok (.istore_n 2, 1) := by decide +kernel
theorem dX4_differencesTo_2 : decode cX4_differencesTo 2 = .ok (.iconst 0, 1) := by decide +kernel
theorem dX4_differencesTo_3 : decode cX4_differencesTo 3 = .ok (.istore_n 3, 1) := by decide +kernel
theorem dX4_differencesTo_4 : decode cX4_differencesTo 4 = .ok (.iload_n 3, 1) := by decide +kernel
theorem dX4_differencesTo_5 : decode cX4_differencesTo 5 = .ok (.aload_n 0, 1) := by decide +kernel
theorem dX4_differencesTo_6 : decode cX4_differencesTo 6 = .ok (.getfield 28, 3) := by decide +kernel
theorem dX4_differencesTo_9 : decode cX4_differencesTo 9 = .ok (.if_icmp .ge 52, 3) := by decide +kernel
theorem dX4_differencesTo_12 : decode cX4_differencesTo 12 = .ok (.iconst 0, 1) := by decide +kernel
theorem dX4_differencesTo_13 : decode cX4_differencesTo 13 = .ok (.istore 4, 2) := by decide +kernel
theorem dX4_differencesTo_15 : decode cX4_differencesTo 15 = .ok (.iload 4, 2) := by decide +kernel
theorem dX4_differencesTo_17 : decode cX4_differencesTo 17 = .ok (.aload_n 0, 1) := by decide +kernel
theorem dX4_differencesTo_18 : decode cX4_differencesTo 18 = .ok (.getfield 31, 3) := by decide +kernel
theorem dX4_differencesTo_21 : decode cX4_differencesTo 21 = .ok (.if_icmp .ge 34, 3) := by decide +kernel
theorem dX4_differencesTo_24 : decode cX4_differencesTo 24 = .ok (.iload_n 2, 1) := by decide +kernel
theorem dX4_differencesTo_25 : decode cX4_differencesTo 25 = .ok (.aload_n 0, 1) := by decide +kernel
theorem dX4_differencesTo_26 : decode cX4_differencesTo 26 = .ok (.iload_n 3, 1) := by decide +kernel
theorem dX4_differencesTo_27 : decode cX4_differencesTo 27 = .ok (.iload 4, 2) := by decide +kernel
theorem dX4_differencesTo_29 : decode cX4_differencesTo 29 = .ok (.invokevirtual 63, 3) := by decide +kernel
theorem dX4_differencesTo_32 : decode cX4_differencesTo 32 = .ok (.aload_n 1, 1) := by decide +kernel
theorem dX4_differencesTo_33 : decode cX4_differencesTo 33 = .ok (.iload_n 3, 1) := by decide +kernel
theorem dX4_differencesTo_34 : decode cX4_differencesTo 34 = .ok (.iload 4, 2) := by decide +kernel
theorem dX4_differencesTo_36 : decode cX4_differencesTo 36 = .ok (.invokevirtual 63, 3) := by decide +kernel
theorem dX4_differencesTo_39 : decode cX4_differencesTo 39 = .ok (.if_icmp .ne 7, 3) := by decide +kernel
theorem dX4_differencesTo_42 : decode cX4_differencesTo 42 = .ok (.iconst 0, 1) := by decide +kernel
theorem dX4_differencesTo_43 : decode cX4_differencesTo 43 = .ok (.goto 4, 3) := by decide +kernel
theorem dX4_differencesTo_46 : decode cX4_differencesTo 46 = .ok (.iconst 1, 1) := by decide +kernel
theorem dX4_differencesTo_47 : decode cX4_differencesTo 47 = .ok (.iadd, 1) := by decide +kernel
theorem dX4_differencesTo_48 : decode cX4_differencesTo 48 = .ok (.istore_n 2, 1) := by decide +kernel
theorem dX4_differencesTo_49 : decode cX4_differencesTo 49 = .ok (.iinc 4 1, 3) := by decide +kernel
theorem dX4_differencesTo_52 : decode cX4_differencesTo 52 = .ok (.goto (-37), 3) := by decide +kernel
theorem dX4_differencesTo_55 : decode cX4_differencesTo 55 = .ok (.iinc 3 1, 3) := by decide +kernel
theorem dX4_differencesTo_58 : decode cX4_differencesTo 58 = .ok (.goto (-54), 3) := by decide +kernel
theorem dX4_differencesTo_61 : decode cX4_differencesTo 61 = .ok (.iload_n 2, 1) := by decide +kernel
theorem dX4_differencesTo_62 : decode cX4_differencesTo 62 = .ok (.ireturn, 1) := by decide +kernel
theorem dX4_writeRowOn_0 : decode cX4_writeRowOn 0 = .ok (.iconst 0, 1) := by decide +kernel
theorem dX4_writeRowOn_1 : decode cX4_writeRowOn 1 = .ok (.istore_n 3, 1) := by decide +kernel
theorem dX4_writeRowOn_2 : decode cX4_writeRowOn 2 = .ok (.iload_n 3, 1) := by decide +kernel
theorem dX4_writeRowOn_3 : decode cX4_writeRowOn 3 = .ok (.aload_n 0, 1) := by decide +kernel
theorem dX4_writeRowOn_4 : decode cX4_writeRowOn 4 = .ok (.getfield 31, 3) := by decide +kernel
theorem dX4_writeRowOn_7 : decode cX4_writeRowOn 7 = .ok (.if_icmp .ge 38, 3) := by decide +kernel
theorem dX4_writeRowOn_10 : decode cX4_writeRowOn 10 = .ok (.aload_n 1, 1) := by decide +kernel
theorem dX4_writeRowOn_11 : decode cX4_writeRowOn 11 = .ok (.aload_n 0, 1) := by decide +kernel
theorem dX4_writeRowOn_12 : decode cX4_writeRowOn 12 = .ok (.iload_n 2, 1) := by decide +kernel
theorem dX4_writeRowOn_13 : decode cX4_writeRowOn 13 = .ok (.iload_n 3, 1) := by decide +kernel
theorem dX4_writeRowOn_14 : decode cX4_writeRowOn 14 = .ok (.invokevirtual 83, 3) := by decide +kernel
theorem dX4_writeRowOn_17 : decode cX4_writeRowOn 17 = .ok (.ifCond .eq 8, 3) := by decide +kernel
theorem dX4_writeRowOn_20 : decode cX4_writeRowOn 20 = .ok (.bipush 63, 2) := by decide +kernel
theorem dX4_writeRowOn_22 : decode cX4_writeRowOn 22 = .ok (.goto 13, 3) := by decide +kernel
theorem dX4_writeRowOn_25 : decode cX4_writeRowOn 25 = .ok (.bipush 48, 2) := by decide +kernel
theorem dX4_writeRowOn_27 : decode cX4_writeRowOn 27 = .ok (.aload_n 0, 1) := by decide +kernel
theorem dX4_writeRowOn_28 : decode cX4_writeRowOn 28 = .ok (.iload_n 2, 1) := by decide +kernel
theorem dX4_writeRowOn_29 : decode cX4_writeRowOn 29 = .ok (.iload_n 3, 1) := by decide +kernel
theorem dX4_writeRowOn_30 : decode cX4_writeRowOn 30 = .ok (.invokevirtual 63, 3) := by decide +kernel
theorem dX4_writeRowOn_33 : decode cX4_writeRowOn 33 = .ok (.iadd, 1) := by decide +kernel
theorem dX4_writeRowOn_34 : decode cX4_writeRowOn 34 = .ok (.i2c, 1) := by decide +kernel
theorem dX4_writeRowOn_35 : decode cX4_writeRowOn 35 = .ok (.invokevirtual 87, 3) := by decide +kernel
theorem dX4_writeRowOn_38 : decode cX4_writeRowOn 38 = .ok (.pop, 1) := by decide +kernel
theorem dX4_writeRowOn_39 : decode cX4_writeRowOn 39 = .ok (.iinc 3 1, 3) := by decide +kernel
theorem dX4_writeRowOn_42 : decode cX4_writeRowOn 42 = .ok (.goto (-40), 3) := by decide +kernel
theorem dX4_writeRowOn_45 : decode cX4_writeRowOn 45 = .ok (.aload_n 0, 1) := by decide +kernel
theorem dX4_writeRowOn_46 : decode cX4_writeRowOn 46 = .ok (.getfield 34, 3) := by decide +kernel
theorem dX4_writeRowOn_49 : decode cX4_writeRowOn 49 = .ok (.ifCond .eq 24, 3) := by decide +kernel
theorem dX4_writeRowOn_52 : decode cX4_writeRowOn 52 = .ok (.aload_n 1, 1) := by decide +kernel
theorem dX4_writeRowOn_53 : decode cX4_writeRowOn 53 = .ok (.bipush 124, 2) := by decide +kernel
theorem dX4_writeRowOn_55 : decode cX4_writeRowOn 55 = .ok (.invokevirtual 87, 3) := by decide +kernel
theorem dX4_writeRowOn_58 : decode cX4_writeRowOn 58 = .ok (.pop, 1) := by decide +kernel
theorem dX4_writeRowOn_59 : decode cX4_writeRowOn 59 = .ok (.aload_n 1, 1) := by decide +kernel
theorem dX4_writeRowOn_60 : decode cX4_writeRowOn 60 = .ok (.bipush 48, 2) := by decide +kernel
theorem dX4_writeRowOn_62 : decode cX4_writeRowOn 62 = .ok (.aload_n 0, 1) := by decide +kernel
theorem dX4_writeRowOn_63 : decode cX4_writeRowOn 63 = .ok (.iload_n 2, 1) := by decide +kernel
theorem dX4_writeRowOn_64 : decode cX4_writeRowOn 64 = .ok (.invokevirtual 93, 3) := by decide +kernel
theorem dX4_writeRowOn_67 : decode cX4_writeRowOn 67 = .ok (.iadd, 1) := by decide +kernel
theorem dX4_writeRowOn_68 : decode cX4_writeRowOn 68 = .ok (.i2c, 1) := by decide +kernel
theorem dX4_writeRowOn_69 : decode cX4_writeRowOn 69 = .ok (.invokevirtual 87, 3) := by decide +kernel
theorem dX4_writeRowOn_72 : decode cX4_writeRowOn 72 = .ok (.pop, 1) := by decide +kernel
theorem dX4_writeRowOn_73 : decode cX4_writeRowOn 73 = .ok (.aload_n 0, 1) := by decide +kernel
theorem dX4_writeRowOn_74 : decode cX4_writeRowOn 74 = .ok (.iload_n 2, 1) := by decide +kernel
theorem dX4_writeRowOn_75 : decode cX4_writeRowOn 75 = .ok (.invokevirtual 97, 3) := by decide +kernel
theorem dX4_writeRowOn_78 : decode cX4_writeRowOn 78 = .ok (.ifCond .eq 10, 3) := by decide +kernel
theorem dX4_writeRowOn_81 : decode cX4_writeRowOn 81 = .ok (.aload_n 1, 1) := by decide +kernel
theorem dX4_writeRowOn_82 : decode cX4_writeRowOn 82 = .ok (.bipush 33, 2) := by decide +kernel
theorem dX4_writeRowOn_84 : decode cX4_writeRowOn 84 = .ok (.invokevirtual 87, 3) := by decide +kernel
theorem dX4_writeRowOn_87 : decode cX4_writeRowOn 87 = .ok (.pop, 1) := by decide +kernel
theorem dX4_writeRowOn_88 : decode cX4_writeRowOn 88 = .ok (.return_, 1) := by decide +kernel
theorem dX4_tellSums_0 : decode cX4_tellSums 0 = .ok (.iconst 0, 1) := by decide +kernel
theorem dX4_tellSums_1 : decode cX4_tellSums 1 = .ok (.istore_n 1, 1) := by decide +kernel
theorem dX4_tellSums_2 : decode cX4_tellSums 2 = .ok (.iconst 0, 1) := by decide +kernel
theorem dX4_tellSums_3 : decode cX4_tellSums 3 = .ok (.istore_n 2, 1) := by decide +kernel
theorem dX4_tellSums_4 : decode cX4_tellSums 4 = .ok (.iload_n 2, 1) := by decide +kernel
theorem dX4_tellSums_5 : decode cX4_tellSums 5 = .ok (.bipush 14, 2) := by decide +kernel
theorem dX4_tellSums_7 : decode cX4_tellSums 7 = .ok (.if_icmp .ge 44, 3) := by decide +kernel
theorem dX4_tellSums_10 : decode cX4_tellSums 10 = .ok (.aload_n 0, 1) := by decide +kernel
theorem dX4_tellSums_11 : decode cX4_tellSums 11 = .ok (.getfield 15, 3) := by decide +kernel
theorem dX4_tellSums_14 : decode cX4_tellSums 14 = .ok (.iload_n 2, 1) := by decide +kernel
theorem dX4_tellSums_15 : decode cX4_tellSums 15 = .ok (.invokestatic 59, 3) := by decide +kernel
theorem dX4_tellSums_18 : decode cX4_tellSums 18 = .ok (.bipush 10, 2) := by decide +kernel
theorem dX4_tellSums_20 : decode cX4_tellSums 20 = .ok (.irem, 1) := by decide +kernel
theorem dX4_tellSums_21 : decode cX4_tellSums 21 = .ok (.istore_n 3, 1) := by decide +kernel
theorem dX4_tellSums_22 : decode cX4_tellSums 22 = .ok (.aload_n 0, 1) := by decide +kernel
theorem dX4_tellSums_23 : decode cX4_tellSums 23 = .ok (.getfield 21, 3) := by decide +kernel
theorem dX4_tellSums_26 : decode cX4_tellSums 26 = .ok (.iload_n 2, 1) := by decide +kernel
theorem dX4_tellSums_27 : decode cX4_tellSums 27 = .ok (.iload_n 3, 1) := by decide +kernel
theorem dX4_tellSums_28 : decode cX4_tellSums 28 = .ok (.invokestatic 72, 3) := by decide +kernel
theorem dX4_tellSums_31 : decode cX4_tellSums 31 = .ok (.iload_n 1, 1) := by decide +kernel
theorem dX4_tellSums_32 : decode cX4_tellSums 32 = .ok (.iload_n 2, 1) := by decide +kernel
theorem dX4_tellSums_33 : decode cX4_tellSums 33 = .ok (.bipush 6, 2) := by decide +kernel
theorem dX4_tellSums_35 : decode cX4_tellSums 35 = .ok (.if_icmp .ge 7, 3) := by decide +kernel
theorem dX4_tellSums_38 : decode cX4_tellSums 38 = .ok (.iload_n 3, 1) := by decide +kernel
theorem dX4_tellSums_39 : decode cX4_tellSums 39 = .ok (.goto 4, 3) := by decide +kernel
theorem dX4_tellSums_42 : decode cX4_tellSums 42 = .ok (.iconst 0, 1) := by decide +kernel
theorem dX4_tellSums_43 : decode cX4_tellSums 43 = .ok (.iadd, 1) := by decide +kernel
theorem dX4_tellSums_44 : decode cX4_tellSums 44 = .ok (.istore_n 1, 1) := by decide +kernel
theorem dX4_tellSums_45 : decode cX4_tellSums 45 = .ok (.iinc 2 1, 3) := by decide +kernel
theorem dX4_tellSums_48 : decode cX4_tellSums 48 = .ok (.goto (-44), 3) := by decide +kernel
theorem dX4_tellSums_51 : decode cX4_tellSums 51 = .ok (.aload_n 0, 1) := by decide +kernel
theorem dX4_tellSums_52 : decode cX4_tellSums 52 = .ok (.iconst 1, 1) := by decide +kernel
theorem dX4_tellSums_53 : decode cX4_tellSums 53 = .ok (.putfield 34, 3) := by decide +kernel
theorem dX4_tellSums_56 : decode cX4_tellSums 56 = .ok (.iload_n 1, 1) := by decide +kernel
theorem dX4_tellSums_57 : decode cX4_tellSums 57 = .ok (.ireturn, 1) := by decide +kernel
theorem dX4_toldSum_0 : decode cX4_toldSum 0 = .ok (.aload_n 0, 1) := by decide +kernel
theorem dX4_toldSum_1 : decode cX4_toldSum 1 = .ok (.getfield 21, 3) := by decide +kernel
theorem dX4_toldSum_4 : decode cX4_toldSum 4 = .ok (.iload_n 1, 1) := by decide +kernel
theorem dX4_toldSum_5 : decode cX4_toldSum 5 = .ok (.invokestatic 59, 3) := by decide +kernel
theorem dX4_toldSum_8 : decode cX4_toldSum 8 = .ok (.ireturn, 1) := by decide +kernel
theorem dX4_fault_0 : decode cX4_fault 0 = .ok (.aload_n 0, 1) := by decide +kernel
theorem dX4_fault_1 : decode cX4_fault 1 = .ok (.getfield 21, 3) := by decide +kernel
theorem dX4_fault_4 : decode cX4_fault 4 = .ok (.iload_n 1, 1) := by decide +kernel
theorem dX4_fault_5 : decode cX4_fault 5 = .ok (.invokestatic 59, 3) := by decide +kernel
theorem dX4_fault_8 : decode cX4_fault 8 = .ok (.aload_n 0, 1) := by decide +kernel
theorem dX4_fault_9 : decode cX4_fault 9 = .ok (.getfield 15, 3) := by decide +kernel
theorem dX4_fault_12 : decode cX4_fault 12 = .ok (.iload_n 1, 1) := by decide +kernel
theorem dX4_fault_13 : decode cX4_fault 13 = .ok (.invokestatic 59, 3) := by decide +kernel
theorem dX4_fault_16 : decode cX4_fault 16 = .ok (.bipush 10, 2) := by decide +kernel
theorem dX4_fault_18 : decode cX4_fault 18 = .ok (.irem, 1) := by decide +kernel
theorem dX4_fault_19 : decode cX4_fault 19 = .ok (.isub, 1) := by decide +kernel
theorem dX4_fault_20 : decode cX4_fault 20 = .ok (.bipush 10, 2) := by decide +kernel
theorem dX4_fault_22 : decode cX4_fault 22 = .ok (.iadd, 1) := by decide +kernel
theorem dX4_fault_23 : decode cX4_fault 23 = .ok (.bipush 10, 2) := by decide +kernel
theorem dX4_fault_25 : decode cX4_fault 25 = .ok (.irem, 1) := by decide +kernel
theorem dX4_fault_26 : decode cX4_fault 26 = .ok (.ireturn, 1) := by decide +kernel
theorem dX4_isWrong_0 : decode cX4_isWrong 0 = .ok (.aload_n 0, 1) := by decide +kernel
theorem dX4_isWrong_1 : decode cX4_isWrong 1 = .ok (.getfield 34, 3) := by decide +kernel
theorem dX4_isWrong_4 : decode cX4_isWrong 4 = .ok (.ifCond .eq 40, 3) := by decide +kernel
theorem dX4_isWrong_7 : decode cX4_isWrong 7 = .ok (.aload_n 0, 1) := by decide +kernel
theorem dX4_isWrong_8 : decode cX4_isWrong 8 = .ok (.getfield 18, 3) := by decide +kernel
theorem dX4_isWrong_11 : decode cX4_isWrong 11 = .ok (.iload_n 1, 1) := by decide +kernel
theorem dX4_isWrong_12 : decode cX4_isWrong 12 = .ok (.invokestatic 59, 3) := by decide +kernel
theorem dX4_isWrong_15 : decode cX4_isWrong 15 = .ok (.ifCond .ne 29, 3) := by decide +kernel
theorem dX4_isWrong_18 : decode cX4_isWrong 18 = .ok (.aload_n 0, 1) := by decide +kernel
theorem dX4_isWrong_19 : decode cX4_isWrong 19 = .ok (.getfield 21, 3) := by decide +kernel
theorem dX4_isWrong_22 : decode cX4_isWrong 22 = .ok (.iload_n 1, 1) := by decide +kernel
theorem dX4_isWrong_23 : decode cX4_isWrong 23 = .ok (.invokestatic 59, 3) := by decide +kernel
theorem dX4_isWrong_26 : decode cX4_isWrong 26 = .ok (.aload_n 0, 1) := by decide +kernel
theorem dX4_isWrong_27 : decode cX4_isWrong 27 = .ok (.getfield 15, 3) := by decide +kernel
theorem dX4_isWrong_30 : decode cX4_isWrong 30 = .ok (.iload_n 1, 1) := by decide +kernel
theorem dX4_isWrong_31 : decode cX4_isWrong 31 = .ok (.invokestatic 59, 3) := by decide +kernel
theorem dX4_isWrong_34 : decode cX4_isWrong 34 = .ok (.bipush 10, 2) := by decide +kernel
theorem dX4_isWrong_36 : decode cX4_isWrong 36 = .ok (.irem, 1) := by decide +kernel
theorem dX4_isWrong_37 : decode cX4_isWrong 37 = .ok (.if_icmp .eq 7, 3) := by decide +kernel
theorem dX4_isWrong_40 : decode cX4_isWrong 40 = .ok (.iconst 1, 1) := by decide +kernel
theorem dX4_isWrong_41 : decode cX4_isWrong 41 = .ok (.goto 4, 3) := by decide +kernel
theorem dX4_isWrong_44 : decode cX4_isWrong 44 = .ok (.iconst 0, 1) := by decide +kernel
theorem dX4_isWrong_45 : decode cX4_isWrong 45 = .ok (.ireturn, 1) := by decide +kernel
theorem dX4_rowsWrong_0 : decode cX4_rowsWrong 0 = .ok (.iconst 0, 1) := by decide +kernel
theorem dX4_rowsWrong_1 : decode cX4_rowsWrong 1 = .ok (.istore_n 1, 1) := by decide +kernel
theorem dX4_rowsWrong_2 : decode cX4_rowsWrong 2 = .ok (.iconst 0, 1) := by decide +kernel
theorem dX4_rowsWrong_3 : decode cX4_rowsWrong 3 = .ok (.istore_n 2, 1) := by decide +kernel
theorem dX4_rowsWrong_4 : decode cX4_rowsWrong 4 = .ok (.iload_n 2, 1) := by decide +kernel
theorem dX4_rowsWrong_5 : decode cX4_rowsWrong 5 = .ok (.bipush 6, 2) := by decide +kernel
theorem dX4_rowsWrong_7 : decode cX4_rowsWrong 7 = .ok (.if_icmp .ge 25, 3) := by decide +kernel
theorem dX4_rowsWrong_10 : decode cX4_rowsWrong 10 = .ok (.iload_n 1, 1) := by decide +kernel
theorem dX4_rowsWrong_11 : decode cX4_rowsWrong 11 = .ok (.aload_n 0, 1) := by decide +kernel
theorem dX4_rowsWrong_12 : decode cX4_rowsWrong 12 = .ok (.iload_n 2, 1) := by decide +kernel
theorem dX4_rowsWrong_13 : decode cX4_rowsWrong 13 = .ok (.invokevirtual 97, 3) := by decide +kernel
theorem dX4_rowsWrong_16 : decode cX4_rowsWrong 16 = .ok (.ifCond .eq 7, 3) := by decide +kernel
theorem dX4_rowsWrong_19 : decode cX4_rowsWrong 19 = .ok (.iconst 1, 1) := by decide +kernel
theorem dX4_rowsWrong_20 : decode cX4_rowsWrong 20 = .ok (.goto 4, 3) := by decide +kernel
theorem dX4_rowsWrong_23 : decode cX4_rowsWrong 23 = .ok (.iconst 0, 1) := by decide +kernel
theorem dX4_rowsWrong_24 : decode cX4_rowsWrong 24 = .ok (.iadd, 1) := by decide +kernel
theorem dX4_rowsWrong_25 : decode cX4_rowsWrong 25 = .ok (.istore_n 1, 1) := by decide +kernel
theorem dX4_rowsWrong_26 : decode cX4_rowsWrong 26 = .ok (.iinc 2 1, 3) := by decide +kernel
theorem dX4_rowsWrong_29 : decode cX4_rowsWrong 29 = .ok (.goto (-25), 3) := by decide +kernel
theorem dX4_rowsWrong_32 : decode cX4_rowsWrong 32 = .ok (.iload_n 1, 1) := by decide +kernel
theorem dX4_rowsWrong_33 : decode cX4_rowsWrong 33 = .ok (.ireturn, 1) := by decide +kernel
theorem dX4_columnsWrong_0 : decode cX4_columnsWrong 0 = .ok (.iconst 0, 1) := by decide +kernel
theorem dX4_columnsWrong_1 : decode cX4_columnsWrong 1 = .ok (.istore_n 1, 1) := by decide +kernel
theorem dX4_columnsWrong_2 : decode cX4_columnsWrong 2 = .ok (.bipush 6, 2) := by decide +kernel
theorem dX4_columnsWrong_4 : decode cX4_columnsWrong 4 = .ok (.istore_n 2, 1) := by decide +kernel
theorem dX4_columnsWrong_5 : decode cX4_columnsWrong 5 = .ok (.iload_n 2, 1) := by decide +kernel
theorem dX4_columnsWrong_6 : decode cX4_columnsWrong 6 = .ok (.bipush 14, 2) := by decide +kernel
theorem dX4_columnsWrong_8 : decode cX4_columnsWrong 8 = .ok (.if_icmp .ge 25, 3) := by decide +kernel
theorem dX4_columnsWrong_11 : decode cX4_columnsWrong 11 = .ok (.iload_n 1, 1) := by decide +kernel
theorem dX4_columnsWrong_12 : decode cX4_columnsWrong 12 = .ok (.aload_n 0, 1) := by decide +kernel
theorem dX4_columnsWrong_13 : decode cX4_columnsWrong 13 = .ok (.iload_n 2, 1) := by decide +kernel
theorem dX4_columnsWrong_14 : decode cX4_columnsWrong 14 = .ok (.invokevirtual 97, 3) := by decide +kernel
theorem dX4_columnsWrong_17 : decode cX4_columnsWrong 17 = .ok (.ifCond .eq 7, 3) := by decide +kernel
theorem dX4_columnsWrong_20 : decode cX4_columnsWrong 20 = .ok (.iconst 1, 1) := by decide +kernel
theorem dX4_columnsWrong_21 : decode cX4_columnsWrong 21 = .ok (.goto 4, 3) := by decide +kernel
theorem dX4_columnsWrong_24 : decode cX4_columnsWrong 24 = .ok (.iconst 0, 1) := by decide +kernel
theorem dX4_columnsWrong_25 : decode cX4_columnsWrong 25 = .ok (.iadd, 1) := by decide +kernel
theorem dX4_columnsWrong_26 : decode cX4_columnsWrong 26 = .ok (.istore_n 1, 1) := by decide +kernel
theorem dX4_columnsWrong_27 : decode cX4_columnsWrong 27 = .ok (.iinc 2 1, 3) := by decide +kernel
theorem dX4_columnsWrong_30 : decode cX4_columnsWrong 30 = .ok (.goto (-25), 3) := by decide +kernel
theorem dX4_columnsWrong_33 : decode cX4_columnsWrong 33 = .ok (.iload_n 1, 1) := by decide +kernel
theorem dX4_columnsWrong_34 : decode cX4_columnsWrong 34 = .ok (.ireturn, 1) := by decide +kernel
theorem dX4_firstWrongFrom_0 : decode cX4_firstWrongFrom 0 = .ok (.iload_n 1, 1) := by decide +kernel
theorem dX4_firstWrongFrom_1 : decode cX4_firstWrongFrom 1 = .ok (.istore_n 2, 1) := by decide +kernel
theorem dX4_firstWrongFrom_2 : decode cX4_firstWrongFrom 2 = .ok (.iload_n 2, 1) := by decide +kernel
theorem dX4_firstWrongFrom_3 : decode cX4_firstWrongFrom 3 = .ok (.bipush 14, 2) := by decide +kernel
theorem dX4_firstWrongFrom_5 : decode cX4_firstWrongFrom 5 = .ok (.if_icmp .ge 19, 3) := by decide +kernel
theorem dX4_firstWrongFrom_8 : decode cX4_firstWrongFrom 8 = .ok (.aload_n 0, 1) := by decide +kernel
theorem dX4_firstWrongFrom_9 : decode cX4_firstWrongFrom 9 = .ok (.iload_n 2, 1) := by decide +kernel
theorem dX4_firstWrongFrom_10 : decode cX4_firstWrongFrom 10 = .ok (.invokevirtual 97, 3) := by decide +kernel
theorem dX4_firstWrongFrom_13 : decode cX4_firstWrongFrom 13 = .ok (.ifCond .eq 5, 3) := by decide +kernel
theorem dX4_firstWrongFrom_16 : decode cX4_firstWrongFrom 16 = .ok (.iload_n 2, 1) := by decide +kernel
theorem dX4_firstWrongFrom_17 : decode cX4_firstWrongFrom 17 = .ok (.ireturn, 1) := by decide +kernel
theorem dX4_firstWrongFrom_18 : decode cX4_firstWrongFrom 18 = .ok (.iinc 2 1, 3) := by decide +kernel
theorem dX4_firstWrongFrom_21 : decode cX4_firstWrongFrom 21 = .ok (.goto (-19), 3) := by decide +kernel
theorem dX4_firstWrongFrom_24 : decode cX4_firstWrongFrom 24 = .ok (.iconst (-1), 1) := by decide +kernel
theorem dX4_firstWrongFrom_25 : decode cX4_firstWrongFrom 25 = .ok (.ireturn, 1) := by decide +kernel
theorem dX4_isAllRight_0 : decode cX4_isAllRight 0 = .ok (.aload_n 0, 1) := by decide +kernel
theorem dX4_isAllRight_1 : decode cX4_isAllRight 1 = .ok (.iconst 0, 1) := by decide +kernel
theorem dX4_isAllRight_2 : decode cX4_isAllRight 2 = .ok (.invokevirtual 100, 3) := by decide +kernel
theorem dX4_isAllRight_5 : decode cX4_isAllRight 5 = .ok (.iconst (-1), 1) := by decide +kernel
theorem dX4_isAllRight_6 : decode cX4_isAllRight 6 = .ok (.if_icmp .ne 7, 3) := by decide +kernel
theorem dX4_isAllRight_9 : decode cX4_isAllRight 9 = .ok (.iconst 1, 1) := by decide +kernel
theorem dX4_isAllRight_10 : decode cX4_isAllRight 10 = .ok (.goto 4, 3) := by decide +kernel
theorem dX4_isAllRight_13 : decode cX4_isAllRight 13 = .ok (.iconst 0, 1) := by decide +kernel
theorem dX4_isAllRight_14 : decode cX4_isAllRight 14 = .ok (.ireturn, 1) := by decide +kernel
theorem dX4_hasToldSums_0 : decode cX4_hasToldSums 0 = .ok (.iconst 0, 1) := by decide +kernel
theorem dX4_hasToldSums_1 : decode cX4_hasToldSums 1 = .ok (.istore_n 1, 1) := by decide +kernel
theorem dX4_hasToldSums_2 : decode cX4_hasToldSums 2 = .ok (.iload_n 1, 1) := by decide +kernel
theorem dX4_hasToldSums_3 : decode cX4_hasToldSums 3 = .ok (.bipush 14, 2) := by decide +kernel
theorem dX4_hasToldSums_5 : decode cX4_hasToldSums 5 = .ok (.if_icmp .ge 83, 3) := by decide +kernel
theorem dX4_hasToldSums_8 : decode cX4_hasToldSums 8 = .ok (.iconst 0, 1) := by decide +kernel
theorem dX4_hasToldSums_9 : decode cX4_hasToldSums 9 = .ok (.istore_n 2, 1) := by decide +kernel
theorem dX4_hasToldSums_10 : decode cX4_hasToldSums 10 = .ok (.iconst 0, 1) := by decide +kernel
theorem dX4_hasToldSums_11 : decode cX4_hasToldSums 11 = .ok (.istore_n 3, 1) := by decide +kernel
theorem dX4_hasToldSums_12 : decode cX4_hasToldSums 12 = .ok (.iload_n 3, 1) := by decide +kernel
theorem dX4_hasToldSums_13 : decode cX4_hasToldSums 13 = .ok (.aload_n 0, 1) := by decide +kernel
theorem dX4_hasToldSums_14 : decode cX4_hasToldSums 14 = .ok (.getfield 28, 3) := by decide +kernel
theorem dX4_hasToldSums_17 : decode cX4_hasToldSums 17 = .ok (.if_icmp .ge 51, 3) := by decide +kernel
theorem dX4_hasToldSums_20 : decode cX4_hasToldSums 20 = .ok (.iconst 0, 1) := by decide +kernel
theorem dX4_hasToldSums_21 : decode cX4_hasToldSums 21 = .ok (.istore 4, 2) := by decide +kernel
theorem dX4_hasToldSums_23 : decode cX4_hasToldSums 23 = .ok (.iload 4, 2) := by decide +kernel
theorem dX4_hasToldSums_25 : decode cX4_hasToldSums 25 = .ok (.aload_n 0, 1) := by decide +kernel
theorem dX4_hasToldSums_26 : decode cX4_hasToldSums 26 = .ok (.getfield 31, 3) := by decide +kernel
theorem dX4_hasToldSums_29 : decode cX4_hasToldSums 29 = .ok (.if_icmp .ge 33, 3) := by decide +kernel
theorem dX4_hasToldSums_32 : decode cX4_hasToldSums 32 = .ok (.iload_n 2, 1) := by decide +kernel
theorem dX4_hasToldSums_33 : decode cX4_hasToldSums 33 = .ok (.iload_n 3, 1) := by decide +kernel
theorem dX4_hasToldSums_34 : decode cX4_hasToldSums 34 = .ok (.iload 4, 2) := by decide +kernel
theorem dX4_hasToldSums_36 : decode cX4_hasToldSums 36 = .ok (.iload_n 1, 1) := by decide +kernel
theorem dX4_hasToldSums_37 : decode cX4_hasToldSums 37 = .ok (.invokestatic 103, 3) := by decide +kernel
theorem dX4_hasToldSums_40 : decode cX4_hasToldSums 40 = .ok (.ifCond .eq 13, 3) := by decide +kernel
theorem dX4_hasToldSums_43 : decode cX4_hasToldSums 43 = .ok (.aload_n 0, 1) := by decide +kernel
theorem dX4_hasToldSums_44 : decode cX4_hasToldSums 44 = .ok (.iload_n 3, 1) := by decide +kernel
theorem dX4_hasToldSums_45 : decode cX4_hasToldSums 45 = .ok (.iload 4, 2) := by decide +kernel
theorem dX4_hasToldSums_47 : decode cX4_hasToldSums 47 = .ok (.invokevirtual 63, 3) := by decide +kernel
theorem dX4_hasToldSums_50 : decode cX4_hasToldSums 50 = .ok (.goto 4, 3) := by decide +kernel
theorem dX4_hasToldSums_53 : decode cX4_hasToldSums 53 = .ok (.iconst 0, 1) := by decide +kernel
theorem dX4_hasToldSums_54 : decode cX4_hasToldSums 54 = .ok (.iadd, 1) := by decide +kernel
theorem dX4_hasToldSums_55 : decode cX4_hasToldSums 55 = .ok (.istore_n 2, 1) := by decide +kernel
theorem dX4_hasToldSums_56 : decode cX4_hasToldSums 56 = .ok (.iinc 4 1, 3) := by decide +kernel
theorem dX4_hasToldSums_59 : decode cX4_hasToldSums 59 = .ok (.goto (-36), 3) := by decide +kernel
theorem dX4_hasToldSums_62 : decode cX4_hasToldSums 62 = .ok (.iinc 3 1, 3) := by decide +kernel
theorem dX4_hasToldSums_65 : decode cX4_hasToldSums 65 = .ok (.goto (-53), 3) := by decide +kernel
theorem dX4_hasToldSums_68 : decode cX4_hasToldSums 68 = .ok (.iload_n 2, 1) := by decide +kernel
theorem dX4_hasToldSums_69 : decode cX4_hasToldSums 69 = .ok (.bipush 10, 2) := by decide +kernel
theorem dX4_hasToldSums_71 : decode cX4_hasToldSums 71 = .ok (.irem, 1) := by decide +kernel
theorem dX4_hasToldSums_72 : decode cX4_hasToldSums 72 = .ok (.aload_n 0, 1) := by decide +kernel
theorem dX4_hasToldSums_73 : decode cX4_hasToldSums 73 = .ok (.iload_n 1, 1) := by decide +kernel
theorem dX4_hasToldSums_74 : decode cX4_hasToldSums 74 = .ok (.invokevirtual 93, 3) := by decide +kernel
theorem dX4_hasToldSums_77 : decode cX4_hasToldSums 77 = .ok (.if_icmp .eq 5, 3) := by decide +kernel
theorem dX4_hasToldSums_80 : decode cX4_hasToldSums 80 = .ok (.iconst 0, 1) := by decide +kernel
theorem dX4_hasToldSums_81 : decode cX4_hasToldSums 81 = .ok (.ireturn, 1) := by decide +kernel
theorem dX4_hasToldSums_82 : decode cX4_hasToldSums 82 = .ok (.iinc 1 1, 3) := by decide +kernel
theorem dX4_hasToldSums_85 : decode cX4_hasToldSums 85 = .ok (.goto (-83), 3) := by decide +kernel
theorem dX4_hasToldSums_88 : decode cX4_hasToldSums 88 = .ok (.iconst 1, 1) := by decide +kernel
theorem dX4_hasToldSums_89 : decode cX4_hasToldSums 89 = .ok (.ireturn, 1) := by decide +kernel
theorem dX4_isInBand_0 : decode cX4_isInBand 0 = .ok (.iload_n 0, 1) := by decide +kernel
theorem dX4_isInBand_1 : decode cX4_isInBand 1 = .ok (.iload_n 2, 1) := by decide +kernel
theorem dX4_isInBand_2 : decode cX4_isInBand 2 = .ok (.if_icmp .eq 11, 3) := by decide +kernel
theorem dX4_isInBand_5 : decode cX4_isInBand 5 = .ok (.bipush 6, 2) := by decide +kernel
theorem dX4_isInBand_7 : decode cX4_isInBand 7 = .ok (.iload_n 1, 1) := by decide +kernel
theorem dX4_isInBand_8 : decode cX4_isInBand 8 = .ok (.iadd, 1) := by decide +kernel
theorem dX4_isInBand_9 : decode cX4_isInBand 9 = .ok (.iload_n 2, 1) := by decide +kernel
theorem dX4_isInBand_10 : decode cX4_isInBand 10 = .ok (.if_icmp .ne 7, 3) := by decide +kernel
theorem dX4_isInBand_13 : decode cX4_isInBand 13 = .ok (.iconst 1, 1) := by decide +kernel
theorem dX4_isInBand_14 : decode cX4_isInBand 14 = .ok (.goto 4, 3) := by decide +kernel
theorem dX4_isInBand_17 : decode cX4_isInBand 17 = .ok (.iconst 0, 1) := by decide +kernel
theorem dX4_isInBand_18 : decode cX4_isInBand 18 = .ok (.ireturn, 1) := by decide +kernel
theorem dX4_isDoubtful_0 : decode cX4_isDoubtful 0 = .ok (.aload_n 0, 1) := by decide +kernel
theorem dX4_isDoubtful_1 : decode cX4_isDoubtful 1 = .ok (.iload_n 1, 1) := by decide +kernel
theorem dX4_isDoubtful_2 : decode cX4_isDoubtful 2 = .ok (.iload_n 2, 1) := by decide +kernel
theorem dX4_isDoubtful_3 : decode cX4_isDoubtful 3 = .ok (.invokevirtual 63, 3) := by decide +kernel
theorem dX4_isDoubtful_6 : decode cX4_isDoubtful 6 = .ok (.iconst (-1), 1) := by decide +kernel
theorem dX4_isDoubtful_7 : decode cX4_isDoubtful 7 = .ok (.if_icmp .eq 22, 3) := by decide +kernel
theorem dX4_isDoubtful_10 : decode cX4_isDoubtful 10 = .ok (.aload_n 0, 1) := by decide +kernel
theorem dX4_isDoubtful_11 : decode cX4_isDoubtful 11 = .ok (.iload_n 1, 1) := by decide +kernel
theorem dX4_isDoubtful_12 : decode cX4_isDoubtful 12 = .ok (.invokevirtual 97, 3) := by decide +kernel
theorem dX4_isDoubtful_15 : decode cX4_isDoubtful 15 = .ok (.ifCond .eq 18, 3) := by decide +kernel
theorem dX4_isDoubtful_18 : decode cX4_isDoubtful 18 = .ok (.aload_n 0, 1) := by decide +kernel
theorem dX4_isDoubtful_19 : decode cX4_isDoubtful 19 = .ok (.bipush 6, 2) := by decide +kernel
theorem dX4_isDoubtful_21 : decode cX4_isDoubtful 21 = .ok (.iload_n 2, 1) := by decide +kernel
theorem dX4_isDoubtful_22 : decode cX4_isDoubtful 22 = .ok (.iadd, 1) := by decide +kernel
theorem dX4_isDoubtful_23 : decode cX4_isDoubtful 23 = .ok (.invokevirtual 97, 3) := by decide +kernel
theorem dX4_isDoubtful_26 : decode cX4_isDoubtful 26 = .ok (.ifCond .eq 7, 3) := by decide +kernel
theorem dX4_isDoubtful_29 : decode cX4_isDoubtful 29 = .ok (.iconst 1, 1) := by decide +kernel
theorem dX4_isDoubtful_30 : decode cX4_isDoubtful 30 = .ok (.goto 4, 3) := by decide +kernel
theorem dX4_isDoubtful_33 : decode cX4_isDoubtful 33 = .ok (.iconst 0, 1) := by decide +kernel
theorem dX4_isDoubtful_34 : decode cX4_isDoubtful 34 = .ok (.ireturn, 1) := by decide +kernel
theorem dX4_doubtsByCell_0 : decode cX4_doubtsByCell 0 = .ok (.iconst 0, 1) := by decide +kernel
theorem dX4_doubtsByCell_1 : decode cX4_doubtsByCell 1 = .ok (.istore_n 1, 1) := by decide +kernel
theorem dX4_doubtsByCell_2 : decode cX4_doubtsByCell 2 = .ok (.iconst 0, 1) := by decide +kernel
theorem dX4_doubtsByCell_3 : decode cX4_doubtsByCell 3 = .ok (.istore_n 2, 1) := by decide +kernel
theorem dX4_doubtsByCell_4 : decode cX4_doubtsByCell 4 = .ok (.iload_n 2, 1) := by decide +kernel
theorem dX4_doubtsByCell_5 : decode cX4_doubtsByCell 5 = .ok (.aload_n 0, 1) := by decide +kernel
theorem dX4_doubtsByCell_6 : decode cX4_doubtsByCell 6 = .ok (.getfield 28, 3) := by decide +kernel
theorem dX4_doubtsByCell_9 : decode cX4_doubtsByCell 9 = .ok (.if_icmp .ge 42, 3) := by decide +kernel
theorem dX4_doubtsByCell_12 : decode cX4_doubtsByCell 12 = .ok (.iconst 0, 1) := by decide +kernel
theorem dX4_doubtsByCell_13 : decode cX4_doubtsByCell 13 = .ok (.istore_n 3, 1) := by decide +kernel
theorem dX4_doubtsByCell_14 : decode cX4_doubtsByCell 14 = .ok (.iload_n 3, 1) := by decide +kernel
theorem dX4_doubtsByCell_15 : decode cX4_doubtsByCell 15 = .ok (.aload_n 0, 1) := by decide +kernel
theorem dX4_doubtsByCell_16 : decode cX4_doubtsByCell 16 = .ok (.getfield 31, 3) := by decide +kernel
theorem dX4_doubtsByCell_19 : decode cX4_doubtsByCell 19 = .ok (.if_icmp .ge 26, 3) := by decide +kernel
theorem dX4_doubtsByCell_22 : decode cX4_doubtsByCell 22 = .ok (.iload_n 1, 1) := by decide +kernel
theorem dX4_doubtsByCell_23 : decode cX4_doubtsByCell 23 = .ok (.aload_n 0, 1) := by decide +kernel
theorem dX4_doubtsByCell_24 : decode cX4_doubtsByCell 24 = .ok (.iload_n 2, 1) := by decide +kernel
theorem dX4_doubtsByCell_25 : decode cX4_doubtsByCell 25 = .ok (.iload_n 3, 1) := by decide +kernel
theorem dX4_doubtsByCell_26 : decode cX4_doubtsByCell 26 = .ok (.invokevirtual 107, 3) := by decide +kernel
theorem dX4_doubtsByCell_29 : decode cX4_doubtsByCell 29 = .ok (.ifCond .eq 7, 3) := by decide +kernel
theorem dX4_doubtsByCell_32 : decode cX4_doubtsByCell 32 = .ok (.iconst 1, 1) := by decide +kernel
theorem dX4_doubtsByCell_33 : decode cX4_doubtsByCell 33 = .ok (.goto 4, 3) := by decide +kernel
theorem dX4_doubtsByCell_36 : decode cX4_doubtsByCell 36 = .ok (.iconst 0, 1) := by decide +kernel
theorem dX4_doubtsByCell_37 : decode cX4_doubtsByCell 37 = .ok (.iadd, 1) := by decide +kernel
theorem dX4_doubtsByCell_38 : decode cX4_doubtsByCell 38 = .ok (.istore_n 1, 1) := by decide +kernel
theorem dX4_doubtsByCell_39 : decode cX4_doubtsByCell 39 = .ok (.iinc 3 1, 3) := by decide +kernel
theorem dX4_doubtsByCell_42 : decode cX4_doubtsByCell 42 = .ok (.goto (-28), 3) := by decide +kernel
theorem dX4_doubtsByCell_45 : decode cX4_doubtsByCell 45 = .ok (.iinc 2 1, 3) := by decide +kernel
theorem dX4_doubtsByCell_48 : decode cX4_doubtsByCell 48 = .ok (.goto (-44), 3) := by decide +kernel
theorem dX4_doubtsByCell_51 : decode cX4_doubtsByCell 51 = .ok (.iload_n 1, 1) := by decide +kernel
theorem dX4_doubtsByCell_52 : decode cX4_doubtsByCell 52 = .ok (.ireturn, 1) := by decide +kernel
theorem dX4_doubtsByProduct_0 : decode cX4_doubtsByProduct 0 = .ok (.aload_n 0, 1) := by decide +kernel
theorem dX4_doubtsByProduct_1 : decode cX4_doubtsByProduct 1 = .ok (.invokevirtual 110, 3) := by decide +kernel
theorem dX4_doubtsByProduct_4 : decode cX4_doubtsByProduct 4 = .ok (.aload_n 0, 1) := by decide +kernel
theorem dX4_doubtsByProduct_5 : decode cX4_doubtsByProduct 5 = .ok (.invokevirtual 114, 3) := by decide +kernel
theorem dX4_doubtsByProduct_8 : decode cX4_doubtsByProduct 8 = .ok (.aload_n 0, 1) := by decide +kernel
theorem dX4_doubtsByProduct_9 : decode cX4_doubtsByProduct 9 = .ok (.invokevirtual 117, 3) := by decide +kernel
theorem dX4_doubtsByProduct_12 : decode cX4_doubtsByProduct 12 = .ok (.imul, 1) := by decide +kernel
theorem dX4_doubtsByProduct_13 : decode cX4_doubtsByProduct 13 = .ok (.iadd, 1) := by decide +kernel
theorem dX4_doubtsByProduct_14 : decode cX4_doubtsByProduct 14 = .ok (.ireturn, 1) := by decide +kernel
theorem dX4_obstacleToSealing_0 : decode cX4_obstacleToSealing 0 = .ok (.aload_n 0, 1) := by decide +kernel
theorem dX4_obstacleToSealing_1 : decode cX4_obstacleToSealing 1 = .ok (.invokevirtual 110, 3) := by decide +kernel
theorem dX4_obstacleToSealing_4 : decode cX4_obstacleToSealing 4 = .ok (.istore_n 1, 1) := by decide +kernel
theorem dX4_obstacleToSealing_5 : decode cX4_obstacleToSealing 5 = .ok (.iload_n 1, 1) := by decide +kernel
theorem dX4_obstacleToSealing_6 : decode cX4_obstacleToSealing 6 = .ok (.ifCond .le 11, 3) := by decide +kernel
theorem dX4_obstacleToSealing_9 : decode cX4_obstacleToSealing 9 = .ok (.iconst 2, 1) := by decide +kernel
theorem dX4_obstacleToSealing_10 : decode cX4_obstacleToSealing 10 = .ok (.iload_n 1, 1) := by decide +kernel
theorem dX4_obstacleToSealing_11 : decode cX4_obstacleToSealing 11 = .ok (.invokestatic 120, 3) := by decide +kernel
theorem dX4_obstacleToSealing_14 : decode cX4_obstacleToSealing 14 = .ok (.goto 4, 3) := by decide +kernel
theorem dX4_obstacleToSealing_17 : decode cX4_obstacleToSealing 17 = .ok (.iconst 0, 1) := by decide +kernel
theorem dX4_obstacleToSealing_18 : decode cX4_obstacleToSealing 18 = .ok (.ireturn, 1) := by decide +kernel
theorem dX4_obstacleToTouching_0 : decode cX4_obstacleToTouching 0 = .ok (.aload_n 0, 1) := by decide +kernel
theorem dX4_obstacleToTouching_1 : decode cX4_obstacleToTouching 1 = .ok (.iload_n 1, 1) := by decide +kernel
theorem dX4_obstacleToTouching_2 : decode cX4_obstacleToTouching 2 = .ok (.iload_n 2, 1) := by decide +kernel
theorem dX4_obstacleToTouching_3 : decode cX4_obstacleToTouching 3 = .ok (.invokevirtual 83, 3) := by decide +kernel
theorem dX4_obstacleToTouching_6 : decode cX4_obstacleToTouching 6 = .ok (.ifCond .eq 16, 3) := by decide +kernel
theorem dX4_obstacleToTouching_9 : decode cX4_obstacleToTouching 9 = .ok (.iconst 3, 1) := by decide +kernel
theorem dX4_obstacleToTouching_10 : decode cX4_obstacleToTouching 10 = .ok (.bipush 10, 2) := by decide +kernel
theorem dX4_obstacleToTouching_12 : decode cX4_obstacleToTouching 12 = .ok (.iload_n 1, 1) := by decide +kernel
theorem dX4_obstacleToTouching_13 : decode cX4_obstacleToTouching 13 = .ok (.imul, 1) := by decide +kernel
theorem dX4_obstacleToTouching_14 : decode cX4_obstacleToTouching 14 = .ok (.iload_n 2, 1) := by decide +kernel
theorem dX4_obstacleToTouching_15 : decode cX4_obstacleToTouching 15 = .ok (.iadd, 1) := by decide +kernel
theorem dX4_obstacleToTouching_16 : decode cX4_obstacleToTouching 16 = .ok (.invokestatic 120, 3) := by decide +kernel
theorem dX4_obstacleToTouching_19 : decode cX4_obstacleToTouching 19 = .ok (.goto 4, 3) := by decide +kernel
theorem dX4_obstacleToTouching_22 : decode cX4_obstacleToTouching 22 = .ok (.iconst 0, 1) := by decide +kernel
theorem dX4_obstacleToTouching_23 : decode cX4_obstacleToTouching 23 = .ok (.ireturn, 1) := by decide +kernel
theorem dX4_obstacleToFilling_0 : decode cX4_obstacleToFilling 0 = .ok (.aload_n 0, 1) := by decide +kernel
theorem dX4_obstacleToFilling_1 : decode cX4_obstacleToFilling 1 = .ok (.getfield 34, 3) := by decide +kernel
theorem dX4_obstacleToFilling_4 : decode cX4_obstacleToFilling 4 = .ok (.ifCond .eq 7, 3) := by decide +kernel
theorem dX4_obstacleToFilling_7 : decode cX4_obstacleToFilling 7 = .ok (.iconst 0, 1) := by decide +kernel
theorem dX4_obstacleToFilling_8 : decode cX4_obstacleToFilling 8 = .ok (.goto 8, 3) := by decide +kernel
theorem dX4_obstacleToFilling_11 : decode cX4_obstacleToFilling 11 = .ok (.iconst 4, 1) := by decide +kernel
theorem dX4_obstacleToFilling_12 : decode cX4_obstacleToFilling 12 = .ok (.iload_n 1, 1) := by decide +kernel
theorem dX4_obstacleToFilling_13 : decode cX4_obstacleToFilling 13 = .ok (.invokestatic 120, 3) := by decide +kernel
theorem dX4_obstacleToFilling_16 : decode cX4_obstacleToFilling 16 = .ok (.ireturn, 1) := by decide +kernel
theorem dX4_obstacleToMending_0 : decode cX4_obstacleToMending 0 = .ok (.aload_n 0, 1) := by decide +kernel
theorem dX4_obstacleToMending_1 : decode cX4_obstacleToMending 1 = .ok (.getfield 34, 3) := by decide +kernel
theorem dX4_obstacleToMending_4 : decode cX4_obstacleToMending 4 = .ok (.ifCond .ne 9, 3) := by decide +kernel
theorem dX4_obstacleToMending_7 : decode cX4_obstacleToMending 7 = .ok (.iconst 4, 1) := by decide +kernel
theorem dX4_obstacleToMending_8 : decode cX4_obstacleToMending 8 = .ok (.iload_n 1, 1) := by decide +kernel
theorem dX4_obstacleToMending_9 : decode cX4_obstacleToMending 9 = .ok (.invokestatic 120, 3) := by decide +kernel
theorem dX4_obstacleToMending_12 : decode cX4_obstacleToMending 12 = .ok (.ireturn, 1) := by decide +kernel
theorem dX4_obstacleToMending_13 : decode cX4_obstacleToMending 13 = .ok (.aload_n 0, 1) := by decide +kernel
theorem dX4_obstacleToMending_14 : decode cX4_obstacleToMending 14 = .ok (.invokevirtual 110, 3) := by decide +kernel
theorem dX4_obstacleToMending_17 : decode cX4_obstacleToMending 17 = .ok (.istore_n 2, 1) := by decide +kernel
theorem dX4_obstacleToMending_18 : decode cX4_obstacleToMending 18 = .ok (.iload_n 2, 1) := by decide +kernel
theorem dX4_obstacleToMending_19 : decode cX4_obstacleToMending 19 = .ok (.ifCond .le 9, 3) := by decide +kernel
theorem dX4_obstacleToMending_22 : decode cX4_obstacleToMending 22 = .ok (.iconst 2, 1) := by decide +kernel
theorem dX4_obstacleToMending_23 : decode cX4_obstacleToMending 23 = .ok (.iload_n 2, 1) := by decide +kernel
theorem dX4_obstacleToMending_24 : decode cX4_obstacleToMending 24 = .ok (.invokestatic 120, 3) := by decide +kernel
theorem dX4_obstacleToMending_27 : decode cX4_obstacleToMending 27 = .ok (.ireturn, 1) := by decide +kernel
theorem dX4_obstacleToMending_28 : decode cX4_obstacleToMending 28 = .ok (.aload_n 0, 1) := by decide +kernel
theorem dX4_obstacleToMending_29 : decode cX4_obstacleToMending 29 = .ok (.invokevirtual 114, 3) := by decide +kernel
theorem dX4_obstacleToMending_32 : decode cX4_obstacleToMending 32 = .ok (.istore_n 3, 1) := by decide +kernel
theorem dX4_obstacleToMending_33 : decode cX4_obstacleToMending 33 = .ok (.aload_n 0, 1) := by decide +kernel
theorem dX4_obstacleToMending_34 : decode cX4_obstacleToMending 34 = .ok (.invokevirtual 117, 3) := by decide +kernel
theorem dX4_obstacleToMending_37 : decode cX4_obstacleToMending 37 = .ok (.istore 4, 2) := by decide +kernel
theorem dX4_obstacleToMending_39 : decode cX4_obstacleToMending 39 = .ok (.iload_n 3, 1) := by decide +kernel
theorem dX4_obstacleToMending_40 : decode cX4_obstacleToMending 40 = .ok (.ifCond .ne 14, 3) := by decide +kernel
theorem dX4_obstacleToMending_43 : decode cX4_obstacleToMending 43 = .ok (.iload 4, 2) := by decide +kernel
theorem dX4_obstacleToMending_45 : decode cX4_obstacleToMending 45 = .ok (.ifCond .ne 9, 3) := by decide +kernel
theorem dX4_obstacleToMending_48 : decode cX4_obstacleToMending 48 = .ok (.iconst 5, 1) := by decide +kernel
theorem dX4_obstacleToMending_49 : decode cX4_obstacleToMending 49 = .ok (.iconst 0, 1) := by decide +kernel
theorem dX4_obstacleToMending_50 : decode cX4_obstacleToMending 50 = .ok (.invokestatic 120, 3) := by decide +kernel
theorem dX4_obstacleToMending_53 : decode cX4_obstacleToMending 53 = .ok (.ireturn, 1) := by decide +kernel
theorem dX4_obstacleToMending_54 : decode cX4_obstacleToMending 54 = .ok (.iload_n 3, 1) := by decide +kernel
theorem dX4_obstacleToMending_55 : decode cX4_obstacleToMending 55 = .ok (.iconst 1, 1) := by decide +kernel
theorem dX4_obstacleToMending_56 : decode cX4_obstacleToMending 56 = .ok (.if_icmp .ne 9, 3) := by decide +kernel
theorem dX4_obstacleToMending_59 : decode cX4_obstacleToMending 59 = .ok (.iload 4, 2) := by decide +kernel
theorem dX4_obstacleToMending_61 : decode cX4_obstacleToMending 61 = .ok (.iconst 1, 1) := by decide +kernel
theorem dX4_obstacleToMending_62 : decode cX4_obstacleToMending 62 = .ok (.if_icmp .eq 16, 3) := by decide +kernel
theorem dX4_obstacleToMending_65 : decode cX4_obstacleToMending 65 = .ok (.bipush 6, 2) := by decide +kernel
theorem dX4_obstacleToMending_67 : decode cX4_obstacleToMending 67 = .ok (.bipush 10, 2) := by decide +kernel
theorem dX4_obstacleToMending_69 : decode cX4_obstacleToMending 69 = .ok (.iload_n 3, 1) := by decide +kernel
theorem dX4_obstacleToMending_70 : decode cX4_obstacleToMending 70 = .ok (.imul, 1) := by decide +kernel
theorem dX4_obstacleToMending_71 : decode cX4_obstacleToMending 71 = .ok (.iload 4, 2) := by decide +kernel
theorem dX4_obstacleToMending_73 : decode cX4_obstacleToMending 73 = .ok (.iadd, 1) := by decide +kernel
theorem dX4_obstacleToMending_74 : decode cX4_obstacleToMending 74 = .ok (.invokestatic 120, 3) := by decide +kernel
theorem dX4_obstacleToMending_77 : decode cX4_obstacleToMending 77 = .ok (.ireturn, 1) := by decide +kernel
theorem dX4_obstacleToMending_78 : decode cX4_obstacleToMending 78 = .ok (.aload_n 0, 1) := by decide +kernel
theorem dX4_obstacleToMending_79 : decode cX4_obstacleToMending 79 = .ok (.aload_n 0, 1) := by decide +kernel
theorem dX4_obstacleToMending_80 : decode cX4_obstacleToMending 80 = .ok (.iconst 0, 1) := by decide +kernel
theorem dX4_obstacleToMending_81 : decode cX4_obstacleToMending 81 = .ok (.invokevirtual 100, 3) := by decide +kernel
theorem dX4_obstacleToMending_84 : decode cX4_obstacleToMending 84 = .ok (.invokevirtual 123, 3) := by decide +kernel
theorem dX4_obstacleToMending_87 : decode cX4_obstacleToMending 87 = .ok (.istore 5, 2) := by decide +kernel
theorem dX4_obstacleToMending_89 : decode cX4_obstacleToMending 89 = .ok (.aload_n 0, 1) := by decide +kernel
theorem dX4_obstacleToMending_90 : decode cX4_obstacleToMending 90 = .ok (.aload_n 0, 1) := by decide +kernel
theorem dX4_obstacleToMending_91 : decode cX4_obstacleToMending 91 = .ok (.bipush 6, 2) := by decide +kernel
theorem dX4_obstacleToMending_93 : decode cX4_obstacleToMending 93 = .ok (.invokevirtual 100, 3) := by decide +kernel
theorem dX4_obstacleToMending_96 : decode cX4_obstacleToMending 96 = .ok (.invokevirtual 123, 3) := by decide +kernel
theorem dX4_obstacleToMending_99 : decode cX4_obstacleToMending 99 = .ok (.istore 6, 2) := by decide +kernel
theorem dX4_obstacleToMending_101 : decode cX4_obstacleToMending 101 = .ok (.iload 5, 2) := by decide +kernel
theorem dX4_obstacleToMending_103 : decode cX4_obstacleToMending 103 = .ok (.iload 6, 2) := by decide +kernel
theorem dX4_obstacleToMending_105 : decode cX4_obstacleToMending 105 = .ok (.if_icmp .ne 7, 3) := by decide +kernel
theorem dX4_obstacleToMending_108 : decode cX4_obstacleToMending 108 = .ok (.iconst 0, 1) := by decide +kernel
theorem dX4_obstacleToMending_109 : decode cX4_obstacleToMending 109 = .ok (.goto 16, 3) := by decide +kernel
theorem dX4_obstacleToMending_112 : decode cX4_obstacleToMending 112 = .ok (.bipush 7, 2) := by decide +kernel
theorem dX4_obstacleToMending_114 : decode cX4_obstacleToMending 114 = .ok (.bipush 10, 2) := by decide +kernel
theorem dX4_obstacleToMending_116 : decode cX4_obstacleToMending 116 = .ok (.iload 5, 2) := by decide +kernel
theorem dX4_obstacleToMending_118 : decode cX4_obstacleToMending 118 = .ok (.imul, 1) := by decide +kernel
theorem dX4_obstacleToMending_119 : decode cX4_obstacleToMending 119 = .ok (.iload 6, 2) := by decide +kernel
theorem dX4_obstacleToMending_121 : decode cX4_obstacleToMending 121 = .ok (.iadd, 1) := by decide +kernel
theorem dX4_obstacleToMending_122 : decode cX4_obstacleToMending 122 = .ok (.invokestatic 120, 3) := by decide +kernel
theorem dX4_obstacleToMending_125 : decode cX4_obstacleToMending 125 = .ok (.ireturn, 1) := by decide +kernel
theorem dX4_cellToMend_0 : decode cX4_cellToMend 0 = .ok (.bipush 10, 2) := by decide +kernel
theorem dX4_cellToMend_2 : decode cX4_cellToMend 2 = .ok (.aload_n 0, 1) := by decide +kernel
theorem dX4_cellToMend_3 : decode cX4_cellToMend 3 = .ok (.iconst 0, 1) := by decide +kernel
theorem dX4_cellToMend_4 : decode cX4_cellToMend 4 = .ok (.invokevirtual 100, 3) := by decide +kernel
theorem dX4_cellToMend_7 : decode cX4_cellToMend 7 = .ok (.imul, 1) := by decide +kernel
theorem dX4_cellToMend_8 : decode cX4_cellToMend 8 = .ok (.aload_n 0, 1) := by decide +kernel
theorem dX4_cellToMend_9 : decode cX4_cellToMend 9 = .ok (.bipush 6, 2) := by decide +kernel
theorem dX4_cellToMend_11 : decode cX4_cellToMend 11 = .ok (.invokevirtual 100, 3) := by decide +kernel
theorem dX4_cellToMend_14 : decode cX4_cellToMend 14 = .ok (.iadd, 1) := by decide +kernel
theorem dX4_cellToMend_15 : decode cX4_cellToMend 15 = .ok (.bipush 6, 2) := by decide +kernel
theorem dX4_cellToMend_17 : decode cX4_cellToMend 17 = .ok (.isub, 1) := by decide +kernel
theorem dX4_cellToMend_18 : decode cX4_cellToMend 18 = .ok (.ireturn, 1) := by decide +kernel
theorem dX4_mendCell_0 : decode cX4_mendCell 0 = .ok (.aload_n 0, 1) := by decide +kernel
theorem dX4_mendCell_1 : decode cX4_mendCell 1 = .ok (.iconst 0, 1) := by decide +kernel
theorem dX4_mendCell_2 : decode cX4_mendCell 2 = .ok (.invokevirtual 100, 3) := by decide +kernel
theorem dX4_mendCell_5 : decode cX4_mendCell 5 = .ok (.istore_n 1, 1) := by decide +kernel
theorem dX4_mendCell_6 : decode cX4_mendCell 6 = .ok (.aload_n 0, 1) := by decide +kernel
theorem dX4_mendCell_7 : decode cX4_mendCell 7 = .ok (.bipush 6, 2) := by decide +kernel
theorem dX4_mendCell_9 : decode cX4_mendCell 9 = .ok (.invokevirtual 100, 3) := by decide +kernel
theorem dX4_mendCell_12 : decode cX4_mendCell 12 = .ok (.bipush 6, 2) := by decide +kernel
theorem dX4_mendCell_14 : decode cX4_mendCell 14 = .ok (.isub, 1) := by decide +kernel
theorem dX4_mendCell_15 : decode cX4_mendCell 15 = .ok (.istore_n 2, 1) := by decide +kernel
theorem dX4_mendCell_16 : decode cX4_mendCell 16 = .ok (.aload_n 0, 1) := by decide +kernel
theorem dX4_mendCell_17 : decode cX4_mendCell 17 = .ok (.iload_n 1, 1) := by decide +kernel
theorem dX4_mendCell_18 : decode cX4_mendCell 18 = .ok (.iload_n 2, 1) := by decide +kernel
theorem dX4_mendCell_19 : decode cX4_mendCell 19 = .ok (.aload_n 0, 1) := by decide +kernel
theorem dX4_mendCell_20 : decode cX4_mendCell 20 = .ok (.iload_n 1, 1) := by decide +kernel
theorem dX4_mendCell_21 : decode cX4_mendCell 21 = .ok (.invokevirtual 123, 3) := by decide +kernel
theorem dX4_mendCell_24 : decode cX4_mendCell 24 = .ok (.invokevirtual 126, 3) := by decide +kernel
theorem dX4_mendCell_27 : decode cX4_mendCell 27 = .ok (.pop, 1) := by decide +kernel
theorem dX4_mendCell_28 : decode cX4_mendCell 28 = .ok (.aload_n 0, 1) := by decide +kernel
theorem dX4_mendCell_29 : decode cX4_mendCell 29 = .ok (.dup, 1) := by decide +kernel
theorem dX4_mendCell_30 : decode cX4_mendCell 30 = .ok (.getfield 38, 3) := by decide +kernel
theorem dX4_mendCell_33 : decode cX4_mendCell 33 = .ok (.iconst 1, 1) := by decide +kernel
theorem dX4_mendCell_34 : decode cX4_mendCell 34 = .ok (.iadd, 1) := by decide +kernel
theorem dX4_mendCell_35 : decode cX4_mendCell 35 = .ok (.putfield 38, 3) := by decide +kernel
theorem dX4_mendCell_38 : decode cX4_mendCell 38 = .ok (.bipush 10, 2) := by decide +kernel
theorem dX4_mendCell_40 : decode cX4_mendCell 40 = .ok (.iload_n 1, 1) := by decide +kernel
theorem dX4_mendCell_41 : decode cX4_mendCell 41 = .ok (.imul, 1) := by decide +kernel
theorem dX4_mendCell_42 : decode cX4_mendCell 42 = .ok (.iload_n 2, 1) := by decide +kernel
theorem dX4_mendCell_43 : decode cX4_mendCell 43 = .ok (.iadd, 1) := by decide +kernel
theorem dX4_mendCell_44 : decode cX4_mendCell 44 = .ok (.ireturn, 1) := by decide +kernel
theorem dX4_findMendByTrying_0 : decode cX4_findMendByTrying 0 = .ok (.iconst 0, 1) := by decide +kernel
theorem dX4_findMendByTrying_1 : decode cX4_findMendByTrying 1 = .ok (.istore_n 1, 1) := by decide +kernel
theorem dX4_findMendByTrying_2 : decode cX4_findMendByTrying 2 = .ok (.iload_n 1, 1) := by decide +kernel
theorem dX4_findMendByTrying_3 : decode cX4_findMendByTrying 3 = .ok (.aload_n 0, 1) := by decide +kernel
theorem dX4_findMendByTrying_4 : decode cX4_findMendByTrying 4 = .ok (.getfield 28, 3) := by decide +kernel
theorem dX4_findMendByTrying_7 : decode cX4_findMendByTrying 7 = .ok (.if_icmp .ge 41, 3) := by decide +kernel
theorem dX4_findMendByTrying_10 : decode cX4_findMendByTrying 10 = .ok (.iconst 0, 1) := by decide +kernel
theorem dX4_findMendByTrying_11 : decode cX4_findMendByTrying 11 = .ok (.istore_n 2, 1) := by decide +kernel
theorem dX4_findMendByTrying_12 : decode cX4_findMendByTrying 12 = .ok (.iload_n 2, 1) := by decide +kernel
theorem dX4_findMendByTrying_13 : decode cX4_findMendByTrying 13 = .ok (.aload_n 0, 1) := by decide +kernel
theorem dX4_findMendByTrying_14 : decode cX4_findMendByTrying 14 = .ok (.getfield 31, 3) := by decide +kernel
theorem dX4_findMendByTrying_17 : decode cX4_findMendByTrying 17 = .ok (.if_icmp .ge 25, 3) := by decide +kernel
theorem dX4_findMendByTrying_20 : decode cX4_findMendByTrying 20 = .ok (.aload_n 0, 1) := by decide +kernel
theorem dX4_findMendByTrying_21 : decode cX4_findMendByTrying 21 = .ok (.iload_n 1, 1) := by decide +kernel
theorem dX4_findMendByTrying_22 : decode cX4_findMendByTrying 22 = .ok (.iload_n 2, 1) := by decide +kernel
theorem dX4_findMendByTrying_23 : decode cX4_findMendByTrying 23 = .ok (.invokevirtual 130, 3) := by decide +kernel
theorem dX4_findMendByTrying_26 : decode cX4_findMendByTrying 26 = .ok (.ifCond .eq 10, 3) := by decide +kernel
theorem dX4_findMendByTrying_29 : decode cX4_findMendByTrying 29 = .ok (.bipush 10, 2) := by decide +kernel
theorem dX4_findMendByTrying_31 : decode cX4_findMendByTrying 31 = .ok (.iload_n 1, 1) := by decide +kernel
theorem dX4_findMendByTrying_32 : decode cX4_findMendByTrying 32 = .ok (.imul, 1) := by decide +kernel
theorem dX4_findMendByTrying_33 : decode cX4_findMendByTrying 33 = .ok (.iload_n 2, 1) := by decide +kernel
theorem dX4_findMendByTrying_34 : decode cX4_findMendByTrying 34 = .ok (.iadd, 1) := by decide +kernel
theorem dX4_findMendByTrying_35 : decode cX4_findMendByTrying 35 = .ok (.ireturn, 1) := by decide +kernel
theorem dX4_findMendByTrying_36 : decode cX4_findMendByTrying 36 = .ok (.iinc 2 1, 3) := by decide +kernel
theorem dX4_findMendByTrying_39 : decode cX4_findMendByTrying 39 = .ok (.goto (-27), 3) := by decide +kernel
theorem dX4_findMendByTrying_42 : decode cX4_findMendByTrying 42 = .ok (.iinc 1 1, 3) := by decide +kernel
theorem dX4_findMendByTrying_45 : decode cX4_findMendByTrying 45 = .ok (.goto (-43), 3) := by decide +kernel
theorem dX4_findMendByTrying_48 : decode cX4_findMendByTrying 48 = .ok (.iconst (-1), 1) := by decide +kernel
theorem dX4_findMendByTrying_49 : decode cX4_findMendByTrying 49 = .ok (.ireturn, 1) := by decide +kernel
theorem dX4_isMendedByCell_0 : decode cX4_isMendedByCell 0 = .ok (.aload_n 0, 1) := by decide +kernel
theorem dX4_isMendedByCell_1 : decode cX4_isMendedByCell 1 = .ok (.iload_n 1, 1) := by decide +kernel
theorem dX4_isMendedByCell_2 : decode cX4_isMendedByCell 2 = .ok (.iload_n 2, 1) := by decide +kernel
theorem dX4_isMendedByCell_3 : decode cX4_isMendedByCell 3 = .ok (.invokevirtual 63, 3) := by decide +kernel
theorem dX4_isMendedByCell_6 : decode cX4_isMendedByCell 6 = .ok (.istore_n 3, 1) := by decide +kernel
theorem dX4_isMendedByCell_7 : decode cX4_isMendedByCell 7 = .ok (.iconst 0, 1) := by decide +kernel
theorem dX4_isMendedByCell_8 : decode cX4_isMendedByCell 8 = .ok (.istore 4, 2) := by decide +kernel
theorem dX4_isMendedByCell_10 : decode cX4_isMendedByCell 10 = .ok (.iconst 0, 1) := by decide +kernel
theorem dX4_isMendedByCell_11 : decode cX4_isMendedByCell 11 = .ok (.istore 5, 2) := by decide +kernel
theorem dX4_isMendedByCell_13 : decode cX4_isMendedByCell 13 = .ok (.iload 5, 2) := by decide +kernel
theorem dX4_isMendedByCell_15 : decode cX4_isMendedByCell 15 = .ok (.bipush 9, 2) := by decide +kernel
theorem dX4_isMendedByCell_17 : decode cX4_isMendedByCell 17 = .ok (.if_icmp .gt 42, 3) := by decide +kernel
theorem dX4_isMendedByCell_20 : decode cX4_isMendedByCell 20 = .ok (.iload 4, 2) := by decide +kernel
theorem dX4_isMendedByCell_22 : decode cX4_isMendedByCell 22 = .ok (.ifCond .ne 37, 3) := by decide +kernel
theorem dX4_isMendedByCell_25 : decode cX4_isMendedByCell 25 = .ok (.aload_n 0, 1) := by decide +kernel
theorem dX4_isMendedByCell_26 : decode cX4_isMendedByCell 26 = .ok (.iload_n 1, 1) := by decide +kernel
theorem dX4_isMendedByCell_27 : decode cX4_isMendedByCell 27 = .ok (.iload_n 2, 1) := by decide +kernel
theorem dX4_isMendedByCell_28 : decode cX4_isMendedByCell 28 = .ok (.iload 5, 2) := by decide +kernel
theorem dX4_isMendedByCell_30 : decode cX4_isMendedByCell 30 = .ok (.invokevirtual 79, 3) := by decide +kernel
theorem dX4_isMendedByCell_33 : decode cX4_isMendedByCell 33 = .ok (.iload 5, 2) := by decide +kernel
theorem dX4_isMendedByCell_35 : decode cX4_isMendedByCell 35 = .ok (.iload_n 3, 1) := by decide +kernel
theorem dX4_isMendedByCell_36 : decode cX4_isMendedByCell 36 = .ok (.if_icmp .eq 14, 3) := by decide +kernel
theorem dX4_isMendedByCell_39 : decode cX4_isMendedByCell 39 = .ok (.aload_n 0, 1) := by decide +kernel
theorem dX4_isMendedByCell_40 : decode cX4_isMendedByCell 40 = .ok (.invokevirtual 133, 3) := by decide +kernel
theorem dX4_isMendedByCell_43 : decode cX4_isMendedByCell 43 = .ok (.ifCond .eq 7, 3) := by decide +kernel
theorem dX4_isMendedByCell_46 : decode cX4_isMendedByCell 46 = .ok (.iconst 1, 1) := by decide +kernel
theorem dX4_isMendedByCell_47 : decode cX4_isMendedByCell 47 = .ok (.goto 4, 3) := by decide +kernel
theorem dX4_isMendedByCell_50 : decode cX4_isMendedByCell 50 = .ok (.iconst 0, 1) := by decide +kernel
theorem dX4_isMendedByCell_51 : decode cX4_isMendedByCell 51 = .ok (.istore 4, 2) := by decide +kernel
theorem dX4_isMendedByCell_53 : decode cX4_isMendedByCell 53 = .ok (.iinc 5 1, 3) := by decide +kernel
theorem dX4_isMendedByCell_56 : decode cX4_isMendedByCell 56 = .ok (.goto (-43), 3) := by decide +kernel
theorem dX4_isMendedByCell_59 : decode cX4_isMendedByCell 59 = .ok (.aload_n 0, 1) := by decide +kernel
theorem dX4_isMendedByCell_60 : decode cX4_isMendedByCell 60 = .ok (.iload_n 1, 1) := by decide +kernel
theorem dX4_isMendedByCell_61 : decode cX4_isMendedByCell 61 = .ok (.iload_n 2, 1) := by decide +kernel
theorem dX4_isMendedByCell_62 : decode cX4_isMendedByCell 62 = .ok (.iload_n 3, 1) := by decide +kernel
theorem dX4_isMendedByCell_63 : decode cX4_isMendedByCell 63 = .ok (.invokevirtual 79, 3) := by decide +kernel
theorem dX4_isMendedByCell_66 : decode cX4_isMendedByCell 66 = .ok (.iload 4, 2) := by decide +kernel
theorem dX4_isMendedByCell_68 : decode cX4_isMendedByCell 68 = .ok (.ireturn, 1) := by decide +kernel
theorem dX4_fillCells_0 : decode cX4_fillCells 0 = .ok (.iconst 0, 1) := by decide +kernel
theorem dX4_fillCells_1 : decode cX4_fillCells 1 = .ok (.istore_n 1, 1) := by decide +kernel
theorem dX4_fillCells_2 : decode cX4_fillCells 2 = .ok (.aload_n 0, 1) := by decide +kernel
theorem dX4_fillCells_3 : decode cX4_fillCells 3 = .ok (.invokevirtual 137, 3) := by decide +kernel
theorem dX4_fillCells_6 : decode cX4_fillCells 6 = .ok (.istore_n 2, 1) := by decide +kernel
theorem dX4_fillCells_7 : decode cX4_fillCells 7 = .ok (.iload_n 1, 1) := by decide +kernel
theorem dX4_fillCells_8 : decode cX4_fillCells 8 = .ok (.bipush 48, 2) := by decide +kernel
theorem dX4_fillCells_10 : decode cX4_fillCells 10 = .ok (.if_icmp .ge 24, 3) := by decide +kernel
theorem dX4_fillCells_13 : decode cX4_fillCells 13 = .ok (.iload_n 2, 1) := by decide +kernel
theorem dX4_fillCells_14 : decode cX4_fillCells 14 = .ok (.iconst (-1), 1) := by decide +kernel
theorem dX4_fillCells_15 : decode cX4_fillCells 15 = .ok (.if_icmp .eq 19, 3) := by decide +kernel
theorem dX4_fillCells_18 : decode cX4_fillCells 18 = .ok (.aload_n 0, 1) := by decide +kernel
theorem dX4_fillCells_19 : decode cX4_fillCells 19 = .ok (.iload_n 2, 1) := by decide +kernel
theorem dX4_fillCells_20 : decode cX4_fillCells 20 = .ok (.invokevirtual 140, 3) := by decide +kernel
theorem dX4_fillCells_23 : decode cX4_fillCells 23 = .ok (.iinc 1 1, 3) := by decide +kernel
theorem dX4_fillCells_26 : decode cX4_fillCells 26 = .ok (.aload_n 0, 1) := by decide +kernel
theorem dX4_fillCells_27 : decode cX4_fillCells 27 = .ok (.invokevirtual 137, 3) := by decide +kernel
theorem dX4_fillCells_30 : decode cX4_fillCells 30 = .ok (.istore_n 2, 1) := by decide +kernel
theorem dX4_fillCells_31 : decode cX4_fillCells 31 = .ok (.goto (-24), 3) := by decide +kernel
theorem dX4_fillCells_34 : decode cX4_fillCells 34 = .ok (.aload_n 0, 1) := by decide +kernel
theorem dX4_fillCells_35 : decode cX4_fillCells 35 = .ok (.dup, 1) := by decide +kernel
theorem dX4_fillCells_36 : decode cX4_fillCells 36 = .ok (.getfield 41, 3) := by decide +kernel
theorem dX4_fillCells_39 : decode cX4_fillCells 39 = .ok (.iload_n 1, 1) := by decide +kernel
theorem dX4_fillCells_40 : decode cX4_fillCells 40 = .ok (.iadd, 1) := by decide +kernel
theorem dX4_fillCells_41 : decode cX4_fillCells 41 = .ok (.putfield 41, 3) := by decide +kernel
theorem dX4_fillCells_44 : decode cX4_fillCells 44 = .ok (.iload_n 1, 1) := by decide +kernel
theorem dX4_fillCells_45 : decode cX4_fillCells 45 = .ok (.ireturn, 1) := by decide +kernel
theorem dX4_bandToFill_0 : decode cX4_bandToFill 0 = .ok (.iconst 0, 1) := by decide +kernel
theorem dX4_bandToFill_1 : decode cX4_bandToFill 1 = .ok (.istore_n 1, 1) := by decide +kernel
theorem dX4_bandToFill_2 : decode cX4_bandToFill 2 = .ok (.iload_n 1, 1) := by decide +kernel
theorem dX4_bandToFill_3 : decode cX4_bandToFill 3 = .ok (.bipush 14, 2) := by decide +kernel
theorem dX4_bandToFill_5 : decode cX4_bandToFill 5 = .ok (.if_icmp .ge 23, 3) := by decide +kernel
theorem dX4_bandToFill_8 : decode cX4_bandToFill 8 = .ok (.aload_n 0, 1) := by decide +kernel
theorem dX4_bandToFill_9 : decode cX4_bandToFill 9 = .ok (.getfield 18, 3) := by decide +kernel
theorem dX4_bandToFill_12 : decode cX4_bandToFill 12 = .ok (.iload_n 1, 1) := by decide +kernel
theorem dX4_bandToFill_13 : decode cX4_bandToFill 13 = .ok (.invokestatic 59, 3) := by decide +kernel
theorem dX4_bandToFill_16 : decode cX4_bandToFill 16 = .ok (.iconst 1, 1) := by decide +kernel
theorem dX4_bandToFill_17 : decode cX4_bandToFill 17 = .ok (.if_icmp .ne 5, 3) := by decide +kernel
theorem dX4_bandToFill_20 : decode cX4_bandToFill 20 = .ok (.iload_n 1, 1) := by decide +kernel
theorem dX4_bandToFill_21 : decode cX4_bandToFill 21 = .ok (.ireturn, 1) := by decide +kernel
theorem dX4_bandToFill_22 : decode cX4_bandToFill 22 = .ok (.iinc 1 1, 3) := by decide +kernel
theorem dX4_bandToFill_25 : decode cX4_bandToFill 25 = .ok (.goto (-23), 3) := by decide +kernel
theorem dX4_bandToFill_28 : decode cX4_bandToFill 28 = .ok (.iconst (-1), 1) := by decide +kernel
theorem dX4_bandToFill_29 : decode cX4_bandToFill 29 = .ok (.ireturn, 1) := by decide +kernel
theorem dX4_fillBand_0 : decode cX4_fillBand 0 = .ok (.aload_n 0, 1) := by decide +kernel
theorem dX4_fillBand_1 : decode cX4_fillBand 1 = .ok (.iload_n 1, 1) := by decide +kernel
theorem dX4_fillBand_2 : decode cX4_fillBand 2 = .ok (.invokevirtual 123, 3) := by decide +kernel
theorem dX4_fillBand_5 : decode cX4_fillBand 5 = .ok (.istore_n 2, 1) := by decide +kernel
theorem dX4_fillBand_6 : decode cX4_fillBand 6 = .ok (.iconst 0, 1) := by decide +kernel
theorem dX4_fillBand_7 : decode cX4_fillBand 7 = .ok (.istore_n 3, 1) := by decide +kernel
theorem dX4_fillBand_8 : decode cX4_fillBand 8 = .ok (.iload_n 3, 1) := by decide +kernel
theorem dX4_fillBand_9 : decode cX4_fillBand 9 = .ok (.aload_n 0, 1) := by decide +kernel
theorem dX4_fillBand_10 : decode cX4_fillBand 10 = .ok (.getfield 28, 3) := by decide +kernel
theorem dX4_fillBand_13 : decode cX4_fillBand 13 = .ok (.if_icmp .ge 56, 3) := by decide +kernel
theorem dX4_fillBand_16 : decode cX4_fillBand 16 = .ok (.iconst 0, 1) := by decide +kernel
theorem dX4_fillBand_17 : decode cX4_fillBand 17 = .ok (.istore 4, 2) := by decide +kernel
theorem dX4_fillBand_19 : decode cX4_fillBand 19 = .ok (.iload 4, 2) := by decide +kernel
theorem dX4_fillBand_21 : decode cX4_fillBand 21 = .ok (.aload_n 0, 1) := by decide +kernel
theorem dX4_fillBand_22 : decode cX4_fillBand 22 = .ok (.getfield 31, 3) := by decide +kernel
theorem dX4_fillBand_25 : decode cX4_fillBand 25 = .ok (.if_icmp .ge 38, 3) := by decide +kernel
theorem dX4_fillBand_28 : decode cX4_fillBand 28 = .ok (.iload_n 3, 1) := by decide +kernel
theorem dX4_fillBand_29 : decode cX4_fillBand 29 = .ok (.iload 4, 2) := by decide +kernel
theorem dX4_fillBand_31 : decode cX4_fillBand 31 = .ok (.iload_n 1, 1) := by decide +kernel
theorem dX4_fillBand_32 : decode cX4_fillBand 32 = .ok (.invokestatic 103, 3) := by decide +kernel
theorem dX4_fillBand_35 : decode cX4_fillBand 35 = .ok (.ifCond .eq 22, 3) := by decide +kernel
theorem dX4_fillBand_38 : decode cX4_fillBand 38 = .ok (.aload_n 0, 1) := by decide +kernel
theorem dX4_fillBand_39 : decode cX4_fillBand 39 = .ok (.iload_n 3, 1) := by decide +kernel
theorem dX4_fillBand_40 : decode cX4_fillBand 40 = .ok (.iload 4, 2) := by decide +kernel
theorem dX4_fillBand_42 : decode cX4_fillBand 42 = .ok (.invokevirtual 63, 3) := by decide +kernel
theorem dX4_fillBand_45 : decode cX4_fillBand 45 = .ok (.iconst (-1), 1) := by decide +kernel
theorem dX4_fillBand_46 : decode cX4_fillBand 46 = .ok (.if_icmp .ne 11, 3) := by decide +kernel
theorem dX4_fillBand_49 : decode cX4_fillBand 49 = .ok (.aload_n 0, 1) := by decide +kernel
theorem dX4_fillBand_50 : decode cX4_fillBand 50 = .ok (.iload_n 3, 1) := by decide +kernel
theorem dX4_fillBand_51 : decode cX4_fillBand 51 = .ok (.iload 4, 2) := by decide +kernel
theorem dX4_fillBand_53 : decode cX4_fillBand 53 = .ok (.iload_n 2, 1) := by decide +kernel
theorem dX4_fillBand_54 : decode cX4_fillBand 54 = .ok (.invokevirtual 79, 3) := by decide +kernel
theorem dX4_fillBand_57 : decode cX4_fillBand 57 = .ok (.iinc 4 1, 3) := by decide +kernel
theorem dX4_fillBand_60 : decode cX4_fillBand 60 = .ok (.goto (-41), 3) := by decide +kernel
theorem dX4_fillBand_63 : decode cX4_fillBand 63 = .ok (.iinc 3 1, 3) := by decide +kernel
theorem dX4_fillBand_66 : decode cX4_fillBand 66 = .ok (.goto (-58), 3) := by decide +kernel
theorem dX4_fillBand_69 : decode cX4_fillBand 69 = .ok (.return_, 1) := by decide +kernel
theorem dX5_init_0 : decode cX5_init 0 = .ok (.aload_n 0, 1) := by decide +kernel
theorem dX5_init_1 : decode cX5_init 1 = .ok (.invokespecial 3, 3) := by decide +kernel
theorem dX5_init_4 : decode cX5_init 4 = .ok (.aload_n 0, 1) := by decide +kernel
theorem dX5_init_5 : decode cX5_init 5 = .ok (.iconst 5, 1) := by decide +kernel
theorem dX5_init_6 : decode cX5_init 6 = .ok (.anewarray 9, 3) := by decide +kernel
theorem dX5_init_9 : decode cX5_init 9 = .ok (.putfield 11, 3) := by decide +kernel
theorem dX5_init_12 : decode cX5_init 12 = .ok (.iconst 0, 1) := by decide +kernel
theorem dX5_init_13 : decode cX5_init 13 = .ok (.istore_n 1, 1) := by decide +kernel
theorem dX5_init_14 : decode cX5_init 14 = .ok (.iload_n 1, 1) := by decide +kernel
theorem dX5_init_15 : decode cX5_init 15 = .ok (.aload_n 0, 1) := by decide +kernel
theorem dX5_init_16 : decode cX5_init 16 = .ok (.getfield 11, 3) := by decide +kernel
theorem dX5_init_19 : decode cX5_init 19 = .ok (.arraylength, 1) := by decide +kernel
theorem dX5_init_20 : decode cX5_init 20 = .ok (.if_icmp .ge 22, 3) := by decide +kernel
theorem dX5_init_23 : decode cX5_init 23 = .ok (.aload_n 0, 1) := by decide +kernel
theorem dX5_init_24 : decode cX5_init 24 = .ok (.getfield 11, 3) := by decide +kernel
theorem dX5_init_27 : decode cX5_init 27 = .ok (.iload_n 1, 1) := by decide +kernel
theorem dX5_init_28 : decode cX5_init 28 = .ok (.new 9, 3) := by decide +kernel
theorem dX5_init_31 : decode cX5_init 31 = .ok (.dup, 1) := by decide +kernel
theorem dX5_init_32 : decode cX5_init 32 = .ok (.invokespecial 17, 3) := by decide +kernel
theorem dX5_init_35 : decode cX5_init 35 = .ok (.aastore, 1) := by decide +kernel
theorem dX5_init_36 : decode cX5_init 36 = .ok (.iinc 1 1, 3) := by decide +kernel
theorem dX5_init_39 : decode cX5_init 39 = .ok (.goto (-25), 3) := by decide +kernel
theorem dX5_init_42 : decode cX5_init 42 = .ok (.return_, 1) := by decide +kernel
theorem dX5_become_0 : decode cX5_become 0 = .ok (.aload_n 0, 1) := by decide +kernel
theorem dX5_become_1 : decode cX5_become 1 = .ok (.aload_n 1, 1) := by decide +kernel
theorem dX5_become_2 : decode cX5_become 2 = .ok (.getfield 18, 3) := by decide +kernel
theorem dX5_become_5 : decode cX5_become 5 = .ok (.putfield 18, 3) := by decide +kernel
theorem dX5_become_8 : decode cX5_become 8 = .ok (.aload_n 0, 1) := by decide +kernel
theorem dX5_become_9 : decode cX5_become 9 = .ok (.aload_n 1, 1) := by decide +kernel
theorem dX5_become_10 : decode cX5_become 10 = .ok (.getfield 22, 3) := by decide +kernel
theorem dX5_become_13 : decode cX5_become 13 = .ok (.putfield 22, 3) := by decide +kernel
theorem dX5_become_16 : decode cX5_become 16 = .ok (.aload_n 0, 1) := by decide +kernel
theorem dX5_become_17 : decode cX5_become 17 = .ok (.aload_n 1, 1) := by decide +kernel
theorem dX5_become_18 : decode cX5_become 18 = .ok (.getfield 25, 3) := by decide +kernel
theorem dX5_become_21 : decode cX5_become 21 = .ok (.putfield 25, 3) := by decide +kernel
theorem dX5_become_24 : decode cX5_become 24 = .ok (.aload_n 0, 1) := by decide +kernel
theorem dX5_become_25 : decode cX5_become 25 = .ok (.aload_n 1, 1) := by decide +kernel
theorem dX5_become_26 : decode cX5_become 26 = .ok (.getfield 28, 3) := by decide +kernel
theorem dX5_become_29 : decode cX5_become 29 = .ok (.putfield 28, 3) := by decide +kernel
theorem dX5_become_32 : decode cX5_become 32 = .ok (.aload_n 0, 1) := by decide +kernel
theorem dX5_become_33 : decode cX5_become 33 = .ok (.aload_n 1, 1) := by decide +kernel
theorem dX5_become_34 : decode cX5_become 34 = .ok (.getfield 31, 3) := by decide +kernel
theorem dX5_become_37 : decode cX5_become 37 = .ok (.putfield 31, 3) := by decide +kernel
theorem dX5_become_40 : decode cX5_become 40 = .ok (.iconst 0, 1) := by decide +kernel
theorem dX5_become_41 : decode cX5_become 41 = .ok (.istore_n 2, 1) := by decide +kernel
theorem dX5_become_42 : decode cX5_become 42 = .ok (.iload_n 2, 1) := by decide +kernel
theorem dX5_become_43 : decode cX5_become 43 = .ok (.aload_n 0, 1) := by decide +kernel
theorem dX5_become_44 : decode cX5_become 44 = .ok (.getfield 18, 3) := by decide +kernel
theorem dX5_become_47 : decode cX5_become 47 = .ok (.if_icmp .ge 37, 3) := by decide +kernel
theorem dX5_become_50 : decode cX5_become 50 = .ok (.aload_n 0, 1) := by decide +kernel
theorem dX5_become_51 : decode cX5_become 51 = .ok (.iload_n 2, 1) := by decide +kernel
theorem dX5_become_52 : decode cX5_become 52 = .ok (.invokevirtual 34, 3) := by decide +kernel
theorem dX5_become_55 : decode cX5_become 55 = .ok (.astore_n 3, 1) := by decide +kernel
theorem dX5_become_56 : decode cX5_become 56 = .ok (.aload_n 1, 1) := by decide +kernel
theorem dX5_become_57 : decode cX5_become 57 = .ok (.iload_n 2, 1) := by decide +kernel
theorem dX5_become_58 : decode cX5_become 58 = .ok (.invokevirtual 34, 3) := by decide +kernel
theorem dX5_become_61 : decode cX5_become 61 = .ok (.astore 4, 2) := by decide +kernel
theorem dX5_become_63 : decode cX5_become 63 = .ok (.aload_n 3, 1) := by decide +kernel
theorem dX5_become_64 : decode cX5_become 64 = .ok (.ifnull 14, 3) := by decide +kernel
theorem dX5_become_67 : decode cX5_become 67 = .ok (.aload 4, 2) := by decide +kernel
theorem dX5_become_69 : decode cX5_become 69 = .ok (.ifnull 9, 3) := by decide +kernel
theorem dX5_become_72 : decode cX5_become 72 = .ok (.aload_n 3, 1) := by decide +kernel
theorem dX5_become_73 : decode cX5_become 73 = .ok (.aload 4, 2) := by decide +kernel
theorem dX5_become_75 : decode cX5_become 75 = .ok (.invokevirtual 38, 3) := by decide +kernel
theorem dX5_become_78 : decode cX5_become 78 = .ok (.iinc 2 1, 3) := by decide +kernel
theorem dX5_become_81 : decode cX5_become 81 = .ok (.goto (-39), 3) := by decide +kernel
theorem dX5_become_84 : decode cX5_become 84 = .ok (.return_, 1) := by decide +kernel
theorem dX5_find_0 : decode cX5_find 0 = .ok (.iload_n 1, 1) := by decide +kernel
theorem dX5_find_1 : decode cX5_find 1 = .ok (.ifCond .lt 29, 3) := by decide +kernel
theorem dX5_find_4 : decode cX5_find 4 = .ok (.iload_n 1, 1) := by decide +kernel
theorem dX5_find_5 : decode cX5_find 5 = .ok (.aload_n 0, 1) := by decide +kernel
theorem dX5_find_6 : decode cX5_find 6 = .ok (.getfield 18, 3) := by decide +kernel
theorem dX5_find_9 : decode cX5_find 9 = .ok (.if_icmp .ge 21, 3) := by decide +kernel
theorem dX5_find_12 : decode cX5_find 12 = .ok (.iload_n 1, 1) := by decide +kernel
theorem dX5_find_13 : decode cX5_find 13 = .ok (.aload_n 0, 1) := by decide +kernel
theorem dX5_find_14 : decode cX5_find 14 = .ok (.getfield 11, 3) := by decide +kernel
theorem dX5_find_17 : decode cX5_find 17 = .ok (.arraylength, 1) := by decide +kernel
theorem dX5_find_18 : decode cX5_find 18 = .ok (.if_icmp .ge 12, 3) := by decide +kernel
theorem dX5_find_21 : decode cX5_find 21 = .ok (.aload_n 0, 1) := by decide +kernel
theorem dX5_find_22 : decode cX5_find 22 = .ok (.getfield 11, 3) := by decide +kernel
theorem dX5_find_25 : decode cX5_find 25 = .ok (.iload_n 1, 1) := by decide +kernel
theorem dX5_find_26 : decode cX5_find 26 = .ok (.aaload, 1) := by decide +kernel
theorem dX5_find_27 : decode cX5_find 27 = .ok (.goto 4, 3) := by decide +kernel
theorem dX5_find_30 : decode cX5_find 30 = .ok (.aconst_null, 1) := by decide +kernel
theorem dX5_find_31 : decode cX5_find 31 = .ok (.areturn, 1) := by decide +kernel
theorem dX5_obstacleTo_0 : decode cX5_obstacleTo 0 = .ok (.aload_n 1, 1) := by decide +kernel
theorem dX5_obstacleTo_1 : decode cX5_obstacleTo 1 = .ok (.getstatic 42, 3) := by decide +kernel
theorem dX5_obstacleTo_4 : decode cX5_obstacleTo 4 = .ok (.if_acmp .ne 11, 3) := by decide +kernel
theorem dX5_obstacleTo_7 : decode cX5_obstacleTo 7 = .ok (.aload_n 0, 1) := by decide +kernel
theorem dX5_obstacleTo_8 : decode cX5_obstacleTo 8 = .ok (.iload_n 3, 1) := by decide +kernel
theorem dX5_obstacleTo_9 : decode cX5_obstacleTo 9 = .ok (.iload 4, 2) := by decide +kernel
theorem dX5_obstacleTo_11 : decode cX5_obstacleTo 11 = .ok (.invokevirtual 48, 3) := by decide +kernel
theorem dX5_obstacleTo_14 : decode cX5_obstacleTo 14 = .ok (.ireturn, 1) := by decide +kernel
theorem dX5_obstacleTo_15 : decode cX5_obstacleTo 15 = .ok (.aload_n 0, 1) := by decide +kernel
theorem dX5_obstacleTo_16 : decode cX5_obstacleTo 16 = .ok (.iload_n 2, 1) := by decide +kernel
theorem dX5_obstacleTo_17 : decode cX5_obstacleTo 17 = .ok (.invokevirtual 34, 3) := by decide +kernel
theorem dX5_obstacleTo_20 : decode cX5_obstacleTo 20 = .ok (.astore 6, 2) := by decide +kernel
theorem dX5_obstacleTo_22 : decode cX5_obstacleTo 22 = .ok (.aload 6, 2) := by decide +kernel
theorem dX5_obstacleTo_24 : decode cX5_obstacleTo 24 = .ok (.ifnull 21, 3) := by decide +kernel
theorem dX5_obstacleTo_27 : decode cX5_obstacleTo 27 = .ok (.aload_n 1, 1) := by decide +kernel
theorem dX5_obstacleTo_28 : decode cX5_obstacleTo 28 = .ok (.getfield 52, 3) := by decide +kernel
theorem dX5_obstacleTo_31 : decode cX5_obstacleTo 31 = .ok (.ifCond .eq 16, 3) := by decide +kernel
theorem dX5_obstacleTo_34 : decode cX5_obstacleTo 34 = .ok (.aload 6, 2) := by decide +kernel
theorem dX5_obstacleTo_36 : decode cX5_obstacleTo 36 = .ok (.iload_n 3, 1) := by decide +kernel
theorem dX5_obstacleTo_37 : decode cX5_obstacleTo 37 = .ok (.iload 4, 2) := by decide +kernel
theorem dX5_obstacleTo_39 : decode cX5_obstacleTo 39 = .ok (.invokevirtual 56, 3) := by decide +kernel
theorem dX5_obstacleTo_42 : decode cX5_obstacleTo 42 = .ok (.ifCond .ne 5, 3) := by decide +kernel
theorem dX5_obstacleTo_45 : decode cX5_obstacleTo 45 = .ok (.iconst 1, 1) := by decide +kernel
theorem dX5_obstacleTo_46 : decode cX5_obstacleTo 46 = .ok (.ireturn, 1) := by decide +kernel
theorem dX5_obstacleTo_47 : decode cX5_obstacleTo 47 = .ok (.getstatic 60, 3) := by decide +kernel
theorem dX5_obstacleTo_50 : decode cX5_obstacleTo 50 = .ok (.aload_n 1, 1) := by decide +kernel
theorem dX5_obstacleTo_51 : decode cX5_obstacleTo 51 = .ok (.invokevirtual 66, 3) := by decide +kernel
theorem dX5_obstacleTo_54 : decode cX5_obstacleTo 54 = .ok (.iaload, 1) := by decide +kernel
theorem dX5_obstacleTo_55 : decode cX5_obstacleTo 55 = .ok (.tableswitch 105 1 6 #[37, 54, 78, 87, 93, 98], 37) := by decide +kernel
theorem dX5_obstacleTo_92 : decode cX5_obstacleTo 92 = .ok (.iload 5, 2) := by decide +kernel
theorem dX5_obstacleTo_94 : decode cX5_obstacleTo 94 = .ok (.iconst 0, 1) := by decide +kernel
theorem dX5_obstacleTo_95 : decode cX5_obstacleTo 95 = .ok (.bipush 9, 2) := by decide +kernel
theorem dX5_obstacleTo_97 : decode cX5_obstacleTo 97 = .ok (.invokestatic 70, 3) := by decide +kernel
theorem dX5_obstacleTo_100 : decode cX5_obstacleTo 100 = .ok (.ifCond .eq 7, 3) := by decide +kernel
theorem dX5_obstacleTo_103 : decode cX5_obstacleTo 103 = .ok (.iconst 0, 1) := by decide +kernel
theorem dX5_obstacleTo_104 : decode cX5_obstacleTo 104 = .ok (.goto 4, 3) := by decide +kernel
theorem dX5_obstacleTo_107 : decode cX5_obstacleTo 107 = .ok (.iconst 2, 1) := by decide +kernel
theorem dX5_obstacleTo_108 : decode cX5_obstacleTo 108 = .ok (.ireturn, 1) := by decide +kernel
theorem dX5_obstacleTo_109 : decode cX5_obstacleTo 109 = .ok (.iload 5, 2) := by decide +kernel
theorem dX5_obstacleTo_111 : decode cX5_obstacleTo 111 = .ok (.iconst 1, 1) := by decide +kernel
theorem dX5_obstacleTo_112 : decode cX5_obstacleTo 112 = .ok (.bipush 9, 2) := by decide +kernel
theorem dX5_obstacleTo_114 : decode cX5_obstacleTo 114 = .ok (.invokestatic 70, 3) := by decide +kernel
theorem dX5_obstacleTo_117 : decode cX5_obstacleTo 117 = .ok (.ifCond .eq 14, 3) := by decide +kernel
theorem dX5_obstacleTo_120 : decode cX5_obstacleTo 120 = .ok (.aload 6, 2) := by decide +kernel
theorem dX5_obstacleTo_122 : decode cX5_obstacleTo 122 = .ok (.iload_n 3, 1) := by decide +kernel
theorem dX5_obstacleTo_123 : decode cX5_obstacleTo 123 = .ok (.iload 4, 2) := by decide +kernel
theorem dX5_obstacleTo_125 : decode cX5_obstacleTo 125 = .ok (.invokevirtual 74, 3) := by decide +kernel
theorem dX5_obstacleTo_128 : decode cX5_obstacleTo 128 = .ok (.goto 4, 3) := by decide +kernel
theorem dX5_obstacleTo_131 : decode cX5_obstacleTo 131 = .ok (.iconst 2, 1) := by decide +kernel
theorem dX5_obstacleTo_132 : decode cX5_obstacleTo 132 = .ok (.ireturn, 1) := by decide +kernel
theorem dX5_obstacleTo_133 : decode cX5_obstacleTo 133 = .ok (.aload 6, 2) := by decide +kernel
theorem dX5_obstacleTo_135 : decode cX5_obstacleTo 135 = .ok (.iload_n 3, 1) := by decide +kernel
theorem dX5_obstacleTo_136 : decode cX5_obstacleTo 136 = .ok (.iload 4, 2) := by decide +kernel
theorem dX5_obstacleTo_138 : decode cX5_obstacleTo 138 = .ok (.invokevirtual 74, 3) := by decide +kernel
theorem dX5_obstacleTo_141 : decode cX5_obstacleTo 141 = .ok (.ireturn, 1) := by decide +kernel
theorem dX5_obstacleTo_142 : decode cX5_obstacleTo 142 = .ok (.aload 6, 2) := by decide +kernel
theorem dX5_obstacleTo_144 : decode cX5_obstacleTo 144 = .ok (.invokevirtual 77, 3) := by decide +kernel
theorem dX5_obstacleTo_147 : decode cX5_obstacleTo 147 = .ok (.ireturn, 1) := by decide +kernel
theorem dX5_obstacleTo_148 : decode cX5_obstacleTo 148 = .ok (.aload_n 0, 1) := by decide +kernel
theorem dX5_obstacleTo_149 : decode cX5_obstacleTo 149 = .ok (.invokevirtual 80, 3) := by decide +kernel
theorem dX5_obstacleTo_152 : decode cX5_obstacleTo 152 = .ok (.ireturn, 1) := by decide +kernel
theorem dX5_obstacleTo_153 : decode cX5_obstacleTo 153 = .ok (.aload 6, 2) := by decide +kernel
theorem dX5_obstacleTo_155 : decode cX5_obstacleTo 155 = .ok (.iload_n 2, 1) := by decide +kernel
theorem dX5_obstacleTo_156 : decode cX5_obstacleTo 156 = .ok (.invokevirtual 83, 3) := by decide +kernel
theorem dX5_obstacleTo_159 : decode cX5_obstacleTo 159 = .ok (.ireturn, 1) := by decide +kernel
theorem dX5_obstacleTo_160 : decode cX5_obstacleTo 160 = .ok (.aload 6, 2) := by decide +kernel
theorem dX5_obstacleTo_162 : decode cX5_obstacleTo 162 = .ok (.iload_n 2, 1) := by decide +kernel
theorem dX5_obstacleTo_163 : decode cX5_obstacleTo 163 = .ok (.invokevirtual 87, 3) := by decide +kernel
theorem dX5_obstacleTo_166 : decode cX5_obstacleTo 166 = .ok (.ireturn, 1) := by decide +kernel
theorem dX5_obstacleToBeginning_0 : decode cX5_obstacleToBeginning 0 = .ok (.iload_n 1, 1) := by decide +kernel
theorem dX5_obstacleToBeginning_1 : decode cX5_obstacleToBeginning 1 = .ok (.iconst 1, 1) := by decide +kernel
theorem dX5_obstacleToBeginning_2 : decode cX5_obstacleToBeginning 2 = .ok (.bipush 6, 2) := by decide +kernel
theorem dX5_obstacleToBeginning_4 : decode cX5_obstacleToBeginning 4 = .ok (.invokestatic 70, 3) := by decide +kernel
theorem dX5_obstacleToBeginning_7 : decode cX5_obstacleToBeginning 7 = .ok (.ifCond .eq 13, 3) := by decide +kernel
theorem dX5_obstacleToBeginning_10 : decode cX5_obstacleToBeginning 10 = .ok (.iload_n 2, 1) := by decide +kernel
theorem dX5_obstacleToBeginning_11 : decode cX5_obstacleToBeginning 11 = .ok (.iconst 1, 1) := by decide +kernel
theorem dX5_obstacleToBeginning_12 : decode cX5_obstacleToBeginning 12 = .ok (.bipush 8, 2) := by decide +kernel
theorem dX5_obstacleToBeginning_14 : decode cX5_obstacleToBeginning 14 = .ok (.invokestatic 70, 3) := by decide +kernel
theorem dX5_obstacleToBeginning_17 : decode cX5_obstacleToBeginning 17 = .ok (.ifCond .ne 5, 3) := by decide +kernel
theorem dX5_obstacleToBeginning_20 : decode cX5_obstacleToBeginning 20 = .ok (.iconst 2, 1) := by decide +kernel
theorem dX5_obstacleToBeginning_21 : decode cX5_obstacleToBeginning 21 = .ok (.ireturn, 1) := by decide +kernel
theorem dX5_obstacleToBeginning_22 : decode cX5_obstacleToBeginning 22 = .ok (.aload_n 0, 1) := by decide +kernel
theorem dX5_obstacleToBeginning_23 : decode cX5_obstacleToBeginning 23 = .ok (.invokevirtual 80, 3) := by decide +kernel
theorem dX5_obstacleToBeginning_26 : decode cX5_obstacleToBeginning 26 = .ok (.ireturn, 1) := by decide +kernel
theorem dX5_obstacleToAdding_0 : decode cX5_obstacleToAdding 0 = .ok (.aload_n 0, 1) := by decide +kernel
theorem dX5_obstacleToAdding_1 : decode cX5_obstacleToAdding 1 = .ok (.getfield 18, 3) := by decide +kernel
theorem dX5_obstacleToAdding_4 : decode cX5_obstacleToAdding 4 = .ok (.iconst 5, 1) := by decide +kernel
theorem dX5_obstacleToAdding_5 : decode cX5_obstacleToAdding 5 = .ok (.if_icmp .lt 11, 3) := by decide +kernel
theorem dX5_obstacleToAdding_8 : decode cX5_obstacleToAdding 8 = .ok (.iconst 1, 1) := by decide +kernel
theorem dX5_obstacleToAdding_9 : decode cX5_obstacleToAdding 9 = .ok (.iconst 5, 1) := by decide +kernel
theorem dX5_obstacleToAdding_10 : decode cX5_obstacleToAdding 10 = .ok (.invokestatic 90, 3) := by decide +kernel
theorem dX5_obstacleToAdding_13 : decode cX5_obstacleToAdding 13 = .ok (.goto 4, 3) := by decide +kernel
theorem dX5_obstacleToAdding_16 : decode cX5_obstacleToAdding 16 = .ok (.iconst 0, 1) := by decide +kernel
theorem dX5_obstacleToAdding_17 : decode cX5_obstacleToAdding 17 = .ok (.ireturn, 1) := by decide +kernel
theorem dX5_carryOut_0 : decode cX5_carryOut 0 = .ok (.aload_n 1, 1) := by decide +kernel
theorem dX5_carryOut_1 : decode cX5_carryOut 1 = .ok (.getstatic 42, 3) := by decide +kernel
theorem dX5_carryOut_4 : decode cX5_carryOut 4 = .ok (.if_acmp .ne 11, 3) := by decide +kernel
theorem dX5_carryOut_7 : decode cX5_carryOut 7 = .ok (.aload_n 0, 1) := by decide +kernel
theorem dX5_carryOut_8 : decode cX5_carryOut 8 = .ok (.iload_n 3, 1) := by decide +kernel
theorem dX5_carryOut_9 : decode cX5_carryOut 9 = .ok (.iload 4, 2) := by decide +kernel
theorem dX5_carryOut_11 : decode cX5_carryOut 11 = .ok (.invokevirtual 93, 3) := by decide +kernel
theorem dX5_carryOut_14 : decode cX5_carryOut 14 = .ok (.ireturn, 1) := by decide +kernel
theorem dX5_carryOut_15 : decode cX5_carryOut 15 = .ok (.aload_n 0, 1) := by decide +kernel
theorem dX5_carryOut_16 : decode cX5_carryOut 16 = .ok (.iload_n 2, 1) := by decide +kernel
theorem dX5_carryOut_17 : decode cX5_carryOut 17 = .ok (.invokevirtual 34, 3) := by decide +kernel
theorem dX5_carryOut_20 : decode cX5_carryOut 20 = .ok (.astore 6, 2) := by decide +kernel
theorem dX5_carryOut_22 : decode cX5_carryOut 22 = .ok (.aload 6, 2) := by decide +kernel
theorem dX5_carryOut_24 : decode cX5_carryOut 24 = .ok (.ifnonnull 5, 3) := by decide +kernel
theorem dX5_carryOut_27 : decode cX5_carryOut 27 = .ok (.iconst (-1), 1) := by decide +kernel
theorem dX5_carryOut_28 : decode cX5_carryOut 28 = .ok (.ireturn, 1) := by decide +kernel
theorem dX5_carryOut_29 : decode cX5_carryOut 29 = .ok (.getstatic 60, 3) := by decide +kernel
theorem dX5_carryOut_32 : decode cX5_carryOut 32 = .ok (.aload_n 1, 1) := by decide +kernel
theorem dX5_carryOut_33 : decode cX5_carryOut 33 = .ok (.invokevirtual 66, 3) := by decide +kernel
theorem dX5_carryOut_36 : decode cX5_carryOut 36 = .ok (.iaload, 1) := by decide +kernel
theorem dX5_carryOut_37 : decode cX5_carryOut 37 = .ok (.tableswitch 126 1 6 #[39, 50, 71, 96, 102, 110], 39) := by decide +kernel
theorem dX5_carryOut_76 : decode cX5_carryOut 76 = .ok (.aload 6, 2) := by decide +kernel
theorem dX5_carryOut_78 : decode cX5_carryOut 78 = .ok (.iload_n 3, 1) := by decide +kernel
theorem dX5_carryOut_79 : decode cX5_carryOut 79 = .ok (.iload 4, 2) := by decide +kernel
theorem dX5_carryOut_81 : decode cX5_carryOut 81 = .ok (.iload 5, 2) := by decide +kernel
theorem dX5_carryOut_83 : decode cX5_carryOut 83 = .ok (.invokevirtual 96, 3) := by decide +kernel
theorem dX5_carryOut_86 : decode cX5_carryOut 86 = .ok (.ireturn, 1) := by decide +kernel
theorem dX5_carryOut_87 : decode cX5_carryOut 87 = .ok (.aload_n 0, 1) := by decide +kernel
theorem dX5_carryOut_88 : decode cX5_carryOut 88 = .ok (.dup, 1) := by decide +kernel
theorem dX5_carryOut_89 : decode cX5_carryOut 89 = .ok (.getfield 22, 3) := by decide +kernel
theorem dX5_carryOut_92 : decode cX5_carryOut 92 = .ok (.iconst 1, 1) := by decide +kernel
theorem dX5_carryOut_93 : decode cX5_carryOut 93 = .ok (.iadd, 1) := by decide +kernel
theorem dX5_carryOut_94 : decode cX5_carryOut 94 = .ok (.putfield 22, 3) := by decide +kernel
theorem dX5_carryOut_97 : decode cX5_carryOut 97 = .ok (.aload 6, 2) := by decide +kernel
theorem dX5_carryOut_99 : decode cX5_carryOut 99 = .ok (.iload_n 3, 1) := by decide +kernel
theorem dX5_carryOut_100 : decode cX5_carryOut 100 = .ok (.iload 4, 2) := by decide +kernel
theorem dX5_carryOut_102 : decode cX5_carryOut 102 = .ok (.iload 5, 2) := by decide +kernel
theorem dX5_carryOut_104 : decode cX5_carryOut 104 = .ok (.invokevirtual 100, 3) := by decide +kernel
theorem dX5_carryOut_107 : decode cX5_carryOut 107 = .ok (.ireturn, 1) := by decide +kernel
theorem dX5_carryOut_108 : decode cX5_carryOut 108 = .ok (.aload_n 0, 1) := by decide +kernel
theorem dX5_carryOut_109 : decode cX5_carryOut 109 = .ok (.dup, 1) := by decide +kernel
theorem dX5_carryOut_110 : decode cX5_carryOut 110 = .ok (.getfield 25, 3) := by decide +kernel
theorem dX5_carryOut_113 : decode cX5_carryOut 113 = .ok (.iconst 1, 1) := by decide +kernel
theorem dX5_carryOut_114 : decode cX5_carryOut 114 = .ok (.iadd, 1) := by decide +kernel
theorem dX5_carryOut_115 : decode cX5_carryOut 115 = .ok (.putfield 25, 3) := by decide +kernel
theorem dX5_carryOut_118 : decode cX5_carryOut 118 = .ok (.aload 6, 2) := by decide +kernel
theorem dX5_carryOut_120 : decode cX5_carryOut 120 = .ok (.iload_n 3, 1) := by decide +kernel
theorem dX5_carryOut_121 : decode cX5_carryOut 121 = .ok (.iload 4, 2) := by decide +kernel
theorem dX5_carryOut_123 : decode cX5_carryOut 123 = .ok (.iconst (-1), 1) := by decide +kernel
theorem dX5_carryOut_124 : decode cX5_carryOut 124 = .ok (.invokevirtual 103, 3) := by decide +kernel
theorem dX5_carryOut_127 : decode cX5_carryOut 127 = .ok (.aload 6, 2) := by decide +kernel
theorem dX5_carryOut_129 : decode cX5_carryOut 129 = .ok (.invokevirtual 107, 3) := by decide +kernel
theorem dX5_carryOut_132 : decode cX5_carryOut 132 = .ok (.ireturn, 1) := by decide +kernel
theorem dX5_carryOut_133 : decode cX5_carryOut 133 = .ok (.aload 6, 2) := by decide +kernel
theorem dX5_carryOut_135 : decode cX5_carryOut 135 = .ok (.invokevirtual 110, 3) := by decide +kernel
theorem dX5_carryOut_138 : decode cX5_carryOut 138 = .ok (.ireturn, 1) := by decide +kernel
theorem dX5_carryOut_139 : decode cX5_carryOut 139 = .ok (.aload_n 0, 1) := by decide +kernel
theorem dX5_carryOut_140 : decode cX5_carryOut 140 = .ok (.aload 6, 2) := by decide +kernel
theorem dX5_carryOut_142 : decode cX5_carryOut 142 = .ok (.iload_n 2, 1) := by decide +kernel
theorem dX5_carryOut_143 : decode cX5_carryOut 143 = .ok (.invokevirtual 113, 3) := by decide +kernel
theorem dX5_carryOut_146 : decode cX5_carryOut 146 = .ok (.ireturn, 1) := by decide +kernel
theorem dX5_carryOut_147 : decode cX5_carryOut 147 = .ok (.aload_n 0, 1) := by decide +kernel
theorem dX5_carryOut_148 : decode cX5_carryOut 148 = .ok (.dup, 1) := by decide +kernel
theorem dX5_carryOut_149 : decode cX5_carryOut 149 = .ok (.getfield 28, 3) := by decide +kernel
theorem dX5_carryOut_152 : decode cX5_carryOut 152 = .ok (.iconst 1, 1) := by decide +kernel
theorem dX5_carryOut_153 : decode cX5_carryOut 153 = .ok (.iadd, 1) := by decide +kernel
theorem dX5_carryOut_154 : decode cX5_carryOut 154 = .ok (.putfield 28, 3) := by decide +kernel
theorem dX5_carryOut_157 : decode cX5_carryOut 157 = .ok (.aload 6, 2) := by decide +kernel
theorem dX5_carryOut_159 : decode cX5_carryOut 159 = .ok (.invokevirtual 117, 3) := by decide +kernel
theorem dX5_carryOut_162 : decode cX5_carryOut 162 = .ok (.ireturn, 1) := by decide +kernel
theorem dX5_carryOut_163 : decode cX5_carryOut 163 = .ok (.aload 6, 2) := by decide +kernel
theorem dX5_carryOut_165 : decode cX5_carryOut 165 = .ok (.invokevirtual 120, 3) := by decide +kernel
theorem dX5_carryOut_168 : decode cX5_carryOut 168 = .ok (.istore 7, 2) := by decide +kernel
theorem dX5_carryOut_170 : decode cX5_carryOut 170 = .ok (.aload_n 0, 1) := by decide +kernel
theorem dX5_carryOut_171 : decode cX5_carryOut 171 = .ok (.dup, 1) := by decide +kernel
theorem dX5_carryOut_172 : decode cX5_carryOut 172 = .ok (.getfield 31, 3) := by decide +kernel
theorem dX5_carryOut_175 : decode cX5_carryOut 175 = .ok (.iload 7, 2) := by decide +kernel
theorem dX5_carryOut_177 : decode cX5_carryOut 177 = .ok (.iadd, 1) := by decide +kernel
theorem dX5_carryOut_178 : decode cX5_carryOut 178 = .ok (.putfield 31, 3) := by decide +kernel
theorem dX5_carryOut_181 : decode cX5_carryOut 181 = .ok (.iload 7, 2) := by decide +kernel
theorem dX5_carryOut_183 : decode cX5_carryOut 183 = .ok (.ireturn, 1) := by decide +kernel
theorem dX5_beginScroll_0 : decode cX5_beginScroll 0 = .ok (.aload_n 0, 1) := by decide +kernel
theorem dX5_beginScroll_1 : decode cX5_beginScroll 1 = .ok (.dup, 1) := by decide +kernel
theorem dX5_beginScroll_2 : decode cX5_beginScroll 2 = .ok (.getfield 18, 3) := by decide +kernel
theorem dX5_beginScroll_5 : decode cX5_beginScroll 5 = .ok (.iconst 1, 1) := by decide +kernel
theorem dX5_beginScroll_6 : decode cX5_beginScroll 6 = .ok (.iadd, 1) := by decide +kernel
theorem dX5_beginScroll_7 : decode cX5_beginScroll 7 = .ok (.putfield 18, 3) := by decide +kernel
theorem dX5_beginScroll_10 : decode cX5_beginScroll 10 = .ok (.aload_n 0, 1) := by decide +kernel
theorem dX5_beginScroll_11 : decode cX5_beginScroll 11 = .ok (.aload_n 0, 1) := by decide +kernel
theorem dX5_beginScroll_12 : decode cX5_beginScroll 12 = .ok (.getfield 18, 3) := by decide +kernel
theorem dX5_beginScroll_15 : decode cX5_beginScroll 15 = .ok (.iconst 1, 1) := by decide +kernel
theorem dX5_beginScroll_16 : decode cX5_beginScroll 16 = .ok (.isub, 1) := by decide +kernel
theorem dX5_beginScroll_17 : decode cX5_beginScroll 17 = .ok (.invokevirtual 34, 3) := by decide +kernel
theorem dX5_beginScroll_20 : decode cX5_beginScroll 20 = .ok (.astore_n 3, 1) := by decide +kernel
theorem dX5_beginScroll_21 : decode cX5_beginScroll 21 = .ok (.aload_n 3, 1) := by decide +kernel
theorem dX5_beginScroll_22 : decode cX5_beginScroll 22 = .ok (.ifnull 9, 3) := by decide +kernel
theorem dX5_beginScroll_25 : decode cX5_beginScroll 25 = .ok (.aload_n 3, 1) := by decide +kernel
theorem dX5_beginScroll_26 : decode cX5_beginScroll 26 = .ok (.iload_n 1, 1) := by decide +kernel
theorem dX5_beginScroll_27 : decode cX5_beginScroll 27 = .ok (.iload_n 2, 1) := by decide +kernel
theorem dX5_beginScroll_28 : decode cX5_beginScroll 28 = .ok (.invokevirtual 123, 3) := by decide +kernel
theorem dX5_beginScroll_31 : decode cX5_beginScroll 31 = .ok (.aload_n 0, 1) := by decide +kernel
theorem dX5_beginScroll_32 : decode cX5_beginScroll 32 = .ok (.getfield 18, 3) := by decide +kernel
theorem dX5_beginScroll_35 : decode cX5_beginScroll 35 = .ok (.iconst 1, 1) := by decide +kernel
theorem dX5_beginScroll_36 : decode cX5_beginScroll 36 = .ok (.isub, 1) := by decide +kernel
theorem dX5_beginScroll_37 : decode cX5_beginScroll 37 = .ok (.ireturn, 1) := by decide +kernel
theorem dX5_addCopy_0 : decode cX5_addCopy 0 = .ok (.aload_n 0, 1) := by decide +kernel
theorem dX5_addCopy_1 : decode cX5_addCopy 1 = .ok (.dup, 1) := by decide +kernel
theorem dX5_addCopy_2 : decode cX5_addCopy 2 = .ok (.getfield 18, 3) := by decide +kernel
theorem dX5_addCopy_5 : decode cX5_addCopy 5 = .ok (.iconst 1, 1) := by decide +kernel
theorem dX5_addCopy_6 : decode cX5_addCopy 6 = .ok (.iadd, 1) := by decide +kernel
theorem dX5_addCopy_7 : decode cX5_addCopy 7 = .ok (.putfield 18, 3) := by decide +kernel
theorem dX5_addCopy_10 : decode cX5_addCopy 10 = .ok (.aload_n 0, 1) := by decide +kernel
theorem dX5_addCopy_11 : decode cX5_addCopy 11 = .ok (.aload_n 0, 1) := by decide +kernel
theorem dX5_addCopy_12 : decode cX5_addCopy 12 = .ok (.getfield 18, 3) := by decide +kernel
theorem dX5_addCopy_15 : decode cX5_addCopy 15 = .ok (.iconst 1, 1) := by decide +kernel
theorem dX5_addCopy_16 : decode cX5_addCopy 16 = .ok (.isub, 1) := by decide +kernel
theorem dX5_addCopy_17 : decode cX5_addCopy 17 = .ok (.invokevirtual 34, 3) := by decide +kernel
theorem dX5_addCopy_20 : decode cX5_addCopy 20 = .ok (.astore_n 3, 1) := by decide +kernel
theorem dX5_addCopy_21 : decode cX5_addCopy 21 = .ok (.aload_n 3, 1) := by decide +kernel
theorem dX5_addCopy_22 : decode cX5_addCopy 22 = .ok (.ifnull 13, 3) := by decide +kernel
theorem dX5_addCopy_25 : decode cX5_addCopy 25 = .ok (.aload_n 3, 1) := by decide +kernel
theorem dX5_addCopy_26 : decode cX5_addCopy 26 = .ok (.aload_n 1, 1) := by decide +kernel
theorem dX5_addCopy_27 : decode cX5_addCopy 27 = .ok (.invokevirtual 38, 3) := by decide +kernel
theorem dX5_addCopy_30 : decode cX5_addCopy 30 = .ok (.aload_n 3, 1) := by decide +kernel
theorem dX5_addCopy_31 : decode cX5_addCopy 31 = .ok (.iload_n 2, 1) := by decide +kernel
theorem dX5_addCopy_32 : decode cX5_addCopy 32 = .ok (.invokevirtual 127, 3) := by decide +kernel
theorem dX5_addCopy_35 : decode cX5_addCopy 35 = .ok (.aload_n 0, 1) := by decide +kernel
theorem dX5_addCopy_36 : decode cX5_addCopy 36 = .ok (.getfield 18, 3) := by decide +kernel
theorem dX5_addCopy_39 : decode cX5_addCopy 39 = .ok (.iconst 1, 1) := by decide +kernel
theorem dX5_addCopy_40 : decode cX5_addCopy 40 = .ok (.isub, 1) := by decide +kernel
theorem dX5_addCopy_41 : decode cX5_addCopy 41 = .ok (.ireturn, 1) := by decide +kernel
theorem dX5_numberAtRank_0 : decode cX5_numberAtRank 0 = .ok (.iconst 0, 1) := by decide +kernel
theorem dX5_numberAtRank_1 : decode cX5_numberAtRank 1 = .ok (.istore_n 2, 1) := by decide +kernel
theorem dX5_numberAtRank_2 : decode cX5_numberAtRank 2 = .ok (.iload_n 2, 1) := by decide +kernel
theorem dX5_numberAtRank_3 : decode cX5_numberAtRank 3 = .ok (.aload_n 0, 1) := by decide +kernel
theorem dX5_numberAtRank_4 : decode cX5_numberAtRank 4 = .ok (.getfield 18, 3) := by decide +kernel
theorem dX5_numberAtRank_7 : decode cX5_numberAtRank 7 = .ok (.if_icmp .ge 58, 3) := by decide +kernel
theorem dX5_numberAtRank_10 : decode cX5_numberAtRank 10 = .ok (.iconst 0, 1) := by decide +kernel
theorem dX5_numberAtRank_11 : decode cX5_numberAtRank 11 = .ok (.istore_n 3, 1) := by decide +kernel
theorem dX5_numberAtRank_12 : decode cX5_numberAtRank 12 = .ok (.iconst 0, 1) := by decide +kernel
theorem dX5_numberAtRank_13 : decode cX5_numberAtRank 13 = .ok (.istore 4, 2) := by decide +kernel
theorem dX5_numberAtRank_15 : decode cX5_numberAtRank 15 = .ok (.iload 4, 2) := by decide +kernel
theorem dX5_numberAtRank_17 : decode cX5_numberAtRank 17 = .ok (.aload_n 0, 1) := by decide +kernel
theorem dX5_numberAtRank_18 : decode cX5_numberAtRank 18 = .ok (.getfield 18, 3) := by decide +kernel
theorem dX5_numberAtRank_21 : decode cX5_numberAtRank 21 = .ok (.if_icmp .ge 31, 3) := by decide +kernel
theorem dX5_numberAtRank_24 : decode cX5_numberAtRank 24 = .ok (.iload_n 3, 1) := by decide +kernel
theorem dX5_numberAtRank_25 : decode cX5_numberAtRank 25 = .ok (.aload_n 0, 1) := by decide +kernel
theorem dX5_numberAtRank_26 : decode cX5_numberAtRank 26 = .ok (.iload 4, 2) := by decide +kernel
theorem dX5_numberAtRank_28 : decode cX5_numberAtRank 28 = .ok (.invokevirtual 131, 3) := by decide +kernel
theorem dX5_numberAtRank_31 : decode cX5_numberAtRank 31 = .ok (.aload_n 0, 1) := by decide +kernel
theorem dX5_numberAtRank_32 : decode cX5_numberAtRank 32 = .ok (.iload_n 2, 1) := by decide +kernel
theorem dX5_numberAtRank_33 : decode cX5_numberAtRank 33 = .ok (.invokevirtual 131, 3) := by decide +kernel
theorem dX5_numberAtRank_36 : decode cX5_numberAtRank 36 = .ok (.if_icmp .ge 7, 3) := by decide +kernel
theorem dX5_numberAtRank_39 : decode cX5_numberAtRank 39 = .ok (.iconst 1, 1) := by decide +kernel
theorem dX5_numberAtRank_40 : decode cX5_numberAtRank 40 = .ok (.goto 4, 3) := by decide +kernel
theorem dX5_numberAtRank_43 : decode cX5_numberAtRank 43 = .ok (.iconst 0, 1) := by decide +kernel
theorem dX5_numberAtRank_44 : decode cX5_numberAtRank 44 = .ok (.iadd, 1) := by decide +kernel
theorem dX5_numberAtRank_45 : decode cX5_numberAtRank 45 = .ok (.istore_n 3, 1) := by decide +kernel
theorem dX5_numberAtRank_46 : decode cX5_numberAtRank 46 = .ok (.iinc 4 1, 3) := by decide +kernel
theorem dX5_numberAtRank_49 : decode cX5_numberAtRank 49 = .ok (.goto (-34), 3) := by decide +kernel
theorem dX5_numberAtRank_52 : decode cX5_numberAtRank 52 = .ok (.iload_n 3, 1) := by decide +kernel
theorem dX5_numberAtRank_53 : decode cX5_numberAtRank 53 = .ok (.iload_n 1, 1) := by decide +kernel
theorem dX5_numberAtRank_54 : decode cX5_numberAtRank 54 = .ok (.if_icmp .ne 5, 3) := by decide +kernel
theorem dX5_numberAtRank_57 : decode cX5_numberAtRank 57 = .ok (.iload_n 2, 1) := by decide +kernel
theorem dX5_numberAtRank_58 : decode cX5_numberAtRank 58 = .ok (.ireturn, 1) := by decide +kernel
theorem dX5_numberAtRank_59 : decode cX5_numberAtRank 59 = .ok (.iinc 2 1, 3) := by decide +kernel
theorem dX5_numberAtRank_62 : decode cX5_numberAtRank 62 = .ok (.goto (-60), 3) := by decide +kernel
theorem dX5_numberAtRank_65 : decode cX5_numberAtRank 65 = .ok (.iconst (-1), 1) := by decide +kernel
theorem dX5_numberAtRank_66 : decode cX5_numberAtRank 66 = .ok (.ireturn, 1) := by decide +kernel
theorem dX5_rankKey_0 : decode cX5_rankKey 0 = .ok (.aload_n 0, 1) := by decide +kernel
theorem dX5_rankKey_1 : decode cX5_rankKey 1 = .ok (.iload_n 1, 1) := by decide +kernel
theorem dX5_rankKey_2 : decode cX5_rankKey 2 = .ok (.invokevirtual 34, 3) := by decide +kernel
theorem dX5_rankKey_5 : decode cX5_rankKey 5 = .ok (.astore_n 2, 1) := by decide +kernel
theorem dX5_rankKey_6 : decode cX5_rankKey 6 = .ok (.aload_n 2, 1) := by decide +kernel
theorem dX5_rankKey_7 : decode cX5_rankKey 7 = .ok (.ifnonnull 5, 3) := by decide +kernel
theorem dX5_rankKey_10 : decode cX5_rankKey 10 = .ok (.iconst (-1), 1) := by decide +kernel
theorem dX5_rankKey_11 : decode cX5_rankKey 11 = .ok (.ireturn, 1) := by decide +kernel
theorem dX5_rankKey_12 : decode cX5_rankKey 12 = .ok (.bipush 100, 2) := by decide +kernel
theorem dX5_rankKey_14 : decode cX5_rankKey 14 = .ok (.aload_n 2, 1) := by decide +kernel
theorem dX5_rankKey_15 : decode cX5_rankKey 15 = .ok (.invokevirtual 134, 3) := by decide +kernel
theorem dX5_rankKey_18 : decode cX5_rankKey 18 = .ok (.imul, 1) := by decide +kernel
theorem dX5_rankKey_19 : decode cX5_rankKey 19 = .ok (.bipush 48, 2) := by decide +kernel
theorem dX5_rankKey_21 : decode cX5_rankKey 21 = .ok (.iadd, 1) := by decide +kernel
theorem dX5_rankKey_22 : decode cX5_rankKey 22 = .ok (.aload_n 2, 1) := by decide +kernel
theorem dX5_rankKey_23 : decode cX5_rankKey 23 = .ok (.invokevirtual 137, 3) := by decide +kernel
theorem dX5_rankKey_26 : decode cX5_rankKey 26 = .ok (.isub, 1) := by decide +kernel
theorem dX5_rankKey_27 : decode cX5_rankKey 27 = .ok (.bipush 10, 2) := by decide +kernel
theorem dX5_rankKey_29 : decode cX5_rankKey 29 = .ok (.imul, 1) := by decide +kernel
theorem dX5_rankKey_30 : decode cX5_rankKey 30 = .ok (.iload_n 1, 1) := by decide +kernel
theorem dX5_rankKey_31 : decode cX5_rankKey 31 = .ok (.iadd, 1) := by decide +kernel
theorem dX5_rankKey_32 : decode cX5_rankKey 32 = .ok (.ireturn, 1) := by decide +kernel
theorem dX5_addedUp_0 : decode cX5_addedUp 0 = .ok (.iconst 0, 1) := by decide +kernel
theorem dX5_addedUp_1 : decode cX5_addedUp 1 = .ok (.istore_n 2, 1) := by decide +kernel
theorem dX5_addedUp_2 : decode cX5_addedUp 2 = .ok (.iconst 0, 1) := by decide +kernel
theorem dX5_addedUp_3 : decode cX5_addedUp 3 = .ok (.istore_n 3, 1) := by decide +kernel
theorem dX5_addedUp_4 : decode cX5_addedUp 4 = .ok (.iload_n 3, 1) := by decide +kernel
theorem dX5_addedUp_5 : decode cX5_addedUp 5 = .ok (.aload_n 0, 1) := by decide +kernel
theorem dX5_addedUp_6 : decode cX5_addedUp 6 = .ok (.getfield 18, 3) := by decide +kernel
theorem dX5_addedUp_9 : decode cX5_addedUp 9 = .ok (.if_icmp .ge 34, 3) := by decide +kernel
theorem dX5_addedUp_12 : decode cX5_addedUp 12 = .ok (.aload_n 0, 1) := by decide +kernel
theorem dX5_addedUp_13 : decode cX5_addedUp 13 = .ok (.iload_n 3, 1) := by decide +kernel
theorem dX5_addedUp_14 : decode cX5_addedUp 14 = .ok (.invokevirtual 34, 3) := by decide +kernel
theorem dX5_addedUp_17 : decode cX5_addedUp 17 = .ok (.astore 4, 2) := by decide +kernel
theorem dX5_addedUp_19 : decode cX5_addedUp 19 = .ok (.iload_n 2, 1) := by decide +kernel
theorem dX5_addedUp_20 : decode cX5_addedUp 20 = .ok (.aload 4, 2) := by decide +kernel
theorem dX5_addedUp_22 : decode cX5_addedUp 22 = .ok (.ifnonnull 7, 3) := by decide +kernel
theorem dX5_addedUp_25 : decode cX5_addedUp 25 = .ok (.iconst 0, 1) := by decide +kernel
theorem dX5_addedUp_26 : decode cX5_addedUp 26 = .ok (.goto 9, 3) := by decide +kernel
theorem dX5_addedUp_29 : decode cX5_addedUp 29 = .ok (.aload 4, 2) := by decide +kernel
theorem dX5_addedUp_31 : decode cX5_addedUp 31 = .ok (.iload_n 1, 1) := by decide +kernel
theorem dX5_addedUp_32 : decode cX5_addedUp 32 = .ok (.invokestatic 140, 3) := by decide +kernel
theorem dX5_addedUp_35 : decode cX5_addedUp 35 = .ok (.iadd, 1) := by decide +kernel
theorem dX5_addedUp_36 : decode cX5_addedUp 36 = .ok (.istore_n 2, 1) := by decide +kernel
theorem dX5_addedUp_37 : decode cX5_addedUp 37 = .ok (.iinc 3 1, 3) := by decide +kernel
theorem dX5_addedUp_40 : decode cX5_addedUp 40 = .ok (.goto (-36), 3) := by decide +kernel
theorem dX5_addedUp_43 : decode cX5_addedUp 43 = .ok (.iload_n 2, 1) := by decide +kernel
theorem dX5_addedUp_44 : decode cX5_addedUp 44 = .ok (.ireturn, 1) := by decide +kernel
theorem dX5_share_0 : decode cX5_share 0 = .ok (.iload_n 1, 1) := by decide +kernel
theorem dX5_share_1 : decode cX5_share 1 = .ok (.tableswitch 74 0 4 #[35, 37, 50, 64, 69], 35) := by decide +kernel
theorem dX5_share_36 : decode cX5_share 36 = .ok (.iconst 1, 1) := by decide +kernel
theorem dX5_share_37 : decode cX5_share 37 = .ok (.ireturn, 1) := by decide +kernel
theorem dX5_share_38 : decode cX5_share 38 = .ok (.aload_n 0, 1) := by decide +kernel
theorem dX5_share_39 : decode cX5_share 39 = .ok (.getfield 143, 3) := by decide +kernel
theorem dX5_share_42 : decode cX5_share 42 = .ok (.ifCond .eq 7, 3) := by decide +kernel
theorem dX5_share_45 : decode cX5_share 45 = .ok (.iconst 1, 1) := by decide +kernel
theorem dX5_share_46 : decode cX5_share 46 = .ok (.goto 4, 3) := by decide +kernel
theorem dX5_share_49 : decode cX5_share 49 = .ok (.iconst 0, 1) := by decide +kernel
theorem dX5_share_50 : decode cX5_share 50 = .ok (.ireturn, 1) := by decide +kernel
theorem dX5_share_51 : decode cX5_share 51 = .ok (.aload_n 0, 1) := by decide +kernel
theorem dX5_share_52 : decode cX5_share 52 = .ok (.getfield 146, 3) := by decide +kernel
theorem dX5_share_55 : decode cX5_share 55 = .ok (.iconst (-1), 1) := by decide +kernel
theorem dX5_share_56 : decode cX5_share 56 = .ok (.if_icmp .ne 7, 3) := by decide +kernel
theorem dX5_share_59 : decode cX5_share 59 = .ok (.iconst 0, 1) := by decide +kernel
theorem dX5_share_60 : decode cX5_share 60 = .ok (.goto 4, 3) := by decide +kernel
theorem dX5_share_63 : decode cX5_share 63 = .ok (.iconst 1, 1) := by decide +kernel
theorem dX5_share_64 : decode cX5_share 64 = .ok (.ireturn, 1) := by decide +kernel
theorem dX5_share_65 : decode cX5_share 65 = .ok (.aload_n 0, 1) := by decide +kernel
theorem dX5_share_66 : decode cX5_share 66 = .ok (.invokevirtual 137, 3) := by decide +kernel
theorem dX5_share_69 : decode cX5_share 69 = .ok (.ireturn, 1) := by decide +kernel
theorem dX5_share_70 : decode cX5_share 70 = .ok (.aload_n 0, 1) := by decide +kernel
theorem dX5_share_71 : decode cX5_share 71 = .ok (.invokevirtual 107, 3) := by decide +kernel
theorem dX5_share_74 : decode cX5_share 74 = .ok (.ireturn, 1) := by decide +kernel
theorem dX5_share_75 : decode cX5_share 75 = .ok (.aload_n 0, 1) := by decide +kernel
theorem dX5_share_76 : decode cX5_share 76 = .ok (.invokevirtual 149, 3) := by decide +kernel
theorem dX5_share_79 : decode cX5_share 79 = .ok (.ireturn, 1) := by decide +kernel
theorem dX5_isConsistent_0 : decode cX5_isConsistent 0 = .ok (.iconst 0, 1) := by decide +kernel
theorem dX5_isConsistent_1 : decode cX5_isConsistent 1 = .ok (.istore_n 1, 1) := by decide +kernel
theorem dX5_isConsistent_2 : decode cX5_isConsistent 2 = .ok (.iconst 0, 1) := by decide +kernel
theorem dX5_isConsistent_3 : decode cX5_isConsistent 3 = .ok (.istore_n 2, 1) := by decide +kernel
theorem dX5_isConsistent_4 : decode cX5_isConsistent 4 = .ok (.iconst 1, 1) := by decide +kernel
theorem dX5_isConsistent_5 : decode cX5_isConsistent 5 = .ok (.istore_n 3, 1) := by decide +kernel
theorem dX5_isConsistent_6 : decode cX5_isConsistent 6 = .ok (.iconst 0, 1) := by decide +kernel
theorem dX5_isConsistent_7 : decode cX5_isConsistent 7 = .ok (.istore 4, 2) := by decide +kernel
theorem dX5_isConsistent_9 : decode cX5_isConsistent 9 = .ok (.iload 4, 2) := by decide +kernel
theorem dX5_isConsistent_11 : decode cX5_isConsistent 11 = .ok (.aload_n 0, 1) := by decide +kernel
theorem dX5_isConsistent_12 : decode cX5_isConsistent 12 = .ok (.getfield 18, 3) := by decide +kernel
theorem dX5_isConsistent_15 : decode cX5_isConsistent 15 = .ok (.if_icmp .ge 92, 3) := by decide +kernel
theorem dX5_isConsistent_18 : decode cX5_isConsistent 18 = .ok (.aload_n 0, 1) := by decide +kernel
theorem dX5_isConsistent_19 : decode cX5_isConsistent 19 = .ok (.iload 4, 2) := by decide +kernel
theorem dX5_isConsistent_21 : decode cX5_isConsistent 21 = .ok (.invokevirtual 34, 3) := by decide +kernel
theorem dX5_isConsistent_24 : decode cX5_isConsistent 24 = .ok (.astore 5, 2) := by decide +kernel
theorem dX5_isConsistent_26 : decode cX5_isConsistent 26 = .ok (.aload 5, 2) := by decide +kernel
theorem dX5_isConsistent_28 : decode cX5_isConsistent 28 = .ok (.ifnull 73, 3) := by decide +kernel
theorem dX5_isConsistent_31 : decode cX5_isConsistent 31 = .ok (.iload_n 1, 1) := by decide +kernel
theorem dX5_isConsistent_32 : decode cX5_isConsistent 32 = .ok (.aload 5, 2) := by decide +kernel
theorem dX5_isConsistent_34 : decode cX5_isConsistent 34 = .ok (.getfield 152, 3) := by decide +kernel
theorem dX5_isConsistent_37 : decode cX5_isConsistent 37 = .ok (.iadd, 1) := by decide +kernel
theorem dX5_isConsistent_38 : decode cX5_isConsistent 38 = .ok (.istore_n 1, 1) := by decide +kernel
theorem dX5_isConsistent_39 : decode cX5_isConsistent 39 = .ok (.iload_n 2, 1) := by decide +kernel
theorem dX5_isConsistent_40 : decode cX5_isConsistent 40 = .ok (.aload 5, 2) := by decide +kernel
theorem dX5_isConsistent_42 : decode cX5_isConsistent 42 = .ok (.getfield 153, 3) := by decide +kernel
theorem dX5_isConsistent_45 : decode cX5_isConsistent 45 = .ok (.iadd, 1) := by decide +kernel
theorem dX5_isConsistent_46 : decode cX5_isConsistent 46 = .ok (.istore_n 2, 1) := by decide +kernel
theorem dX5_isConsistent_47 : decode cX5_isConsistent 47 = .ok (.aload 5, 2) := by decide +kernel
theorem dX5_isConsistent_49 : decode cX5_isConsistent 49 = .ok (.getfield 143, 3) := by decide +kernel
theorem dX5_isConsistent_52 : decode cX5_isConsistent 52 = .ok (.ifCond .eq 23, 3) := by decide +kernel
theorem dX5_isConsistent_55 : decode cX5_isConsistent 55 = .ok (.aload 5, 2) := by decide +kernel
theorem dX5_isConsistent_57 : decode cX5_isConsistent 57 = .ok (.invokevirtual 107, 3) := by decide +kernel
theorem dX5_isConsistent_60 : decode cX5_isConsistent 60 = .ok (.ifCond .ne 15, 3) := by decide +kernel
theorem dX5_isConsistent_63 : decode cX5_isConsistent 63 = .ok (.aload 5, 2) := by decide +kernel
theorem dX5_isConsistent_65 : decode cX5_isConsistent 65 = .ok (.invokevirtual 154, 3) := by decide +kernel
theorem dX5_isConsistent_68 : decode cX5_isConsistent 68 = .ok (.ifCond .eq 7, 3) := by decide +kernel
theorem dX5_isConsistent_71 : decode cX5_isConsistent 71 = .ok (.iconst 1, 1) := by decide +kernel
theorem dX5_isConsistent_72 : decode cX5_isConsistent 72 = .ok (.goto 4, 3) := by decide +kernel
theorem dX5_isConsistent_75 : decode cX5_isConsistent 75 = .ok (.iconst 0, 1) := by decide +kernel
theorem dX5_isConsistent_76 : decode cX5_isConsistent 76 = .ok (.istore 6, 2) := by decide +kernel
theorem dX5_isConsistent_78 : decode cX5_isConsistent 78 = .ok (.iload_n 3, 1) := by decide +kernel
theorem dX5_isConsistent_79 : decode cX5_isConsistent 79 = .ok (.ifCond .eq 20, 3) := by decide +kernel
theorem dX5_isConsistent_82 : decode cX5_isConsistent 82 = .ok (.iload 6, 2) := by decide +kernel
theorem dX5_isConsistent_84 : decode cX5_isConsistent 84 = .ok (.ifCond .eq 11, 3) := by decide +kernel
theorem dX5_isConsistent_87 : decode cX5_isConsistent 87 = .ok (.aload 5, 2) := by decide +kernel
theorem dX5_isConsistent_89 : decode cX5_isConsistent 89 = .ok (.invokevirtual 158, 3) := by decide +kernel
theorem dX5_isConsistent_92 : decode cX5_isConsistent 92 = .ok (.ifCond .eq 7, 3) := by decide +kernel
theorem dX5_isConsistent_95 : decode cX5_isConsistent 95 = .ok (.iconst 1, 1) := by decide +kernel
theorem dX5_isConsistent_96 : decode cX5_isConsistent 96 = .ok (.goto 4, 3) := by decide +kernel
theorem dX5_isConsistent_99 : decode cX5_isConsistent 99 = .ok (.iconst 0, 1) := by decide +kernel
theorem dX5_isConsistent_100 : decode cX5_isConsistent 100 = .ok (.istore_n 3, 1) := by decide +kernel
theorem dX5_isConsistent_101 : decode cX5_isConsistent 101 = .ok (.iinc 4 1, 3) := by decide +kernel
theorem dX5_isConsistent_104 : decode cX5_isConsistent 104 = .ok (.goto (-95), 3) := by decide +kernel
theorem dX5_isConsistent_107 : decode cX5_isConsistent 107 = .ok (.iload_n 3, 1) := by decide +kernel
theorem dX5_isConsistent_108 : decode cX5_isConsistent 108 = .ok (.ifCond .eq 23, 3) := by decide +kernel
theorem dX5_isConsistent_111 : decode cX5_isConsistent 111 = .ok (.iload_n 1, 1) := by decide +kernel
theorem dX5_isConsistent_112 : decode cX5_isConsistent 112 = .ok (.aload_n 0, 1) := by decide +kernel
theorem dX5_isConsistent_113 : decode cX5_isConsistent 113 = .ok (.getfield 28, 3) := by decide +kernel
theorem dX5_isConsistent_116 : decode cX5_isConsistent 116 = .ok (.if_icmp .ne 15, 3) := by decide +kernel
theorem dX5_isConsistent_119 : decode cX5_isConsistent 119 = .ok (.iload_n 2, 1) := by decide +kernel
theorem dX5_isConsistent_120 : decode cX5_isConsistent 120 = .ok (.aload_n 0, 1) := by decide +kernel
theorem dX5_isConsistent_121 : decode cX5_isConsistent 121 = .ok (.getfield 31, 3) := by decide +kernel
theorem dX5_isConsistent_124 : decode cX5_isConsistent 124 = .ok (.if_icmp .ne 7, 3) := by decide +kernel
theorem dX5_isConsistent_127 : decode cX5_isConsistent 127 = .ok (.iconst 1, 1) := by decide +kernel
theorem dX5_isConsistent_128 : decode cX5_isConsistent 128 = .ok (.goto 4, 3) := by decide +kernel
theorem dX5_isConsistent_131 : decode cX5_isConsistent 131 = .ok (.iconst 0, 1) := by decide +kernel
theorem dX5_isConsistent_132 : decode cX5_isConsistent 132 = .ok (.ireturn, 1) := by decide +kernel
theorem dX6_init_0 : decode cX6_init 0 = .ok (.aload_n 0, 1) := by decide +kernel
theorem dX6_init_1 : decode cX6_init 1 = .ok (.invokespecial 3, 3) := by decide +kernel
theorem dX6_init_4 : decode cX6_init 4 = .ok (.aload_n 0, 1) := by decide +kernel
theorem dX6_init_5 : decode cX6_init 5 = .ok (.new 9, 3) := by decide +kernel
theorem dX6_init_8 : decode cX6_init 8 = .ok (.dup, 1) := by decide +kernel
theorem dX6_init_9 : decode cX6_init 9 = .ok (.invokespecial 11, 3) := by decide +kernel
theorem dX6_init_12 : decode cX6_init 12 = .ok (.putfield 12, 3) := by decide +kernel
theorem dX6_init_15 : decode cX6_init 15 = .ok (.aload_n 0, 1) := by decide +kernel
theorem dX6_init_16 : decode cX6_init 16 = .ok (.new 9, 3) := by decide +kernel
theorem dX6_init_19 : decode cX6_init 19 = .ok (.dup, 1) := by decide +kernel
theorem dX6_init_20 : decode cX6_init 20 = .ok (.invokespecial 11, 3) := by decide +kernel
theorem dX6_init_23 : decode cX6_init 23 = .ok (.putfield 16, 3) := by decide +kernel
theorem dX6_init_26 : decode cX6_init 26 = .ok (.aload_n 0, 1) := by decide +kernel
theorem dX6_init_27 : decode cX6_init 27 = .ok (.new 9, 3) := by decide +kernel
theorem dX6_init_30 : decode cX6_init 30 = .ok (.dup, 1) := by decide +kernel
theorem dX6_init_31 : decode cX6_init 31 = .ok (.invokespecial 11, 3) := by decide +kernel
theorem dX6_init_34 : decode cX6_init 34 = .ok (.putfield 19, 3) := by decide +kernel
theorem dX6_init_37 : decode cX6_init 37 = .ok (.aload_n 0, 1) := by decide +kernel
theorem dX6_init_38 : decode cX6_init 38 = .ok (.new 22, 3) := by decide +kernel
theorem dX6_init_41 : decode cX6_init 41 = .ok (.dup, 1) := by decide +kernel
theorem dX6_init_42 : decode cX6_init 42 = .ok (.invokespecial 24, 3) := by decide +kernel
theorem dX6_init_45 : decode cX6_init 45 = .ok (.putfield 25, 3) := by decide +kernel
theorem dX6_init_48 : decode cX6_init 48 = .ok (.aload_n 0, 1) := by decide +kernel
theorem dX6_init_49 : decode cX6_init 49 = .ok (.new 29, 3) := by decide +kernel
theorem dX6_init_52 : decode cX6_init 52 = .ok (.dup, 1) := by decide +kernel
theorem dX6_init_53 : decode cX6_init 53 = .ok (.invokespecial 31, 3) := by decide +kernel
theorem dX6_init_56 : decode cX6_init 56 = .ok (.putfield 32, 3) := by decide +kernel
theorem dX6_init_59 : decode cX6_init 59 = .ok (.aload_n 0, 1) := by decide +kernel
theorem dX6_init_60 : decode cX6_init 60 = .ok (.new 36, 3) := by decide +kernel
theorem dX6_init_63 : decode cX6_init 63 = .ok (.dup, 1) := by decide +kernel
theorem dX6_init_64 : decode cX6_init 64 = .ok (.invokespecial 38, 3) := by decide +kernel
theorem dX6_init_67 : decode cX6_init 67 = .ok (.putfield 39, 3) := by decide +kernel
theorem dX6_init_70 : decode cX6_init 70 = .ok (.aload_n 0, 1) := by decide +kernel
theorem dX6_init_71 : decode cX6_init 71 = .ok (.new 43, 3) := by decide +kernel
theorem dX6_init_74 : decode cX6_init 74 = .ok (.dup, 1) := by decide +kernel
theorem dX6_init_75 : decode cX6_init 75 = .ok (.invokespecial 45, 3) := by decide +kernel
theorem dX6_init_78 : decode cX6_init 78 = .ok (.putfield 46, 3) := by decide +kernel
theorem dX6_init_81 : decode cX6_init 81 = .ok (.aload_n 0, 1) := by decide +kernel
theorem dX6_init_82 : decode cX6_init 82 = .ok (.iconst (-1), 1) := by decide +kernel
theorem dX6_init_83 : decode cX6_init 83 = .ok (.putfield 50, 3) := by decide +kernel
theorem dX6_init_86 : decode cX6_init 86 = .ok (.return_, 1) := by decide +kernel
theorem dX6_scroll_0 : decode cX6_scroll 0 = .ok (.aload_n 0, 1) := by decide +kernel
theorem dX6_scroll_1 : decode cX6_scroll 1 = .ok (.getstatic 54, 3) := by decide +kernel
theorem dX6_scroll_4 : decode cX6_scroll 4 = .ok (.iconst (-1), 1) := by decide +kernel
theorem dX6_scroll_5 : decode cX6_scroll 5 = .ok (.iload_n 1, 1) := by decide +kernel
theorem dX6_scroll_6 : decode cX6_scroll 6 = .ok (.iload_n 2, 1) := by decide +kernel
theorem dX6_scroll_7 : decode cX6_scroll 7 = .ok (.iconst 0, 1) := by decide +kernel
theorem dX6_scroll_8 : decode cX6_scroll 8 = .ok (.invokevirtual 60, 3) := by decide +kernel
theorem dX6_scroll_11 : decode cX6_scroll 11 = .ok (.ireturn, 1) := by decide +kernel
theorem dX6_scrollOf_0 : decode cX6_scrollOf 0 = .ok (.aload_n 0, 1) := by decide +kernel
theorem dX6_scrollOf_1 : decode cX6_scrollOf 1 = .ok (.iload_n 1, 1) := by decide +kernel
theorem dX6_scrollOf_2 : decode cX6_scrollOf 2 = .ok (.invokevirtual 64, 3) := by decide +kernel
theorem dX6_scrollOf_5 : decode cX6_scrollOf 5 = .ok (.astore_n 3, 1) := by decide +kernel
theorem dX6_scrollOf_6 : decode cX6_scrollOf 6 = .ok (.iload_n 2, 1) := by decide +kernel
theorem dX6_scrollOf_7 : decode cX6_scrollOf 7 = .ok (.tableswitch 84 0 6 #[41, 46, 51, 64, 69, 74, 79], 41) := by decide +kernel
theorem dX6_scrollOf_48 : decode cX6_scrollOf 48 = .ok (.aload_n 3, 1) := by decide +kernel
theorem dX6_scrollOf_49 : decode cX6_scrollOf 49 = .ok (.getfield 68, 3) := by decide +kernel
theorem dX6_scrollOf_52 : decode cX6_scrollOf 52 = .ok (.ireturn, 1) := by decide +kernel
theorem dX6_scrollOf_53 : decode cX6_scrollOf 53 = .ok (.aload_n 3, 1) := by decide +kernel
theorem dX6_scrollOf_54 : decode cX6_scrollOf 54 = .ok (.getfield 71, 3) := by decide +kernel
theorem dX6_scrollOf_57 : decode cX6_scrollOf 57 = .ok (.ireturn, 1) := by decide +kernel
theorem dX6_scrollOf_58 : decode cX6_scrollOf 58 = .ok (.aload_n 3, 1) := by decide +kernel
theorem dX6_scrollOf_59 : decode cX6_scrollOf 59 = .ok (.getfield 74, 3) := by decide +kernel
theorem dX6_scrollOf_62 : decode cX6_scrollOf 62 = .ok (.ifCond .eq 7, 3) := by decide +kernel
theorem dX6_scrollOf_65 : decode cX6_scrollOf 65 = .ok (.iconst 1, 1) := by decide +kernel
theorem dX6_scrollOf_66 : decode cX6_scrollOf 66 = .ok (.goto 4, 3) := by decide +kernel
theorem dX6_scrollOf_69 : decode cX6_scrollOf 69 = .ok (.iconst 0, 1) := by decide +kernel
theorem dX6_scrollOf_70 : decode cX6_scrollOf 70 = .ok (.ireturn, 1) := by decide +kernel
theorem dX6_scrollOf_71 : decode cX6_scrollOf 71 = .ok (.aload_n 3, 1) := by decide +kernel
theorem dX6_scrollOf_72 : decode cX6_scrollOf 72 = .ok (.getfield 78, 3) := by decide +kernel
theorem dX6_scrollOf_75 : decode cX6_scrollOf 75 = .ok (.ireturn, 1) := by decide +kernel
theorem dX6_scrollOf_76 : decode cX6_scrollOf 76 = .ok (.aload_n 3, 1) := by decide +kernel
theorem dX6_scrollOf_77 : decode cX6_scrollOf 77 = .ok (.invokevirtual 81, 3) := by decide +kernel
theorem dX6_scrollOf_80 : decode cX6_scrollOf 80 = .ok (.ireturn, 1) := by decide +kernel
theorem dX6_scrollOf_81 : decode cX6_scrollOf 81 = .ok (.aload_n 3, 1) := by decide +kernel
theorem dX6_scrollOf_82 : decode cX6_scrollOf 82 = .ok (.getfield 85, 3) := by decide +kernel
theorem dX6_scrollOf_85 : decode cX6_scrollOf 85 = .ok (.ireturn, 1) := by decide +kernel
theorem dX6_scrollOf_86 : decode cX6_scrollOf 86 = .ok (.aload_n 3, 1) := by decide +kernel
theorem dX6_scrollOf_87 : decode cX6_scrollOf 87 = .ok (.getfield 88, 3) := by decide +kernel
theorem dX6_scrollOf_90 : decode cX6_scrollOf 90 = .ok (.ireturn, 1) := by decide +kernel
theorem dX6_scrollOf_91 : decode cX6_scrollOf 91 = .ok (.new 91, 3) := by decide +kernel
theorem dX6_scrollOf_94 : decode cX6_scrollOf 94 = .ok (.dup, 1) := by decide +kernel
theorem dX6_scrollOf_95 : decode cX6_scrollOf 95 = .ok (.ldc 93, 2) := by decide +kernel
theorem dX6_scrollOf_97 : decode cX6_scrollOf 97 = .ok (.invokespecial 95, 3) := by decide +kernel
theorem dX6_scrollOf_100 : decode cX6_scrollOf 100 = .ok (.athrow, 1) := by decide +kernel
theorem dX6_write_0 : decode cX6_write 0 = .ok (.aload_n 0, 1) := by decide +kernel
theorem dX6_write_1 : decode cX6_write 1 = .ok (.getstatic 98, 3) := by decide +kernel
theorem dX6_write_4 : decode cX6_write 4 = .ok (.iload_n 1, 1) := by decide +kernel
theorem dX6_write_5 : decode cX6_write 5 = .ok (.iload_n 2, 1) := by decide +kernel
theorem dX6_write_6 : decode cX6_write 6 = .ok (.iload_n 3, 1) := by decide +kernel
theorem dX6_write_7 : decode cX6_write 7 = .ok (.iload 4, 2) := by decide +kernel
theorem dX6_write_9 : decode cX6_write 9 = .ok (.invokevirtual 60, 3) := by decide +kernel
theorem dX6_write_12 : decode cX6_write 12 = .ok (.ireturn, 1) := by decide +kernel
theorem dX6_signAt_0 : decode cX6_signAt 0 = .ok (.aload_n 0, 1) := by decide +kernel
theorem dX6_signAt_1 : decode cX6_signAt 1 = .ok (.iload_n 1, 1) := by decide +kernel
theorem dX6_signAt_2 : decode cX6_signAt 2 = .ok (.iload_n 2, 1) := by decide +kernel
theorem dX6_signAt_3 : decode cX6_signAt 3 = .ok (.iload_n 3, 1) := by decide +kernel
theorem dX6_signAt_4 : decode cX6_signAt 4 = .ok (.invokevirtual 101, 3) := by decide +kernel
theorem dX6_signAt_7 : decode cX6_signAt 7 = .ok (.iload_n 2, 1) := by decide +kernel
theorem dX6_signAt_8 : decode cX6_signAt 8 = .ok (.iload_n 3, 1) := by decide +kernel
theorem dX6_signAt_9 : decode cX6_signAt 9 = .ok (.invokevirtual 105, 3) := by decide +kernel
theorem dX6_signAt_12 : decode cX6_signAt 12 = .ok (.ireturn, 1) := by decide +kernel
theorem dX6_seal_0 : decode cX6_seal 0 = .ok (.aload_n 0, 1) := by decide +kernel
theorem dX6_seal_1 : decode cX6_seal 1 = .ok (.getstatic 109, 3) := by decide +kernel
theorem dX6_seal_4 : decode cX6_seal 4 = .ok (.iload_n 1, 1) := by decide +kernel
theorem dX6_seal_5 : decode cX6_seal 5 = .ok (.iconst 0, 1) := by decide +kernel
theorem dX6_seal_6 : decode cX6_seal 6 = .ok (.iconst 0, 1) := by decide +kernel
theorem dX6_seal_7 : decode cX6_seal 7 = .ok (.iconst 0, 1) := by decide +kernel
theorem dX6_seal_8 : decode cX6_seal 8 = .ok (.invokevirtual 60, 3) := by decide +kernel
theorem dX6_seal_11 : decode cX6_seal 11 = .ok (.ireturn, 1) := by decide +kernel
theorem dX6_copy_0 : decode cX6_copy 0 = .ok (.aload_n 0, 1) := by decide +kernel
theorem dX6_copy_1 : decode cX6_copy 1 = .ok (.getstatic 112, 3) := by decide +kernel
theorem dX6_copy_4 : decode cX6_copy 4 = .ok (.iload_n 1, 1) := by decide +kernel
theorem dX6_copy_5 : decode cX6_copy 5 = .ok (.iconst 0, 1) := by decide +kernel
theorem dX6_copy_6 : decode cX6_copy 6 = .ok (.iconst 0, 1) := by decide +kernel
theorem dX6_copy_7 : decode cX6_copy 7 = .ok (.iconst 0, 1) := by decide +kernel
theorem dX6_copy_8 : decode cX6_copy 8 = .ok (.invokevirtual 60, 3) := by decide +kernel
theorem dX6_copy_11 : decode cX6_copy 11 = .ok (.ireturn, 1) := by decide +kernel
theorem dX6_slip_0 : decode cX6_slip 0 = .ok (.aload_n 0, 1) := by decide +kernel
theorem dX6_slip_1 : decode cX6_slip 1 = .ok (.getstatic 115, 3) := by decide +kernel
theorem dX6_slip_4 : decode cX6_slip 4 = .ok (.iload_n 1, 1) := by decide +kernel
theorem dX6_slip_5 : decode cX6_slip 5 = .ok (.iload_n 2, 1) := by decide +kernel
theorem dX6_slip_6 : decode cX6_slip 6 = .ok (.iload_n 3, 1) := by decide +kernel
theorem dX6_slip_7 : decode cX6_slip 7 = .ok (.iload 4, 2) := by decide +kernel
theorem dX6_slip_9 : decode cX6_slip 9 = .ok (.invokevirtual 60, 3) := by decide +kernel
theorem dX6_slip_12 : decode cX6_slip 12 = .ok (.ireturn, 1) := by decide +kernel
theorem dX6_smudge_0 : decode cX6_smudge 0 = .ok (.aload_n 0, 1) := by decide +kernel
theorem dX6_smudge_1 : decode cX6_smudge 1 = .ok (.getstatic 118, 3) := by decide +kernel
theorem dX6_smudge_4 : decode cX6_smudge 4 = .ok (.iload_n 1, 1) := by decide +kernel
theorem dX6_smudge_5 : decode cX6_smudge 5 = .ok (.iload_n 2, 1) := by decide +kernel
theorem dX6_smudge_6 : decode cX6_smudge 6 = .ok (.iload_n 3, 1) := by decide +kernel
theorem dX6_smudge_7 : decode cX6_smudge 7 = .ok (.iconst 0, 1) := by decide +kernel
theorem dX6_smudge_8 : decode cX6_smudge 8 = .ok (.invokevirtual 60, 3) := by decide +kernel
theorem dX6_smudge_11 : decode cX6_smudge 11 = .ok (.ireturn, 1) := by decide +kernel
theorem dX6_rowSum_0 : decode cX6_rowSum 0 = .ok (.aload_n 0, 1) := by decide +kernel
theorem dX6_rowSum_1 : decode cX6_rowSum 1 = .ok (.iload_n 1, 1) := by decide +kernel
theorem dX6_rowSum_2 : decode cX6_rowSum 2 = .ok (.iload_n 2, 1) := by decide +kernel
theorem dX6_rowSum_3 : decode cX6_rowSum 3 = .ok (.invokevirtual 121, 3) := by decide +kernel
theorem dX6_rowSum_6 : decode cX6_rowSum 6 = .ok (.invokestatic 125, 3) := by decide +kernel
theorem dX6_rowSum_9 : decode cX6_rowSum 9 = .ok (.iload_n 2, 1) := by decide +kernel
theorem dX6_rowSum_10 : decode cX6_rowSum 10 = .ok (.invokevirtual 129, 3) := by decide +kernel
theorem dX6_rowSum_13 : decode cX6_rowSum 13 = .ok (.ireturn, 1) := by decide +kernel
theorem dX6_columnSum_0 : decode cX6_columnSum 0 = .ok (.aload_n 0, 1) := by decide +kernel
theorem dX6_columnSum_1 : decode cX6_columnSum 1 = .ok (.iload_n 1, 1) := by decide +kernel
theorem dX6_columnSum_2 : decode cX6_columnSum 2 = .ok (.iload_n 2, 1) := by decide +kernel
theorem dX6_columnSum_3 : decode cX6_columnSum 3 = .ok (.invokevirtual 133, 3) := by decide +kernel
theorem dX6_columnSum_6 : decode cX6_columnSum 6 = .ok (.invokestatic 125, 3) := by decide +kernel
theorem dX6_columnSum_9 : decode cX6_columnSum 9 = .ok (.bipush 6, 2) := by decide +kernel
theorem dX6_columnSum_11 : decode cX6_columnSum 11 = .ok (.iload_n 2, 1) := by decide +kernel
theorem dX6_columnSum_12 : decode cX6_columnSum 12 = .ok (.iadd, 1) := by decide +kernel
theorem dX6_columnSum_13 : decode cX6_columnSum 13 = .ok (.invokevirtual 129, 3) := by decide +kernel
theorem dX6_columnSum_16 : decode cX6_columnSum 16 = .ok (.ireturn, 1) := by decide +kernel
theorem dX6_rowFault_0 : decode cX6_rowFault 0 = .ok (.aload_n 0, 1) := by decide +kernel
theorem dX6_rowFault_1 : decode cX6_rowFault 1 = .ok (.iload_n 1, 1) := by decide +kernel
theorem dX6_rowFault_2 : decode cX6_rowFault 2 = .ok (.iload_n 2, 1) := by decide +kernel
theorem dX6_rowFault_3 : decode cX6_rowFault 3 = .ok (.invokevirtual 121, 3) := by decide +kernel
theorem dX6_rowFault_6 : decode cX6_rowFault 6 = .ok (.invokestatic 125, 3) := by decide +kernel
theorem dX6_rowFault_9 : decode cX6_rowFault 9 = .ok (.iload_n 2, 1) := by decide +kernel
theorem dX6_rowFault_10 : decode cX6_rowFault 10 = .ok (.invokevirtual 136, 3) := by decide +kernel
theorem dX6_rowFault_13 : decode cX6_rowFault 13 = .ok (.ireturn, 1) := by decide +kernel
theorem dX6_columnFault_0 : decode cX6_columnFault 0 = .ok (.aload_n 0, 1) := by decide +kernel
theorem dX6_columnFault_1 : decode cX6_columnFault 1 = .ok (.iload_n 1, 1) := by decide +kernel
theorem dX6_columnFault_2 : decode cX6_columnFault 2 = .ok (.iload_n 2, 1) := by decide +kernel
theorem dX6_columnFault_3 : decode cX6_columnFault 3 = .ok (.invokevirtual 133, 3) := by decide +kernel
theorem dX6_columnFault_6 : decode cX6_columnFault 6 = .ok (.invokestatic 125, 3) := by decide +kernel
theorem dX6_columnFault_9 : decode cX6_columnFault 9 = .ok (.bipush 6, 2) := by decide +kernel
theorem dX6_columnFault_11 : decode cX6_columnFault 11 = .ok (.iload_n 2, 1) := by decide +kernel
theorem dX6_columnFault_12 : decode cX6_columnFault 12 = .ok (.iadd, 1) := by decide +kernel
theorem dX6_columnFault_13 : decode cX6_columnFault 13 = .ok (.invokevirtual 136, 3) := by decide +kernel
theorem dX6_columnFault_16 : decode cX6_columnFault 16 = .ok (.ireturn, 1) := by decide +kernel
theorem dX6_wrongRows_0 : decode cX6_wrongRows 0 = .ok (.aload_n 0, 1) := by decide +kernel
theorem dX6_wrongRows_1 : decode cX6_wrongRows 1 = .ok (.iload_n 1, 1) := by decide +kernel
theorem dX6_wrongRows_2 : decode cX6_wrongRows 2 = .ok (.invokevirtual 64, 3) := by decide +kernel
theorem dX6_wrongRows_5 : decode cX6_wrongRows 5 = .ok (.invokestatic 125, 3) := by decide +kernel
theorem dX6_wrongRows_8 : decode cX6_wrongRows 8 = .ok (.invokevirtual 139, 3) := by decide +kernel
theorem dX6_wrongRows_11 : decode cX6_wrongRows 11 = .ok (.ireturn, 1) := by decide +kernel
theorem dX6_wrongColumns_0 : decode cX6_wrongColumns 0 = .ok (.aload_n 0, 1) := by decide +kernel
theorem dX6_wrongColumns_1 : decode cX6_wrongColumns 1 = .ok (.iload_n 1, 1) := by decide +kernel
theorem dX6_wrongColumns_2 : decode cX6_wrongColumns 2 = .ok (.invokevirtual 64, 3) := by decide +kernel
theorem dX6_wrongColumns_5 : decode cX6_wrongColumns 5 = .ok (.invokestatic 125, 3) := by decide +kernel
theorem dX6_wrongColumns_8 : decode cX6_wrongColumns 8 = .ok (.invokevirtual 142, 3) := by decide +kernel
theorem dX6_wrongColumns_11 : decode cX6_wrongColumns 11 = .ok (.ireturn, 1) := by decide +kernel
theorem dX6_isInDoubt_0 : decode cX6_isInDoubt 0 = .ok (.aload_n 0, 1) := by decide +kernel
theorem dX6_isInDoubt_1 : decode cX6_isInDoubt 1 = .ok (.iload_n 1, 1) := by decide +kernel
theorem dX6_isInDoubt_2 : decode cX6_isInDoubt 2 = .ok (.iload_n 2, 1) := by decide +kernel
theorem dX6_isInDoubt_3 : decode cX6_isInDoubt 3 = .ok (.iload_n 3, 1) := by decide +kernel
theorem dX6_isInDoubt_4 : decode cX6_isInDoubt 4 = .ok (.invokevirtual 101, 3) := by decide +kernel
theorem dX6_isInDoubt_7 : decode cX6_isInDoubt 7 = .ok (.iload_n 2, 1) := by decide +kernel
theorem dX6_isInDoubt_8 : decode cX6_isInDoubt 8 = .ok (.iload_n 3, 1) := by decide +kernel
theorem dX6_isInDoubt_9 : decode cX6_isInDoubt 9 = .ok (.invokevirtual 145, 3) := by decide +kernel
theorem dX6_isInDoubt_12 : decode cX6_isInDoubt 12 = .ok (.ireturn, 1) := by decide +kernel
theorem dX6_doubts_0 : decode cX6_doubts 0 = .ok (.aload_n 0, 1) := by decide +kernel
theorem dX6_doubts_1 : decode cX6_doubts 1 = .ok (.iload_n 1, 1) := by decide +kernel
theorem dX6_doubts_2 : decode cX6_doubts 2 = .ok (.invokevirtual 64, 3) := by decide +kernel
theorem dX6_doubts_5 : decode cX6_doubts 5 = .ok (.invokevirtual 149, 3) := by decide +kernel
theorem dX6_doubts_8 : decode cX6_doubts 8 = .ok (.ireturn, 1) := by decide +kernel
theorem dX6_doubtsAgain_0 : decode cX6_doubtsAgain 0 = .ok (.aload_n 0, 1) := by decide +kernel
theorem dX6_doubtsAgain_1 : decode cX6_doubtsAgain 1 = .ok (.iload_n 1, 1) := by decide +kernel
theorem dX6_doubtsAgain_2 : decode cX6_doubtsAgain 2 = .ok (.invokevirtual 64, 3) := by decide +kernel
theorem dX6_doubtsAgain_5 : decode cX6_doubtsAgain 5 = .ok (.invokevirtual 152, 3) := by decide +kernel
theorem dX6_doubtsAgain_8 : decode cX6_doubtsAgain 8 = .ok (.ireturn, 1) := by decide +kernel
theorem dX6_mend_0 : decode cX6_mend 0 = .ok (.aload_n 0, 1) := by decide +kernel
theorem dX6_mend_1 : decode cX6_mend 1 = .ok (.getstatic 155, 3) := by decide +kernel
theorem dX6_mend_4 : decode cX6_mend 4 = .ok (.iload_n 1, 1) := by decide +kernel
theorem dX6_mend_5 : decode cX6_mend 5 = .ok (.iconst 0, 1) := by decide +kernel
theorem dX6_mend_6 : decode cX6_mend 6 = .ok (.iconst 0, 1) := by decide +kernel
theorem dX6_mend_7 : decode cX6_mend 7 = .ok (.iconst 0, 1) := by decide +kernel
theorem dX6_mend_8 : decode cX6_mend 8 = .ok (.invokevirtual 60, 3) := by decide +kernel
theorem dX6_mend_11 : decode cX6_mend 11 = .ok (.ireturn, 1) := by decide +kernel
theorem dX6_wouldMend_0 : decode cX6_wouldMend 0 = .ok (.aload_n 0, 1) := by decide +kernel
theorem dX6_wouldMend_1 : decode cX6_wouldMend 1 = .ok (.iload_n 1, 1) := by decide +kernel
theorem dX6_wouldMend_2 : decode cX6_wouldMend 2 = .ok (.invokevirtual 64, 3) := by decide +kernel
theorem dX6_wouldMend_5 : decode cX6_wouldMend 5 = .ok (.astore_n 2, 1) := by decide +kernel
theorem dX6_wouldMend_6 : decode cX6_wouldMend 6 = .ok (.aload_n 2, 1) := by decide +kernel
theorem dX6_wouldMend_7 : decode cX6_wouldMend 7 = .ok (.iload_n 1, 1) := by decide +kernel
theorem dX6_wouldMend_8 : decode cX6_wouldMend 8 = .ok (.invokevirtual 158, 3) := by decide +kernel
theorem dX6_wouldMend_11 : decode cX6_wouldMend 11 = .ok (.ifCond .eq 13, 3) := by decide +kernel
theorem dX6_wouldMend_14 : decode cX6_wouldMend 14 = .ok (.new 161, 3) := by decide +kernel
theorem dX6_wouldMend_17 : decode cX6_wouldMend 17 = .ok (.dup, 1) := by decide +kernel
theorem dX6_wouldMend_18 : decode cX6_wouldMend 18 = .ok (.ldc 163, 2) := by decide +kernel
theorem dX6_wouldMend_20 : decode cX6_wouldMend 20 = .ok (.invokespecial 165, 3) := by decide +kernel
theorem dX6_wouldMend_23 : decode cX6_wouldMend 23 = .ok (.athrow, 1) := by decide +kernel
theorem dX6_wouldMend_24 : decode cX6_wouldMend 24 = .ok (.aload_n 2, 1) := by decide +kernel
theorem dX6_wouldMend_25 : decode cX6_wouldMend 25 = .ok (.invokevirtual 166, 3) := by decide +kernel
theorem dX6_wouldMend_28 : decode cX6_wouldMend 28 = .ok (.ireturn, 1) := by decide +kernel
theorem dX6_mendAgain_0 : decode cX6_mendAgain 0 = .ok (.aload_n 0, 1) := by decide +kernel
theorem dX6_mendAgain_1 : decode cX6_mendAgain 1 = .ok (.iload_n 1, 1) := by decide +kernel
theorem dX6_mendAgain_2 : decode cX6_mendAgain 2 = .ok (.invokevirtual 64, 3) := by decide +kernel
theorem dX6_mendAgain_5 : decode cX6_mendAgain 5 = .ok (.invokestatic 125, 3) := by decide +kernel
theorem dX6_mendAgain_8 : decode cX6_mendAgain 8 = .ok (.astore_n 2, 1) := by decide +kernel
theorem dX6_mendAgain_9 : decode cX6_mendAgain 9 = .ok (.aload_n 2, 1) := by decide +kernel
theorem dX6_mendAgain_10 : decode cX6_mendAgain 10 = .ok (.invokevirtual 81, 3) := by decide +kernel
theorem dX6_mendAgain_13 : decode cX6_mendAgain 13 = .ok (.ifCond .gt 10, 3) := by decide +kernel
theorem dX6_mendAgain_16 : decode cX6_mendAgain 16 = .ok (.aload_n 2, 1) := by decide +kernel
theorem dX6_mendAgain_17 : decode cX6_mendAgain 17 = .ok (.invokevirtual 169, 3) := by decide +kernel
theorem dX6_mendAgain_20 : decode cX6_mendAgain 20 = .ok (.ifCond .eq 13, 3) := by decide +kernel
theorem dX6_mendAgain_23 : decode cX6_mendAgain 23 = .ok (.new 161, 3) := by decide +kernel
theorem dX6_mendAgain_26 : decode cX6_mendAgain 26 = .ok (.dup, 1) := by decide +kernel
theorem dX6_mendAgain_27 : decode cX6_mendAgain 27 = .ok (.ldc 173, 2) := by decide +kernel
theorem dX6_mendAgain_29 : decode cX6_mendAgain 29 = .ok (.invokespecial 165, 3) := by decide +kernel
theorem dX6_mendAgain_32 : decode cX6_mendAgain 32 = .ok (.athrow, 1) := by decide +kernel
theorem dX6_mendAgain_33 : decode cX6_mendAgain 33 = .ok (.aload_n 0, 1) := by decide +kernel
theorem dX6_mendAgain_34 : decode cX6_mendAgain 34 = .ok (.getfield 32, 3) := by decide +kernel
theorem dX6_mendAgain_37 : decode cX6_mendAgain 37 = .ok (.aload_n 2, 1) := by decide +kernel
theorem dX6_mendAgain_38 : decode cX6_mendAgain 38 = .ok (.invokevirtual 175, 3) := by decide +kernel
theorem dX6_mendAgain_41 : decode cX6_mendAgain 41 = .ok (.aload_n 0, 1) := by decide +kernel
theorem dX6_mendAgain_42 : decode cX6_mendAgain 42 = .ok (.getfield 32, 3) := by decide +kernel
theorem dX6_mendAgain_45 : decode cX6_mendAgain 45 = .ok (.invokevirtual 179, 3) := by decide +kernel
theorem dX6_mendAgain_48 : decode cX6_mendAgain 48 = .ok (.istore_n 3, 1) := by decide +kernel
theorem dX6_mendAgain_49 : decode cX6_mendAgain 49 = .ok (.iload_n 3, 1) := by decide +kernel
theorem dX6_mendAgain_50 : decode cX6_mendAgain 50 = .ok (.iconst (-1), 1) := by decide +kernel
theorem dX6_mendAgain_51 : decode cX6_mendAgain 51 = .ok (.if_icmp .ne 13, 3) := by decide +kernel
theorem dX6_mendAgain_54 : decode cX6_mendAgain 54 = .ok (.new 161, 3) := by decide +kernel
theorem dX6_mendAgain_57 : decode cX6_mendAgain 57 = .ok (.dup, 1) := by decide +kernel
theorem dX6_mendAgain_58 : decode cX6_mendAgain 58 = .ok (.ldc 182, 2) := by decide +kernel
theorem dX6_mendAgain_60 : decode cX6_mendAgain 60 = .ok (.invokespecial 165, 3) := by decide +kernel
theorem dX6_mendAgain_63 : decode cX6_mendAgain 63 = .ok (.athrow, 1) := by decide +kernel
theorem dX6_mendAgain_64 : decode cX6_mendAgain 64 = .ok (.iload_n 3, 1) := by decide +kernel
theorem dX6_mendAgain_65 : decode cX6_mendAgain 65 = .ok (.ireturn, 1) := by decide +kernel
theorem dX6_fill_0 : decode cX6_fill 0 = .ok (.aload_n 0, 1) := by decide +kernel
theorem dX6_fill_1 : decode cX6_fill 1 = .ok (.getstatic 184, 3) := by decide +kernel
theorem dX6_fill_4 : decode cX6_fill 4 = .ok (.iload_n 1, 1) := by decide +kernel
theorem dX6_fill_5 : decode cX6_fill 5 = .ok (.iconst 0, 1) := by decide +kernel
theorem dX6_fill_6 : decode cX6_fill 6 = .ok (.iconst 0, 1) := by decide +kernel
theorem dX6_fill_7 : decode cX6_fill 7 = .ok (.iconst 0, 1) := by decide +kernel
theorem dX6_fill_8 : decode cX6_fill 8 = .ok (.invokevirtual 60, 3) := by decide +kernel
theorem dX6_fill_11 : decode cX6_fill 11 = .ok (.ireturn, 1) := by decide +kernel
theorem dX6_wouldFill_0 : decode cX6_wouldFill 0 = .ok (.aload_n 0, 1) := by decide +kernel
theorem dX6_wouldFill_1 : decode cX6_wouldFill 1 = .ok (.iload_n 1, 1) := by decide +kernel
theorem dX6_wouldFill_2 : decode cX6_wouldFill 2 = .ok (.iload_n 2, 1) := by decide +kernel
theorem dX6_wouldFill_3 : decode cX6_wouldFill 3 = .ok (.iload_n 3, 1) := by decide +kernel
theorem dX6_wouldFill_4 : decode cX6_wouldFill 4 = .ok (.invokevirtual 101, 3) := by decide +kernel
theorem dX6_wouldFill_7 : decode cX6_wouldFill 7 = .ok (.invokestatic 125, 3) := by decide +kernel
theorem dX6_wouldFill_10 : decode cX6_wouldFill 10 = .ok (.astore 4, 2) := by decide +kernel
theorem dX6_wouldFill_12 : decode cX6_wouldFill 12 = .ok (.aload 4, 2) := by decide +kernel
theorem dX6_wouldFill_14 : decode cX6_wouldFill 14 = .ok (.iload_n 2, 1) := by decide +kernel
theorem dX6_wouldFill_15 : decode cX6_wouldFill 15 = .ok (.iload_n 3, 1) := by decide +kernel
theorem dX6_wouldFill_16 : decode cX6_wouldFill 16 = .ok (.invokevirtual 187, 3) := by decide +kernel
theorem dX6_wouldFill_19 : decode cX6_wouldFill 19 = .ok (.ifCond .ne 13, 3) := by decide +kernel
theorem dX6_wouldFill_22 : decode cX6_wouldFill 22 = .ok (.new 161, 3) := by decide +kernel
theorem dX6_wouldFill_25 : decode cX6_wouldFill 25 = .ok (.dup, 1) := by decide +kernel
theorem dX6_wouldFill_26 : decode cX6_wouldFill 26 = .ok (.ldc 190, 2) := by decide +kernel
theorem dX6_wouldFill_28 : decode cX6_wouldFill 28 = .ok (.invokespecial 165, 3) := by decide +kernel
theorem dX6_wouldFill_31 : decode cX6_wouldFill 31 = .ok (.athrow, 1) := by decide +kernel
theorem dX6_wouldFill_32 : decode cX6_wouldFill 32 = .ok (.aload_n 0, 1) := by decide +kernel
theorem dX6_wouldFill_33 : decode cX6_wouldFill 33 = .ok (.getfield 32, 3) := by decide +kernel
theorem dX6_wouldFill_36 : decode cX6_wouldFill 36 = .ok (.aload 4, 2) := by decide +kernel
theorem dX6_wouldFill_38 : decode cX6_wouldFill 38 = .ok (.invokevirtual 175, 3) := by decide +kernel
theorem dX6_wouldFill_41 : decode cX6_wouldFill 41 = .ok (.aload_n 0, 1) := by decide +kernel
theorem dX6_wouldFill_42 : decode cX6_wouldFill 42 = .ok (.getfield 32, 3) := by decide +kernel
theorem dX6_wouldFill_45 : decode cX6_wouldFill 45 = .ok (.invokevirtual 192, 3) := by decide +kernel
theorem dX6_wouldFill_48 : decode cX6_wouldFill 48 = .ok (.pop, 1) := by decide +kernel
theorem dX6_wouldFill_49 : decode cX6_wouldFill 49 = .ok (.aload_n 0, 1) := by decide +kernel
theorem dX6_wouldFill_50 : decode cX6_wouldFill 50 = .ok (.getfield 32, 3) := by decide +kernel
theorem dX6_wouldFill_53 : decode cX6_wouldFill 53 = .ok (.iload_n 2, 1) := by decide +kernel
theorem dX6_wouldFill_54 : decode cX6_wouldFill 54 = .ok (.iload_n 3, 1) := by decide +kernel
theorem dX6_wouldFill_55 : decode cX6_wouldFill 55 = .ok (.invokevirtual 187, 3) := by decide +kernel
theorem dX6_wouldFill_58 : decode cX6_wouldFill 58 = .ok (.ifCond .eq 13, 3) := by decide +kernel
theorem dX6_wouldFill_61 : decode cX6_wouldFill 61 = .ok (.new 161, 3) := by decide +kernel
theorem dX6_wouldFill_64 : decode cX6_wouldFill 64 = .ok (.dup, 1) := by decide +kernel
theorem dX6_wouldFill_65 : decode cX6_wouldFill 65 = .ok (.ldc 195, 2) := by decide +kernel
theorem dX6_wouldFill_67 : decode cX6_wouldFill 67 = .ok (.invokespecial 165, 3) := by decide +kernel
theorem dX6_wouldFill_70 : decode cX6_wouldFill 70 = .ok (.athrow, 1) := by decide +kernel
theorem dX6_wouldFill_71 : decode cX6_wouldFill 71 = .ok (.aload_n 0, 1) := by decide +kernel
theorem dX6_wouldFill_72 : decode cX6_wouldFill 72 = .ok (.getfield 32, 3) := by decide +kernel
theorem dX6_wouldFill_75 : decode cX6_wouldFill 75 = .ok (.iload_n 2, 1) := by decide +kernel
theorem dX6_wouldFill_76 : decode cX6_wouldFill 76 = .ok (.iload_n 3, 1) := by decide +kernel
theorem dX6_wouldFill_77 : decode cX6_wouldFill 77 = .ok (.invokevirtual 105, 3) := by decide +kernel
theorem dX6_wouldFill_80 : decode cX6_wouldFill 80 = .ok (.ireturn, 1) := by decide +kernel
theorem dX6_differ_0 : decode cX6_differ 0 = .ok (.aload_n 0, 1) := by decide +kernel
theorem dX6_differ_1 : decode cX6_differ 1 = .ok (.iload_n 1, 1) := by decide +kernel
theorem dX6_differ_2 : decode cX6_differ 2 = .ok (.invokevirtual 64, 3) := by decide +kernel
theorem dX6_differ_5 : decode cX6_differ 5 = .ok (.astore_n 3, 1) := by decide +kernel
theorem dX6_differ_6 : decode cX6_differ 6 = .ok (.aload_n 0, 1) := by decide +kernel
theorem dX6_differ_7 : decode cX6_differ 7 = .ok (.iload_n 2, 1) := by decide +kernel
theorem dX6_differ_8 : decode cX6_differ 8 = .ok (.invokevirtual 64, 3) := by decide +kernel
theorem dX6_differ_11 : decode cX6_differ 11 = .ok (.astore 4, 2) := by decide +kernel
theorem dX6_differ_13 : decode cX6_differ 13 = .ok (.aload_n 3, 1) := by decide +kernel
theorem dX6_differ_14 : decode cX6_differ 14 = .ok (.getfield 68, 3) := by decide +kernel
theorem dX6_differ_17 : decode cX6_differ 17 = .ok (.aload 4, 2) := by decide +kernel
theorem dX6_differ_19 : decode cX6_differ 19 = .ok (.getfield 68, 3) := by decide +kernel
theorem dX6_differ_22 : decode cX6_differ 22 = .ok (.if_icmp .ne 15, 3) := by decide +kernel
theorem dX6_differ_25 : decode cX6_differ 25 = .ok (.aload_n 3, 1) := by decide +kernel
theorem dX6_differ_26 : decode cX6_differ 26 = .ok (.getfield 71, 3) := by decide +kernel
theorem dX6_differ_29 : decode cX6_differ 29 = .ok (.aload 4, 2) := by decide +kernel
theorem dX6_differ_31 : decode cX6_differ 31 = .ok (.getfield 71, 3) := by decide +kernel
theorem dX6_differ_34 : decode cX6_differ 34 = .ok (.if_icmp .eq 13, 3) := by decide +kernel
theorem dX6_differ_37 : decode cX6_differ 37 = .ok (.new 91, 3) := by decide +kernel
theorem dX6_differ_40 : decode cX6_differ 40 = .ok (.dup, 1) := by decide +kernel
theorem dX6_differ_41 : decode cX6_differ 41 = .ok (.ldc 197, 2) := by decide +kernel
theorem dX6_differ_43 : decode cX6_differ 43 = .ok (.invokespecial 95, 3) := by decide +kernel
theorem dX6_differ_46 : decode cX6_differ 46 = .ok (.athrow, 1) := by decide +kernel
theorem dX6_differ_47 : decode cX6_differ 47 = .ok (.aload_n 3, 1) := by decide +kernel
theorem dX6_differ_48 : decode cX6_differ 48 = .ok (.aload 4, 2) := by decide +kernel
theorem dX6_differ_50 : decode cX6_differ 50 = .ok (.invokevirtual 199, 3) := by decide +kernel
theorem dX6_differ_53 : decode cX6_differ 53 = .ok (.ireturn, 1) := by decide +kernel
theorem dX6_ranked_0 : decode cX6_ranked 0 = .ok (.aload_n 0, 1) := by decide +kernel
theorem dX6_ranked_1 : decode cX6_ranked 1 = .ok (.getfield 12, 3) := by decide +kernel
theorem dX6_ranked_4 : decode cX6_ranked 4 = .ok (.iload_n 1, 1) := by decide +kernel
theorem dX6_ranked_5 : decode cX6_ranked 5 = .ok (.invokevirtual 203, 3) := by decide +kernel
theorem dX6_ranked_8 : decode cX6_ranked 8 = .ok (.istore_n 2, 1) := by decide +kernel
theorem dX6_ranked_9 : decode cX6_ranked 9 = .ok (.iload_n 2, 1) := by decide +kernel
theorem dX6_ranked_10 : decode cX6_ranked 10 = .ok (.iconst (-1), 1) := by decide +kernel
theorem dX6_ranked_11 : decode cX6_ranked 11 = .ok (.if_icmp .ne 13, 3) := by decide +kernel
theorem dX6_ranked_14 : decode cX6_ranked 14 = .ok (.new 161, 3) := by decide +kernel
theorem dX6_ranked_17 : decode cX6_ranked 17 = .ok (.dup, 1) := by decide +kernel
theorem dX6_ranked_18 : decode cX6_ranked 18 = .ok (.ldc 206, 2) := by decide +kernel
theorem dX6_ranked_20 : decode cX6_ranked 20 = .ok (.invokespecial 165, 3) := by decide +kernel
theorem dX6_ranked_23 : decode cX6_ranked 23 = .ok (.athrow, 1) := by decide +kernel
theorem dX6_ranked_24 : decode cX6_ranked 24 = .ok (.iload_n 2, 1) := by decide +kernel
theorem dX6_ranked_25 : decode cX6_ranked 25 = .ok (.ireturn, 1) := by decide +kernel
theorem dX6_count_0 : decode cX6_count 0 = .ok (.aload_n 0, 1) := by decide +kernel
theorem dX6_count_1 : decode cX6_count 1 = .ok (.iload_n 1, 1) := by decide +kernel
theorem dX6_count_2 : decode cX6_count 2 = .ok (.invokevirtual 64, 3) := by decide +kernel
theorem dX6_count_5 : decode cX6_count 5 = .ok (.astore_n 3, 1) := by decide +kernel
theorem dX6_count_6 : decode cX6_count 6 = .ok (.iload_n 2, 1) := by decide +kernel
theorem dX6_count_7 : decode cX6_count 7 = .ok (.iconst 0, 1) := by decide +kernel
theorem dX6_count_8 : decode cX6_count 8 = .ok (.bipush 9, 2) := by decide +kernel
theorem dX6_count_10 : decode cX6_count 10 = .ok (.invokestatic 208, 3) := by decide +kernel
theorem dX6_count_13 : decode cX6_count 13 = .ok (.ifCond .ne 13, 3) := by decide +kernel
theorem dX6_count_16 : decode cX6_count 16 = .ok (.new 91, 3) := by decide +kernel
theorem dX6_count_19 : decode cX6_count 19 = .ok (.dup, 1) := by decide +kernel
theorem dX6_count_20 : decode cX6_count 20 = .ok (.ldc 212, 2) := by decide +kernel
theorem dX6_count_22 : decode cX6_count 22 = .ok (.invokespecial 95, 3) := by decide +kernel
theorem dX6_count_25 : decode cX6_count 25 = .ok (.athrow, 1) := by decide +kernel
theorem dX6_count_26 : decode cX6_count 26 = .ok (.aload_n 3, 1) := by decide +kernel
theorem dX6_count_27 : decode cX6_count 27 = .ok (.iload_n 2, 1) := by decide +kernel
theorem dX6_count_28 : decode cX6_count 28 = .ok (.invokevirtual 214, 3) := by decide +kernel
theorem dX6_count_31 : decode cX6_count 31 = .ok (.ireturn, 1) := by decide +kernel
theorem dX6_line_0 : decode cX6_line 0 = .ok (.aload_n 0, 1) := by decide +kernel
theorem dX6_line_1 : decode cX6_line 1 = .ok (.iload_n 1, 1) := by decide +kernel
theorem dX6_line_2 : decode cX6_line 2 = .ok (.iload_n 2, 1) := by decide +kernel
theorem dX6_line_3 : decode cX6_line 3 = .ok (.invokevirtual 121, 3) := by decide +kernel
theorem dX6_line_6 : decode cX6_line 6 = .ok (.astore_n 3, 1) := by decide +kernel
theorem dX6_line_7 : decode cX6_line 7 = .ok (.aload_n 0, 1) := by decide +kernel
theorem dX6_line_8 : decode cX6_line 8 = .ok (.getfield 46, 3) := by decide +kernel
theorem dX6_line_11 : decode cX6_line 11 = .ok (.iconst 0, 1) := by decide +kernel
theorem dX6_line_12 : decode cX6_line 12 = .ok (.invokevirtual 217, 3) := by decide +kernel
theorem dX6_line_15 : decode cX6_line 15 = .ok (.aload_n 3, 1) := by decide +kernel
theorem dX6_line_16 : decode cX6_line 16 = .ok (.aload_n 0, 1) := by decide +kernel
theorem dX6_line_17 : decode cX6_line 17 = .ok (.getfield 46, 3) := by decide +kernel
theorem dX6_line_20 : decode cX6_line 20 = .ok (.iload_n 2, 1) := by decide +kernel
theorem dX6_line_21 : decode cX6_line 21 = .ok (.invokevirtual 221, 3) := by decide +kernel
theorem dX6_line_24 : decode cX6_line 24 = .ok (.aload_n 0, 1) := by decide +kernel
theorem dX6_line_25 : decode cX6_line 25 = .ok (.getfield 46, 3) := by decide +kernel
theorem dX6_line_28 : decode cX6_line 28 = .ok (.invokevirtual 225, 3) := by decide +kernel
theorem dX6_line_31 : decode cX6_line 31 = .ok (.ireturn, 1) := by decide +kernel
theorem dX6_character_0 : decode cX6_character 0 = .ok (.iload_n 1, 1) := by decide +kernel
theorem dX6_character_1 : decode cX6_character 1 = .ok (.ifCond .lt 14, 3) := by decide +kernel
theorem dX6_character_4 : decode cX6_character 4 = .ok (.iload_n 1, 1) := by decide +kernel
theorem dX6_character_5 : decode cX6_character 5 = .ok (.aload_n 0, 1) := by decide +kernel
theorem dX6_character_6 : decode cX6_character 6 = .ok (.getfield 46, 3) := by decide +kernel
theorem dX6_character_9 : decode cX6_character 9 = .ok (.invokevirtual 225, 3) := by decide +kernel
theorem dX6_character_12 : decode cX6_character 12 = .ok (.if_icmp .lt 13, 3) := by decide +kernel
theorem dX6_character_15 : decode cX6_character 15 = .ok (.new 228, 3) := by decide +kernel
theorem dX6_character_18 : decode cX6_character 18 = .ok (.dup, 1) := by decide +kernel
theorem dX6_character_19 : decode cX6_character 19 = .ok (.ldc 230, 2) := by decide +kernel
theorem dX6_character_21 : decode cX6_character 21 = .ok (.invokespecial 232, 3) := by decide +kernel
theorem dX6_character_24 : decode cX6_character 24 = .ok (.athrow, 1) := by decide +kernel
theorem dX6_character_25 : decode cX6_character 25 = .ok (.aload_n 0, 1) := by decide +kernel
theorem dX6_character_26 : decode cX6_character 26 = .ok (.getfield 46, 3) := by decide +kernel
theorem dX6_character_29 : decode cX6_character 29 = .ok (.iload_n 1, 1) := by decide +kernel
theorem dX6_character_30 : decode cX6_character 30 = .ok (.invokevirtual 233, 3) := by decide +kernel
theorem dX6_character_33 : decode cX6_character 33 = .ok (.ireturn, 1) := by decide +kernel
theorem dX6_append_0 : decode cX6_append 0 = .ok (.aload_n 0, 1) := by decide +kernel
theorem dX6_append_1 : decode cX6_append 1 = .ok (.getfield 39, 3) := by decide +kernel
theorem dX6_append_4 : decode cX6_append 4 = .ok (.invokevirtual 237, 3) := by decide +kernel
theorem dX6_append_7 : decode cX6_append 7 = .ok (.ifCond .eq 13, 3) := by decide +kernel
theorem dX6_append_10 : decode cX6_append 10 = .ok (.new 240, 3) := by decide +kernel
theorem dX6_append_13 : decode cX6_append 13 = .ok (.dup, 1) := by decide +kernel
theorem dX6_append_14 : decode cX6_append 14 = .ok (.ldc 242, 2) := by decide +kernel
theorem dX6_append_16 : decode cX6_append 16 = .ok (.invokespecial 244, 3) := by decide +kernel
theorem dX6_append_19 : decode cX6_append 19 = .ok (.athrow, 1) := by decide +kernel
theorem dX6_append_20 : decode cX6_append 20 = .ok (.aload_n 0, 1) := by decide +kernel
theorem dX6_append_21 : decode cX6_append 21 = .ok (.getfield 39, 3) := by decide +kernel
theorem dX6_append_24 : decode cX6_append 24 = .ok (.iload_n 1, 1) := by decide +kernel
theorem dX6_append_25 : decode cX6_append 25 = .ok (.invokevirtual 245, 3) := by decide +kernel
theorem dX6_append_28 : decode cX6_append 28 = .ok (.aload_n 0, 1) := by decide +kernel
theorem dX6_append_29 : decode cX6_append 29 = .ok (.getfield 39, 3) := by decide +kernel
theorem dX6_append_32 : decode cX6_append 32 = .ok (.getfield 249, 3) := by decide +kernel
theorem dX6_append_35 : decode cX6_append 35 = .ok (.ireturn, 1) := by decide +kernel
theorem dX6_read_0 : decode cX6_read 0 = .ok (.aload_n 0, 1) := by decide +kernel
theorem dX6_read_1 : decode cX6_read 1 = .ok (.aload_n 0, 1) := by decide +kernel
theorem dX6_read_2 : decode cX6_read 2 = .ok (.getfield 39, 3) := by decide +kernel
theorem dX6_read_5 : decode cX6_read 5 = .ok (.invokevirtual 251, 3) := by decide +kernel
theorem dX6_read_8 : decode cX6_read 8 = .ok (.putfield 50, 3) := by decide +kernel
theorem dX6_read_11 : decode cX6_read 11 = .ok (.aload_n 0, 1) := by decide +kernel
theorem dX6_read_12 : decode cX6_read 12 = .ok (.getfield 50, 3) := by decide +kernel
theorem dX6_read_15 : decode cX6_read 15 = .ok (.iconst (-1), 1) := by decide +kernel
theorem dX6_read_16 : decode cX6_read 16 = .ok (.if_icmp .eq 21, 3) := by decide +kernel
theorem dX6_read_19 : decode cX6_read 19 = .ok (.aload_n 0, 1) := by decide +kernel
theorem dX6_read_20 : decode cX6_read 20 = .ok (.getfield 39, 3) := by decide +kernel
theorem dX6_read_23 : decode cX6_read 23 = .ok (.invokevirtual 254, 3) := by decide +kernel
theorem dX6_read_26 : decode cX6_read 26 = .ok (.new 91, 3) := by decide +kernel
theorem dX6_read_29 : decode cX6_read 29 = .ok (.dup, 1) := by decide +kernel
theorem dX6_read_30 : decode cX6_read 30 = .ok (.ldc_w 257, 3) := by decide +kernel
theorem dX6_read_33 : decode cX6_read 33 = .ok (.invokespecial 95, 3) := by decide +kernel
theorem dX6_read_36 : decode cX6_read 36 = .ok (.athrow, 1) := by decide +kernel
theorem dX6_read_37 : decode cX6_read 37 = .ok (.aload_n 0, 1) := by decide +kernel
theorem dX6_read_38 : decode cX6_read 38 = .ok (.getfield 16, 3) := by decide +kernel
theorem dX6_read_41 : decode cX6_read 41 = .ok (.aload_n 0, 1) := by decide +kernel
theorem dX6_read_42 : decode cX6_read 42 = .ok (.getfield 12, 3) := by decide +kernel
theorem dX6_read_45 : decode cX6_read 45 = .ok (.invokevirtual 259, 3) := by decide +kernel
theorem dX6_read_48 : decode cX6_read 48 = .ok (.iconst 0, 1) := by decide +kernel
theorem dX6_read_49 : decode cX6_read 49 = .ok (.istore_n 1, 1) := by decide +kernel
theorem dX6_read_50 : decode cX6_read 50 = .ok (.iconst 0, 1) := by decide +kernel
theorem dX6_read_51 : decode cX6_read 51 = .ok (.istore_n 2, 1) := by decide +kernel
theorem dX6_read_52 : decode cX6_read 52 = .ok (.iconst 0, 1) := by decide +kernel
theorem dX6_read_53 : decode cX6_read 53 = .ok (.istore_n 3, 1) := by decide +kernel
theorem dX6_read_54 : decode cX6_read 54 = .ok (.iload_n 1, 1) := by decide +kernel
theorem dX6_read_55 : decode cX6_read 55 = .ok (.bipush 60, 2) := by decide +kernel
theorem dX6_read_57 : decode cX6_read 57 = .ok (.if_icmp .ge 39, 3) := by decide +kernel
theorem dX6_read_60 : decode cX6_read 60 = .ok (.iload_n 3, 1) := by decide +kernel
theorem dX6_read_61 : decode cX6_read 61 = .ok (.aload_n 0, 1) := by decide +kernel
theorem dX6_read_62 : decode cX6_read 62 = .ok (.getfield 39, 3) := by decide +kernel
theorem dX6_read_65 : decode cX6_read 65 = .ok (.getfield 249, 3) := by decide +kernel
theorem dX6_read_68 : decode cX6_read 68 = .ok (.if_icmp .ge 28, 3) := by decide +kernel
theorem dX6_read_71 : decode cX6_read 71 = .ok (.iload_n 2, 1) := by decide +kernel
theorem dX6_read_72 : decode cX6_read 72 = .ok (.ifCond .ne 24, 3) := by decide +kernel
theorem dX6_read_75 : decode cX6_read 75 = .ok (.aload_n 0, 1) := by decide +kernel
theorem dX6_read_76 : decode cX6_read 76 = .ok (.iload_n 3, 1) := by decide +kernel
theorem dX6_read_77 : decode cX6_read 77 = .ok (.invokevirtual 262, 3) := by decide +kernel
theorem dX6_read_80 : decode cX6_read 80 = .ok (.istore_n 2, 1) := by decide +kernel
theorem dX6_read_81 : decode cX6_read 81 = .ok (.aload_n 0, 1) := by decide +kernel
theorem dX6_read_82 : decode cX6_read 82 = .ok (.getfield 39, 3) := by decide +kernel
theorem dX6_read_85 : decode cX6_read 85 = .ok (.iload_n 3, 1) := by decide +kernel
theorem dX6_read_86 : decode cX6_read 86 = .ok (.invokevirtual 265, 3) := by decide +kernel
theorem dX6_read_89 : decode cX6_read 89 = .ok (.istore_n 3, 1) := by decide +kernel
theorem dX6_read_90 : decode cX6_read 90 = .ok (.iinc 1 1, 3) := by decide +kernel
theorem dX6_read_93 : decode cX6_read 93 = .ok (.goto (-39), 3) := by decide +kernel
theorem dX6_read_96 : decode cX6_read 96 = .ok (.aload_n 0, 1) := by decide +kernel
theorem dX6_read_97 : decode cX6_read 97 = .ok (.getfield 39, 3) := by decide +kernel
theorem dX6_read_100 : decode cX6_read 100 = .ok (.invokevirtual 254, 3) := by decide +kernel
theorem dX6_read_103 : decode cX6_read 103 = .ok (.iload_n 2, 1) := by decide +kernel
theorem dX6_read_104 : decode cX6_read 104 = .ok (.ifCond .eq 28, 3) := by decide +kernel
theorem dX6_read_107 : decode cX6_read 107 = .ok (.aload_n 0, 1) := by decide +kernel
theorem dX6_read_108 : decode cX6_read 108 = .ok (.getfield 12, 3) := by decide +kernel
theorem dX6_read_111 : decode cX6_read 111 = .ok (.aload_n 0, 1) := by decide +kernel
theorem dX6_read_112 : decode cX6_read 112 = .ok (.getfield 16, 3) := by decide +kernel
theorem dX6_read_115 : decode cX6_read 115 = .ok (.invokevirtual 259, 3) := by decide +kernel
theorem dX6_read_118 : decode cX6_read 118 = .ok (.aload_n 0, 1) := by decide +kernel
theorem dX6_read_119 : decode cX6_read 119 = .ok (.iload_n 2, 1) := by decide +kernel
theorem dX6_read_120 : decode cX6_read 120 = .ok (.iconst 1, 1) := by decide +kernel
theorem dX6_read_121 : decode cX6_read 121 = .ok (.if_icmp .ne 7, 3) := by decide +kernel
theorem dX6_read_124 : decode cX6_read 124 = .ok (.iconst 2, 1) := by decide +kernel
theorem dX6_read_125 : decode cX6_read 125 = .ok (.goto 4, 3) := by decide +kernel
theorem dX6_read_128 : decode cX6_read 128 = .ok (.iload_n 2, 1) := by decide +kernel
theorem dX6_read_129 : decode cX6_read 129 = .ok (.invokevirtual 268, 3) := by decide +kernel
theorem dX6_read_132 : decode cX6_read 132 = .ok (.aload_n 0, 1) := by decide +kernel
theorem dX6_read_133 : decode cX6_read 133 = .ok (.getfield 25, 3) := by decide +kernel
theorem dX6_read_136 : decode cX6_read 136 = .ok (.aload_n 0, 1) := by decide +kernel
theorem dX6_read_137 : decode cX6_read 137 = .ok (.getfield 16, 3) := by decide +kernel
theorem dX6_read_140 : decode cX6_read 140 = .ok (.invokevirtual 271, 3) := by decide +kernel
theorem dX6_read_143 : decode cX6_read 143 = .ok (.iload_n 1, 1) := by decide +kernel
theorem dX6_read_144 : decode cX6_read 144 = .ok (.ireturn, 1) := by decide +kernel
theorem dX6_refusal_0 : decode cX6_refusal 0 = .ok (.aload_n 0, 1) := by decide +kernel
theorem dX6_refusal_1 : decode cX6_refusal 1 = .ok (.getfield 274, 3) := by decide +kernel
theorem dX6_refusal_4 : decode cX6_refusal 4 = .ok (.ifCond .ne 14, 3) := by decide +kernel
theorem dX6_refusal_7 : decode cX6_refusal 7 = .ok (.new 161, 3) := by decide +kernel
theorem dX6_refusal_10 : decode cX6_refusal 10 = .ok (.dup, 1) := by decide +kernel
theorem dX6_refusal_11 : decode cX6_refusal 11 = .ok (.ldc_w 277, 3) := by decide +kernel
theorem dX6_refusal_14 : decode cX6_refusal 14 = .ok (.invokespecial 165, 3) := by decide +kernel
theorem dX6_refusal_17 : decode cX6_refusal 17 = .ok (.athrow, 1) := by decide +kernel
theorem dX6_refusal_18 : decode cX6_refusal 18 = .ok (.iload_n 1, 1) := by decide +kernel
theorem dX6_refusal_19 : decode cX6_refusal 19 = .ok (.ifCond .eq 10, 3) := by decide +kernel
theorem dX6_refusal_22 : decode cX6_refusal 22 = .ok (.aload_n 0, 1) := by decide +kernel
theorem dX6_refusal_23 : decode cX6_refusal 23 = .ok (.getfield 279, 3) := by decide +kernel
theorem dX6_refusal_26 : decode cX6_refusal 26 = .ok (.goto 7, 3) := by decide +kernel
theorem dX6_refusal_29 : decode cX6_refusal 29 = .ok (.aload_n 0, 1) := by decide +kernel
theorem dX6_refusal_30 : decode cX6_refusal 30 = .ok (.getfield 274, 3) := by decide +kernel
theorem dX6_refusal_33 : decode cX6_refusal 33 = .ok (.ireturn, 1) := by decide +kernel
theorem dX6_account_0 : decode cX6_account 0 = .ok (.iload_n 1, 1) := by decide +kernel
theorem dX6_account_1 : decode cX6_account 1 = .ok (.tableswitch 87 6 11 #[39, 47, 55, 63, 71, 79], 39) := by decide +kernel
theorem dX6_account_40 : decode cX6_account 40 = .ok (.aload_n 0, 1) := by decide +kernel
theorem dX6_account_41 : decode cX6_account 41 = .ok (.getfield 12, 3) := by decide +kernel
theorem dX6_account_44 : decode cX6_account 44 = .ok (.getfield 282, 3) := by decide +kernel
theorem dX6_account_47 : decode cX6_account 47 = .ok (.ireturn, 1) := by decide +kernel
theorem dX6_account_48 : decode cX6_account 48 = .ok (.aload_n 0, 1) := by decide +kernel
theorem dX6_account_49 : decode cX6_account 49 = .ok (.getfield 12, 3) := by decide +kernel
theorem dX6_account_52 : decode cX6_account 52 = .ok (.getfield 285, 3) := by decide +kernel
theorem dX6_account_55 : decode cX6_account 55 = .ok (.ireturn, 1) := by decide +kernel
theorem dX6_account_56 : decode cX6_account 56 = .ok (.aload_n 0, 1) := by decide +kernel
theorem dX6_account_57 : decode cX6_account 57 = .ok (.getfield 12, 3) := by decide +kernel
theorem dX6_account_60 : decode cX6_account 60 = .ok (.getfield 288, 3) := by decide +kernel
theorem dX6_account_63 : decode cX6_account 63 = .ok (.ireturn, 1) := by decide +kernel
theorem dX6_account_64 : decode cX6_account 64 = .ok (.aload_n 0, 1) := by decide +kernel
theorem dX6_account_65 : decode cX6_account 65 = .ok (.getfield 12, 3) := by decide +kernel
theorem dX6_account_68 : decode cX6_account 68 = .ok (.getfield 289, 3) := by decide +kernel
theorem dX6_account_71 : decode cX6_account 71 = .ok (.ireturn, 1) := by decide +kernel
theorem dX6_account_72 : decode cX6_account 72 = .ok (.aload_n 0, 1) := by decide +kernel
theorem dX6_account_73 : decode cX6_account 73 = .ok (.getfield 39, 3) := by decide +kernel
theorem dX6_account_76 : decode cX6_account 76 = .ok (.getfield 249, 3) := by decide +kernel
theorem dX6_account_79 : decode cX6_account 79 = .ok (.ireturn, 1) := by decide +kernel
theorem dX6_account_80 : decode cX6_account 80 = .ok (.aload_n 0, 1) := by decide +kernel
theorem dX6_account_81 : decode cX6_account 81 = .ok (.getfield 25, 3) := by decide +kernel
theorem dX6_account_84 : decode cX6_account 84 = .ok (.getfield 290, 3) := by decide +kernel
theorem dX6_account_87 : decode cX6_account 87 = .ok (.ireturn, 1) := by decide +kernel
theorem dX6_account_88 : decode cX6_account 88 = .ok (.iload_n 1, 1) := by decide +kernel
theorem dX6_account_89 : decode cX6_account 89 = .ok (.iconst 0, 1) := by decide +kernel
theorem dX6_account_90 : decode cX6_account 90 = .ok (.iconst 5, 1) := by decide +kernel
theorem dX6_account_91 : decode cX6_account 91 = .ok (.invokestatic 208, 3) := by decide +kernel
theorem dX6_account_94 : decode cX6_account 94 = .ok (.ifCond .ne 14, 3) := by decide +kernel
theorem dX6_account_97 : decode cX6_account 97 = .ok (.new 91, 3) := by decide +kernel
theorem dX6_account_100 : decode cX6_account 100 = .ok (.dup, 1) := by decide +kernel
theorem dX6_account_101 : decode cX6_account 101 = .ok (.ldc_w 293, 3) := by decide +kernel
theorem dX6_account_104 : decode cX6_account 104 = .ok (.invokespecial 95, 3) := by decide +kernel
theorem dX6_account_107 : decode cX6_account 107 = .ok (.athrow, 1) := by decide +kernel
theorem dX6_account_108 : decode cX6_account 108 = .ok (.aload_n 0, 1) := by decide +kernel
theorem dX6_account_109 : decode cX6_account 109 = .ok (.getfield 12, 3) := by decide +kernel
theorem dX6_account_112 : decode cX6_account 112 = .ok (.iload_n 1, 1) := by decide +kernel
theorem dX6_account_113 : decode cX6_account 113 = .ok (.invokevirtual 295, 3) := by decide +kernel
theorem dX6_account_116 : decode cX6_account 116 = .ok (.ireturn, 1) := by decide +kernel
theorem dX6_isWell_0 : decode cX6_isWell 0 = .ok (.aload_n 0, 1) := by decide +kernel
theorem dX6_isWell_1 : decode cX6_isWell 1 = .ok (.getfield 12, 3) := by decide +kernel
theorem dX6_isWell_4 : decode cX6_isWell 4 = .ok (.invokevirtual 298, 3) := by decide +kernel
theorem dX6_isWell_7 : decode cX6_isWell 7 = .ok (.ireturn, 1) := by decide +kernel
theorem dX6_meanSign_0 : decode cX6_meanSign 0 = .ok (.aload_n 0, 1) := by decide +kernel
theorem dX6_meanSign_1 : decode cX6_meanSign 1 = .ok (.iload_n 1, 1) := by decide +kernel
theorem dX6_meanSign_2 : decode cX6_meanSign 2 = .ok (.invokevirtual 64, 3) := by decide +kernel
theorem dX6_meanSign_5 : decode cX6_meanSign 5 = .ok (.astore_n 2, 1) := by decide +kernel
theorem dX6_meanSign_6 : decode cX6_meanSign 6 = .ok (.aload_n 2, 1) := by decide +kernel
theorem dX6_meanSign_7 : decode cX6_meanSign 7 = .ok (.invokevirtual 301, 3) := by decide +kernel
theorem dX6_meanSign_10 : decode cX6_meanSign 10 = .ok (.aload_n 2, 1) := by decide +kernel
theorem dX6_meanSign_11 : decode cX6_meanSign 11 = .ok (.invokevirtual 81, 3) := by decide +kernel
theorem dX6_meanSign_14 : decode cX6_meanSign 14 = .ok (.isub, 1) := by decide +kernel
theorem dX6_meanSign_15 : decode cX6_meanSign 15 = .ok (.istore_n 3, 1) := by decide +kernel
theorem dX6_meanSign_16 : decode cX6_meanSign 16 = .ok (.iload_n 3, 1) := by decide +kernel
theorem dX6_meanSign_17 : decode cX6_meanSign 17 = .ok (.ifCond .gt 14, 3) := by decide +kernel
theorem dX6_meanSign_20 : decode cX6_meanSign 20 = .ok (.new 304, 3) := by decide +kernel
theorem dX6_meanSign_23 : decode cX6_meanSign 23 = .ok (.dup, 1) := by decide +kernel
theorem dX6_meanSign_24 : decode cX6_meanSign 24 = .ok (.ldc_w 306, 3) := by decide +kernel
theorem dX6_meanSign_27 : decode cX6_meanSign 27 = .ok (.invokespecial 308, 3) := by decide +kernel
theorem dX6_meanSign_30 : decode cX6_meanSign 30 = .ok (.athrow, 1) := by decide +kernel
theorem dX6_meanSign_31 : decode cX6_meanSign 31 = .ok (.aload_n 2, 1) := by decide +kernel
theorem dX6_meanSign_32 : decode cX6_meanSign 32 = .ok (.invokevirtual 309, 3) := by decide +kernel
theorem dX6_meanSign_35 : decode cX6_meanSign 35 = .ok (.i2d, 1) := by decide +kernel
theorem dX6_meanSign_36 : decode cX6_meanSign 36 = .ok (.iload_n 3, 1) := by decide +kernel
theorem dX6_meanSign_37 : decode cX6_meanSign 37 = .ok (.i2d, 1) := by decide +kernel
theorem dX6_meanSign_38 : decode cX6_meanSign 38 = .ok (.ddiv, 1) := by decide +kernel
theorem dX6_meanSign_39 : decode cX6_meanSign 39 = .ok (.dreturn, 1) := by decide +kernel
theorem dX6_doubtShare_0 : decode cX6_doubtShare 0 = .ok (.aload_n 0, 1) := by decide +kernel
theorem dX6_doubtShare_1 : decode cX6_doubtShare 1 = .ok (.iload_n 1, 1) := by decide +kernel
theorem dX6_doubtShare_2 : decode cX6_doubtShare 2 = .ok (.invokevirtual 64, 3) := by decide +kernel
theorem dX6_doubtShare_5 : decode cX6_doubtShare 5 = .ok (.astore_n 2, 1) := by decide +kernel
theorem dX6_doubtShare_6 : decode cX6_doubtShare 6 = .ok (.aload_n 2, 1) := by decide +kernel
theorem dX6_doubtShare_7 : decode cX6_doubtShare 7 = .ok (.invokevirtual 301, 3) := by decide +kernel
theorem dX6_doubtShare_10 : decode cX6_doubtShare 10 = .ok (.istore_n 3, 1) := by decide +kernel
theorem dX6_doubtShare_11 : decode cX6_doubtShare 11 = .ok (.iload_n 3, 1) := by decide +kernel
theorem dX6_doubtShare_12 : decode cX6_doubtShare 12 = .ok (.ifCond .gt 7, 3) := by decide +kernel
theorem dX6_doubtShare_15 : decode cX6_doubtShare 15 = .ok (.fconst 0, 1) := by decide +kernel
theorem dX6_doubtShare_16 : decode cX6_doubtShare 16 = .ok (.goto 11, 3) := by decide +kernel
theorem dX6_doubtShare_19 : decode cX6_doubtShare 19 = .ok (.aload_n 2, 1) := by decide +kernel
theorem dX6_doubtShare_20 : decode cX6_doubtShare 20 = .ok (.invokevirtual 149, 3) := by decide +kernel
theorem dX6_doubtShare_23 : decode cX6_doubtShare 23 = .ok (.i2f, 1) := by decide +kernel
theorem dX6_doubtShare_24 : decode cX6_doubtShare 24 = .ok (.iload_n 3, 1) := by decide +kernel
theorem dX6_doubtShare_25 : decode cX6_doubtShare 25 = .ok (.i2f, 1) := by decide +kernel
theorem dX6_doubtShare_26 : decode cX6_doubtShare 26 = .ok (.fdiv, 1) := by decide +kernel
theorem dX6_doubtShare_27 : decode cX6_doubtShare 27 = .ok (.freturn, 1) := by decide +kernel
theorem dX6_undo_0 : decode cX6_undo 0 = .ok (.aload_n 0, 1) := by decide +kernel
theorem dX6_undo_1 : decode cX6_undo 1 = .ok (.getfield 25, 3) := by decide +kernel
theorem dX6_undo_4 : decode cX6_undo 4 = .ok (.invokevirtual 312, 3) := by decide +kernel
theorem dX6_undo_7 : decode cX6_undo 7 = .ok (.astore_n 1, 1) := by decide +kernel
theorem dX6_undo_8 : decode cX6_undo 8 = .ok (.aload_n 1, 1) := by decide +kernel
theorem dX6_undo_9 : decode cX6_undo 9 = .ok (.ifnonnull 14, 3) := by decide +kernel
theorem dX6_undo_12 : decode cX6_undo 12 = .ok (.new 240, 3) := by decide +kernel
theorem dX6_undo_15 : decode cX6_undo 15 = .ok (.dup, 1) := by decide +kernel
theorem dX6_undo_16 : decode cX6_undo 16 = .ok (.ldc_w 316, 3) := by decide +kernel
theorem dX6_undo_19 : decode cX6_undo 19 = .ok (.invokespecial 244, 3) := by decide +kernel
theorem dX6_undo_22 : decode cX6_undo 22 = .ok (.athrow, 1) := by decide +kernel
theorem dX6_undo_23 : decode cX6_undo 23 = .ok (.aload_n 0, 1) := by decide +kernel
theorem dX6_undo_24 : decode cX6_undo 24 = .ok (.getfield 12, 3) := by decide +kernel
theorem dX6_undo_27 : decode cX6_undo 27 = .ok (.aload_n 1, 1) := by decide +kernel
theorem dX6_undo_28 : decode cX6_undo 28 = .ok (.invokevirtual 259, 3) := by decide +kernel
theorem dX6_undo_31 : decode cX6_undo 31 = .ok (.aload_n 0, 1) := by decide +kernel
theorem dX6_undo_32 : decode cX6_undo 32 = .ok (.getfield 25, 3) := by decide +kernel
theorem dX6_undo_35 : decode cX6_undo 35 = .ok (.getfield 290, 3) := by decide +kernel
theorem dX6_undo_38 : decode cX6_undo 38 = .ok (.ireturn, 1) := by decide +kernel
theorem dX6_existing_0 : decode cX6_existing 0 = .ok (.aload_n 0, 1) := by decide +kernel
theorem dX6_existing_1 : decode cX6_existing 1 = .ok (.getfield 12, 3) := by decide +kernel
theorem dX6_existing_4 : decode cX6_existing 4 = .ok (.iload_n 1, 1) := by decide +kernel
theorem dX6_existing_5 : decode cX6_existing 5 = .ok (.invokevirtual 329, 3) := by decide +kernel
theorem dX6_existing_8 : decode cX6_existing 8 = .ok (.astore_n 2, 1) := by decide +kernel
theorem dX6_existing_9 : decode cX6_existing 9 = .ok (.aload_n 2, 1) := by decide +kernel
theorem dX6_existing_10 : decode cX6_existing 10 = .ok (.ifnonnull 14, 3) := by decide +kernel
theorem dX6_existing_13 : decode cX6_existing 13 = .ok (.new 228, 3) := by decide +kernel
theorem dX6_existing_16 : decode cX6_existing 16 = .ok (.dup, 1) := by decide +kernel
theorem dX6_existing_17 : decode cX6_existing 17 = .ok (.ldc_w 332, 3) := by decide +kernel
theorem dX6_existing_20 : decode cX6_existing 20 = .ok (.invokespecial 232, 3) := by decide +kernel
theorem dX6_existing_23 : decode cX6_existing 23 = .ok (.athrow, 1) := by decide +kernel
theorem dX6_existing_24 : decode cX6_existing 24 = .ok (.aload_n 2, 1) := by decide +kernel
theorem dX6_existing_25 : decode cX6_existing 25 = .ok (.areturn, 1) := by decide +kernel
theorem dX6_withRow_0 : decode cX6_withRow 0 = .ok (.aload_n 0, 1) := by decide +kernel
theorem dX6_withRow_1 : decode cX6_withRow 1 = .ok (.iload_n 1, 1) := by decide +kernel
theorem dX6_withRow_2 : decode cX6_withRow 2 = .ok (.invokevirtual 64, 3) := by decide +kernel
theorem dX6_withRow_5 : decode cX6_withRow 5 = .ok (.astore_n 3, 1) := by decide +kernel
theorem dX6_withRow_6 : decode cX6_withRow 6 = .ok (.aload_n 3, 1) := by decide +kernel
theorem dX6_withRow_7 : decode cX6_withRow 7 = .ok (.iload_n 2, 1) := by decide +kernel
theorem dX6_withRow_8 : decode cX6_withRow 8 = .ok (.invokevirtual 334, 3) := by decide +kernel
theorem dX6_withRow_11 : decode cX6_withRow 11 = .ok (.ifCond .ne 14, 3) := by decide +kernel
theorem dX6_withRow_14 : decode cX6_withRow 14 = .ok (.new 228, 3) := by decide +kernel
theorem dX6_withRow_17 : decode cX6_withRow 17 = .ok (.dup, 1) := by decide +kernel
theorem dX6_withRow_18 : decode cX6_withRow 18 = .ok (.ldc_w 338, 3) := by decide +kernel
theorem dX6_withRow_21 : decode cX6_withRow 21 = .ok (.invokespecial 232, 3) := by decide +kernel
theorem dX6_withRow_24 : decode cX6_withRow 24 = .ok (.athrow, 1) := by decide +kernel
theorem dX6_withRow_25 : decode cX6_withRow 25 = .ok (.aload_n 3, 1) := by decide +kernel
theorem dX6_withRow_26 : decode cX6_withRow 26 = .ok (.areturn, 1) := by decide +kernel
theorem dX6_withColumn_0 : decode cX6_withColumn 0 = .ok (.aload_n 0, 1) := by decide +kernel
theorem dX6_withColumn_1 : decode cX6_withColumn 1 = .ok (.iload_n 1, 1) := by decide +kernel
theorem dX6_withColumn_2 : decode cX6_withColumn 2 = .ok (.invokevirtual 64, 3) := by decide +kernel
theorem dX6_withColumn_5 : decode cX6_withColumn 5 = .ok (.astore_n 3, 1) := by decide +kernel
theorem dX6_withColumn_6 : decode cX6_withColumn 6 = .ok (.aload_n 3, 1) := by decide +kernel
theorem dX6_withColumn_7 : decode cX6_withColumn 7 = .ok (.iload_n 2, 1) := by decide +kernel
theorem dX6_withColumn_8 : decode cX6_withColumn 8 = .ok (.invokevirtual 340, 3) := by decide +kernel
theorem dX6_withColumn_11 : decode cX6_withColumn 11 = .ok (.ifCond .ne 14, 3) := by decide +kernel
theorem dX6_withColumn_14 : decode cX6_withColumn 14 = .ok (.new 228, 3) := by decide +kernel
theorem dX6_withColumn_17 : decode cX6_withColumn 17 = .ok (.dup, 1) := by decide +kernel
theorem dX6_withColumn_18 : decode cX6_withColumn 18 = .ok (.ldc_w 343, 3) := by decide +kernel
theorem dX6_withColumn_21 : decode cX6_withColumn 21 = .ok (.invokespecial 232, 3) := by decide +kernel
theorem dX6_withColumn_24 : decode cX6_withColumn 24 = .ok (.athrow, 1) := by decide +kernel
theorem dX6_withColumn_25 : decode cX6_withColumn 25 = .ok (.aload_n 3, 1) := by decide +kernel
theorem dX6_withColumn_26 : decode cX6_withColumn 26 = .ok (.areturn, 1) := by decide +kernel
theorem dX6_withCell_0 : decode cX6_withCell 0 = .ok (.aload_n 0, 1) := by decide +kernel
theorem dX6_withCell_1 : decode cX6_withCell 1 = .ok (.iload_n 1, 1) := by decide +kernel
theorem dX6_withCell_2 : decode cX6_withCell 2 = .ok (.invokevirtual 64, 3) := by decide +kernel
theorem dX6_withCell_5 : decode cX6_withCell 5 = .ok (.astore 4, 2) := by decide +kernel
theorem dX6_withCell_7 : decode cX6_withCell 7 = .ok (.aload 4, 2) := by decide +kernel
theorem dX6_withCell_9 : decode cX6_withCell 9 = .ok (.iload_n 2, 1) := by decide +kernel
theorem dX6_withCell_10 : decode cX6_withCell 10 = .ok (.iload_n 3, 1) := by decide +kernel
theorem dX6_withCell_11 : decode cX6_withCell 11 = .ok (.invokevirtual 345, 3) := by decide +kernel
theorem dX6_withCell_14 : decode cX6_withCell 14 = .ok (.ifCond .ne 14, 3) := by decide +kernel
theorem dX6_withCell_17 : decode cX6_withCell 17 = .ok (.new 228, 3) := by decide +kernel
theorem dX6_withCell_20 : decode cX6_withCell 20 = .ok (.dup, 1) := by decide +kernel
theorem dX6_withCell_21 : decode cX6_withCell 21 = .ok (.ldc_w 348, 3) := by decide +kernel
theorem dX6_withCell_24 : decode cX6_withCell 24 = .ok (.invokespecial 232, 3) := by decide +kernel
theorem dX6_withCell_27 : decode cX6_withCell 27 = .ok (.athrow, 1) := by decide +kernel
theorem dX6_withCell_28 : decode cX6_withCell 28 = .ok (.aload 4, 2) := by decide +kernel
theorem dX6_withCell_30 : decode cX6_withCell 30 = .ok (.areturn, 1) := by decide +kernel
theorem dX6_onlySealed_0 : decode cX6_onlySealed 0 = .ok (.aload_n 0, 1) := by decide +kernel
theorem dX6_onlySealed_1 : decode cX6_onlySealed 1 = .ok (.getfield 74, 3) := by decide +kernel
theorem dX6_onlySealed_4 : decode cX6_onlySealed 4 = .ok (.ifCond .ne 14, 3) := by decide +kernel
theorem dX6_onlySealed_7 : decode cX6_onlySealed 7 = .ok (.new 161, 3) := by decide +kernel
theorem dX6_onlySealed_10 : decode cX6_onlySealed 10 = .ok (.dup, 1) := by decide +kernel
theorem dX6_onlySealed_11 : decode cX6_onlySealed 11 = .ok (.ldc_w 350, 3) := by decide +kernel
theorem dX6_onlySealed_14 : decode cX6_onlySealed 14 = .ok (.invokespecial 165, 3) := by decide +kernel
theorem dX6_onlySealed_17 : decode cX6_onlySealed 17 = .ok (.athrow, 1) := by decide +kernel
theorem dX6_onlySealed_18 : decode cX6_onlySealed 18 = .ok (.aload_n 0, 1) := by decide +kernel
theorem dX6_onlySealed_19 : decode cX6_onlySealed 19 = .ok (.areturn, 1) := by decide +kernel
theorem dX6_change_0 : decode cX6_change 0 = .ok (.aload_n 0, 1) := by decide +kernel
theorem dX6_change_1 : decode cX6_change 1 = .ok (.aload_n 0, 1) := by decide +kernel
theorem dX6_change_2 : decode cX6_change 2 = .ok (.getfield 12, 3) := by decide +kernel
theorem dX6_change_5 : decode cX6_change 5 = .ok (.aload_n 1, 1) := by decide +kernel
theorem dX6_change_6 : decode cX6_change 6 = .ok (.iload_n 2, 1) := by decide +kernel
theorem dX6_change_7 : decode cX6_change 7 = .ok (.iload_n 3, 1) := by decide +kernel
theorem dX6_change_8 : decode cX6_change 8 = .ok (.iload 4, 2) := by decide +kernel
theorem dX6_change_10 : decode cX6_change 10 = .ok (.iload 5, 2) := by decide +kernel
theorem dX6_change_12 : decode cX6_change 12 = .ok (.invokevirtual 352, 3) := by decide +kernel
theorem dX6_change_15 : decode cX6_change 15 = .ok (.invokevirtual 268, 3) := by decide +kernel
theorem dX6_change_18 : decode cX6_change 18 = .ok (.aload_n 0, 1) := by decide +kernel
theorem dX6_change_19 : decode cX6_change 19 = .ok (.getfield 25, 3) := by decide +kernel
theorem dX6_change_22 : decode cX6_change 22 = .ok (.aload_n 0, 1) := by decide +kernel
theorem dX6_change_23 : decode cX6_change 23 = .ok (.getfield 12, 3) := by decide +kernel
theorem dX6_change_26 : decode cX6_change 26 = .ok (.invokevirtual 271, 3) := by decide +kernel
theorem dX6_change_29 : decode cX6_change 29 = .ok (.aload_n 0, 1) := by decide +kernel
theorem dX6_change_30 : decode cX6_change 30 = .ok (.getfield 12, 3) := by decide +kernel
theorem dX6_change_33 : decode cX6_change 33 = .ok (.aload_n 1, 1) := by decide +kernel
theorem dX6_change_34 : decode cX6_change 34 = .ok (.iload_n 2, 1) := by decide +kernel
theorem dX6_change_35 : decode cX6_change 35 = .ok (.iload_n 3, 1) := by decide +kernel
theorem dX6_change_36 : decode cX6_change 36 = .ok (.iload 4, 2) := by decide +kernel
theorem dX6_change_38 : decode cX6_change 38 = .ok (.iload 5, 2) := by decide +kernel
theorem dX6_change_40 : decode cX6_change 40 = .ok (.invokevirtual 355, 3) := by decide +kernel
theorem dX6_change_43 : decode cX6_change 43 = .ok (.ireturn, 1) := by decide +kernel
theorem dX6_carryOutOrder_0 : decode cX6_carryOutOrder 0 = .ok (.aload_n 0, 1) := by decide +kernel
theorem dX6_carryOutOrder_1 : decode cX6_carryOutOrder 1 = .ok (.getfield 39, 3) := by decide +kernel
theorem dX6_carryOutOrder_4 : decode cX6_carryOutOrder 4 = .ok (.iload_n 1, 1) := by decide +kernel
theorem dX6_carryOutOrder_5 : decode cX6_carryOutOrder 5 = .ok (.invokevirtual 358, 3) := by decide +kernel
theorem dX6_carryOutOrder_8 : decode cX6_carryOutOrder 8 = .ok (.astore_n 2, 1) := by decide +kernel
theorem dX6_carryOutOrder_9 : decode cX6_carryOutOrder 9 = .ok (.aload_n 2, 1) := by decide +kernel
theorem dX6_carryOutOrder_10 : decode cX6_carryOutOrder 10 = .ok (.ifnonnull 5, 3) := by decide +kernel
theorem dX6_carryOutOrder_13 : decode cX6_carryOutOrder 13 = .ok (.iconst 2, 1) := by decide +kernel
theorem dX6_carryOutOrder_14 : decode cX6_carryOutOrder 14 = .ok (.ireturn, 1) := by decide +kernel
theorem dX6_carryOutOrder_15 : decode cX6_carryOutOrder 15 = .ok (.aload_n 0, 1) := by decide +kernel
theorem dX6_carryOutOrder_16 : decode cX6_carryOutOrder 16 = .ok (.getfield 39, 3) := by decide +kernel
theorem dX6_carryOutOrder_19 : decode cX6_carryOutOrder 19 = .ok (.iload_n 1, 1) := by decide +kernel
theorem dX6_carryOutOrder_20 : decode cX6_carryOutOrder 20 = .ok (.aload_n 2, 1) := by decide +kernel
theorem dX6_carryOutOrder_21 : decode cX6_carryOutOrder 21 = .ok (.iconst 0, 1) := by decide +kernel
theorem dX6_carryOutOrder_22 : decode cX6_carryOutOrder 22 = .ok (.invokevirtual 362, 3) := by decide +kernel
theorem dX6_carryOutOrder_25 : decode cX6_carryOutOrder 25 = .ok (.istore_n 3, 1) := by decide +kernel
theorem dX6_carryOutOrder_26 : decode cX6_carryOutOrder 26 = .ok (.aload_n 0, 1) := by decide +kernel
theorem dX6_carryOutOrder_27 : decode cX6_carryOutOrder 27 = .ok (.getfield 39, 3) := by decide +kernel
theorem dX6_carryOutOrder_30 : decode cX6_carryOutOrder 30 = .ok (.iload_n 1, 1) := by decide +kernel
theorem dX6_carryOutOrder_31 : decode cX6_carryOutOrder 31 = .ok (.aload_n 2, 1) := by decide +kernel
theorem dX6_carryOutOrder_32 : decode cX6_carryOutOrder 32 = .ok (.iconst 1, 1) := by decide +kernel
theorem dX6_carryOutOrder_33 : decode cX6_carryOutOrder 33 = .ok (.invokevirtual 362, 3) := by decide +kernel
theorem dX6_carryOutOrder_36 : decode cX6_carryOutOrder 36 = .ok (.istore 4, 2) := by decide +kernel
theorem dX6_carryOutOrder_38 : decode cX6_carryOutOrder 38 = .ok (.aload_n 0, 1) := by decide +kernel
theorem dX6_carryOutOrder_39 : decode cX6_carryOutOrder 39 = .ok (.getfield 39, 3) := by decide +kernel
theorem dX6_carryOutOrder_42 : decode cX6_carryOutOrder 42 = .ok (.iload_n 1, 1) := by decide +kernel
theorem dX6_carryOutOrder_43 : decode cX6_carryOutOrder 43 = .ok (.aload_n 2, 1) := by decide +kernel
theorem dX6_carryOutOrder_44 : decode cX6_carryOutOrder 44 = .ok (.iconst 2, 1) := by decide +kernel
theorem dX6_carryOutOrder_45 : decode cX6_carryOutOrder 45 = .ok (.invokevirtual 362, 3) := by decide +kernel
theorem dX6_carryOutOrder_48 : decode cX6_carryOutOrder 48 = .ok (.istore 5, 2) := by decide +kernel
theorem dX6_carryOutOrder_50 : decode cX6_carryOutOrder 50 = .ok (.aload_n 0, 1) := by decide +kernel
theorem dX6_carryOutOrder_51 : decode cX6_carryOutOrder 51 = .ok (.getfield 39, 3) := by decide +kernel
theorem dX6_carryOutOrder_54 : decode cX6_carryOutOrder 54 = .ok (.iload_n 1, 1) := by decide +kernel
theorem dX6_carryOutOrder_55 : decode cX6_carryOutOrder 55 = .ok (.aload_n 2, 1) := by decide +kernel
theorem dX6_carryOutOrder_56 : decode cX6_carryOutOrder 56 = .ok (.iconst 3, 1) := by decide +kernel
theorem dX6_carryOutOrder_57 : decode cX6_carryOutOrder 57 = .ok (.invokevirtual 362, 3) := by decide +kernel
theorem dX6_carryOutOrder_60 : decode cX6_carryOutOrder 60 = .ok (.istore 6, 2) := by decide +kernel
theorem dX6_carryOutOrder_62 : decode cX6_carryOutOrder 62 = .ok (.aload_n 0, 1) := by decide +kernel
theorem dX6_carryOutOrder_63 : decode cX6_carryOutOrder 63 = .ok (.getfield 12, 3) := by decide +kernel
theorem dX6_carryOutOrder_66 : decode cX6_carryOutOrder 66 = .ok (.aload_n 2, 1) := by decide +kernel
theorem dX6_carryOutOrder_67 : decode cX6_carryOutOrder 67 = .ok (.iload_n 3, 1) := by decide +kernel
theorem dX6_carryOutOrder_68 : decode cX6_carryOutOrder 68 = .ok (.iload 4, 2) := by decide +kernel
theorem dX6_carryOutOrder_70 : decode cX6_carryOutOrder 70 = .ok (.iload 5, 2) := by decide +kernel
theorem dX6_carryOutOrder_72 : decode cX6_carryOutOrder 72 = .ok (.iload 6, 2) := by decide +kernel
theorem dX6_carryOutOrder_74 : decode cX6_carryOutOrder 74 = .ok (.invokevirtual 352, 3) := by decide +kernel
theorem dX6_carryOutOrder_77 : decode cX6_carryOutOrder 77 = .ok (.istore 7, 2) := by decide +kernel
theorem dX6_carryOutOrder_79 : decode cX6_carryOutOrder 79 = .ok (.iload 7, 2) := by decide +kernel
theorem dX6_carryOutOrder_81 : decode cX6_carryOutOrder 81 = .ok (.ifCond .ne 19, 3) := by decide +kernel
theorem dX6_carryOutOrder_84 : decode cX6_carryOutOrder 84 = .ok (.aload_n 0, 1) := by decide +kernel
theorem dX6_carryOutOrder_85 : decode cX6_carryOutOrder 85 = .ok (.getfield 12, 3) := by decide +kernel
theorem dX6_carryOutOrder_88 : decode cX6_carryOutOrder 88 = .ok (.aload_n 2, 1) := by decide +kernel
theorem dX6_carryOutOrder_89 : decode cX6_carryOutOrder 89 = .ok (.iload_n 3, 1) := by decide +kernel
theorem dX6_carryOutOrder_90 : decode cX6_carryOutOrder 90 = .ok (.iload 4, 2) := by decide +kernel
theorem dX6_carryOutOrder_92 : decode cX6_carryOutOrder 92 = .ok (.iload 5, 2) := by decide +kernel
theorem dX6_carryOutOrder_94 : decode cX6_carryOutOrder 94 = .ok (.iload 6, 2) := by decide +kernel
theorem dX6_carryOutOrder_96 : decode cX6_carryOutOrder 96 = .ok (.invokevirtual 355, 3) := by decide +kernel
theorem dX6_carryOutOrder_99 : decode cX6_carryOutOrder 99 = .ok (.pop, 1) := by decide +kernel
theorem dX6_carryOutOrder_100 : decode cX6_carryOutOrder 100 = .ok (.iload 7, 2) := by decide +kernel
theorem dX6_carryOutOrder_102 : decode cX6_carryOutOrder 102 = .ok (.ireturn, 1) := by decide +kernel
theorem dX6_stopFor_0 : decode cX6_stopFor 0 = .ok (.iload_n 1, 1) := by decide +kernel
theorem dX6_stopFor_1 : decode cX6_stopFor 1 = .ok (.iconst 1, 1) := by decide +kernel
theorem dX6_stopFor_2 : decode cX6_stopFor 2 = .ok (.if_icmp .ne 14, 3) := by decide +kernel
theorem dX6_stopFor_5 : decode cX6_stopFor 5 = .ok (.new 228, 3) := by decide +kernel
theorem dX6_stopFor_8 : decode cX6_stopFor 8 = .ok (.dup, 1) := by decide +kernel
theorem dX6_stopFor_9 : decode cX6_stopFor 9 = .ok (.ldc_w 366, 3) := by decide +kernel
theorem dX6_stopFor_12 : decode cX6_stopFor 12 = .ok (.invokespecial 232, 3) := by decide +kernel
theorem dX6_stopFor_15 : decode cX6_stopFor 15 = .ok (.athrow, 1) := by decide +kernel
theorem dX6_stopFor_16 : decode cX6_stopFor 16 = .ok (.iload_n 1, 1) := by decide +kernel
theorem dX6_stopFor_17 : decode cX6_stopFor 17 = .ok (.iconst 2, 1) := by decide +kernel
theorem dX6_stopFor_18 : decode cX6_stopFor 18 = .ok (.if_icmp .ne 14, 3) := by decide +kernel
theorem dX6_stopFor_21 : decode cX6_stopFor 21 = .ok (.new 91, 3) := by decide +kernel
theorem dX6_stopFor_24 : decode cX6_stopFor 24 = .ok (.dup, 1) := by decide +kernel
theorem dX6_stopFor_25 : decode cX6_stopFor 25 = .ok (.ldc_w 368, 3) := by decide +kernel
theorem dX6_stopFor_28 : decode cX6_stopFor 28 = .ok (.invokespecial 95, 3) := by decide +kernel
theorem dX6_stopFor_31 : decode cX6_stopFor 31 = .ok (.athrow, 1) := by decide +kernel
theorem dX6_stopFor_32 : decode cX6_stopFor 32 = .ok (.iload_n 1, 1) := by decide +kernel
theorem dX6_stopFor_33 : decode cX6_stopFor 33 = .ok (.bipush 100, 2) := by decide +kernel
theorem dX6_stopFor_35 : decode cX6_stopFor 35 = .ok (.if_icmp .lt 30, 3) := by decide +kernel
theorem dX6_stopFor_38 : decode cX6_stopFor 38 = .ok (.aload_n 0, 1) := by decide +kernel
theorem dX6_stopFor_39 : decode cX6_stopFor 39 = .ok (.iload_n 1, 1) := by decide +kernel
theorem dX6_stopFor_40 : decode cX6_stopFor 40 = .ok (.bipush 100, 2) := by decide +kernel
theorem dX6_stopFor_42 : decode cX6_stopFor 42 = .ok (.idiv, 1) := by decide +kernel
theorem dX6_stopFor_43 : decode cX6_stopFor 43 = .ok (.putfield 274, 3) := by decide +kernel
theorem dX6_stopFor_46 : decode cX6_stopFor 46 = .ok (.aload_n 0, 1) := by decide +kernel
theorem dX6_stopFor_47 : decode cX6_stopFor 47 = .ok (.iload_n 1, 1) := by decide +kernel
theorem dX6_stopFor_48 : decode cX6_stopFor 48 = .ok (.bipush 100, 2) := by decide +kernel
theorem dX6_stopFor_50 : decode cX6_stopFor 50 = .ok (.irem, 1) := by decide +kernel
theorem dX6_stopFor_51 : decode cX6_stopFor 51 = .ok (.putfield 279, 3) := by decide +kernel
theorem dX6_stopFor_54 : decode cX6_stopFor 54 = .ok (.new 370, 3) := by decide +kernel
theorem dX6_stopFor_57 : decode cX6_stopFor 57 = .ok (.dup, 1) := by decide +kernel
theorem dX6_stopFor_58 : decode cX6_stopFor 58 = .ok (.ldc_w 372, 3) := by decide +kernel
theorem dX6_stopFor_61 : decode cX6_stopFor 61 = .ok (.invokespecial 374, 3) := by decide +kernel
theorem dX6_stopFor_64 : decode cX6_stopFor 64 = .ok (.athrow, 1) := by decide +kernel
theorem dX6_stopFor_65 : decode cX6_stopFor 65 = .ok (.return_, 1) := by decide +kernel
theorem dX6_refused_0 : decode cX6_refused 0 = .ok (.bipush 100, 2) := by decide +kernel
theorem dX6_refused_2 : decode cX6_refused 2 = .ok (.iload_n 0, 1) := by decide +kernel
theorem dX6_refused_3 : decode cX6_refused 3 = .ok (.imul, 1) := by decide +kernel
theorem dX6_refused_4 : decode cX6_refused 4 = .ok (.iload_n 1, 1) := by decide +kernel
theorem dX6_refused_5 : decode cX6_refused 5 = .ok (.iadd, 1) := by decide +kernel
theorem dX6_refused_6 : decode cX6_refused 6 = .ok (.ireturn, 1) := by decide +kernel
theorem dX6_isWithin_0 : decode cX6_isWithin 0 = .ok (.iload_n 0, 1) := by decide +kernel
theorem dX6_isWithin_1 : decode cX6_isWithin 1 = .ok (.iload_n 1, 1) := by decide +kernel
theorem dX6_isWithin_2 : decode cX6_isWithin 2 = .ok (.if_icmp .lt 12, 3) := by decide +kernel
theorem dX6_isWithin_5 : decode cX6_isWithin 5 = .ok (.iload_n 0, 1) := by decide +kernel
theorem dX6_isWithin_6 : decode cX6_isWithin 6 = .ok (.iload_n 2, 1) := by decide +kernel
theorem dX6_isWithin_7 : decode cX6_isWithin 7 = .ok (.if_icmp .gt 7, 3) := by decide +kernel
theorem dX6_isWithin_10 : decode cX6_isWithin 10 = .ok (.iconst 1, 1) := by decide +kernel
theorem dX6_isWithin_11 : decode cX6_isWithin 11 = .ok (.goto 4, 3) := by decide +kernel
theorem dX6_isWithin_14 : decode cX6_isWithin 14 = .ok (.iconst 0, 1) := by decide +kernel
theorem dX6_isWithin_15 : decode cX6_isWithin 15 = .ok (.ireturn, 1) := by decide +kernel
theorem dX6_entry_0 : decode cX6_entry 0 = .ok (.iload_n 1, 1) := by decide +kernel
theorem dX6_entry_1 : decode cX6_entry 1 = .ok (.ifCond .lt 15, 3) := by decide +kernel
theorem dX6_entry_4 : decode cX6_entry 4 = .ok (.iload_n 1, 1) := by decide +kernel
theorem dX6_entry_5 : decode cX6_entry 5 = .ok (.aload_n 0, 1) := by decide +kernel
theorem dX6_entry_6 : decode cX6_entry 6 = .ok (.arraylength, 1) := by decide +kernel
theorem dX6_entry_7 : decode cX6_entry 7 = .ok (.if_icmp .ge 9, 3) := by decide +kernel
theorem dX6_entry_10 : decode cX6_entry 10 = .ok (.aload_n 0, 1) := by decide +kernel
theorem dX6_entry_11 : decode cX6_entry 11 = .ok (.iload_n 1, 1) := by decide +kernel
theorem dX6_entry_12 : decode cX6_entry 12 = .ok (.iaload, 1) := by decide +kernel
theorem dX6_entry_13 : decode cX6_entry 13 = .ok (.goto 4, 3) := by decide +kernel
theorem dX6_entry_16 : decode cX6_entry 16 = .ok (.iconst 0, 1) := by decide +kernel
theorem dX6_entry_17 : decode cX6_entry 17 = .ok (.ireturn, 1) := by decide +kernel
theorem dX6_put_0 : decode cX6_put 0 = .ok (.iload_n 1, 1) := by decide +kernel
theorem dX6_put_1 : decode cX6_put 1 = .ok (.ifCond .lt 13, 3) := by decide +kernel
theorem dX6_put_4 : decode cX6_put 4 = .ok (.iload_n 1, 1) := by decide +kernel
theorem dX6_put_5 : decode cX6_put 5 = .ok (.aload_n 0, 1) := by decide +kernel
theorem dX6_put_6 : decode cX6_put 6 = .ok (.arraylength, 1) := by decide +kernel
theorem dX6_put_7 : decode cX6_put 7 = .ok (.if_icmp .ge 7, 3) := by decide +kernel
theorem dX6_put_10 : decode cX6_put 10 = .ok (.aload_n 0, 1) := by decide +kernel
theorem dX6_put_11 : decode cX6_put 11 = .ok (.iload_n 1, 1) := by decide +kernel
theorem dX6_put_12 : decode cX6_put 12 = .ok (.iload_n 2, 1) := by decide +kernel
theorem dX6_put_13 : decode cX6_put 13 = .ok (.iastore, 1) := by decide +kernel
theorem dX6_put_14 : decode cX6_put 14 = .ok (.return_, 1) := by decide +kernel
theorem dX6_add_0 : decode cX6_add 0 = .ok (.iload_n 1, 1) := by decide +kernel
theorem dX6_add_1 : decode cX6_add 1 = .ok (.ifCond .lt 16, 3) := by decide +kernel
theorem dX6_add_4 : decode cX6_add 4 = .ok (.iload_n 1, 1) := by decide +kernel
theorem dX6_add_5 : decode cX6_add 5 = .ok (.aload_n 0, 1) := by decide +kernel
theorem dX6_add_6 : decode cX6_add 6 = .ok (.arraylength, 1) := by decide +kernel
theorem dX6_add_7 : decode cX6_add 7 = .ok (.if_icmp .ge 10, 3) := by decide +kernel
theorem dX6_add_10 : decode cX6_add 10 = .ok (.aload_n 0, 1) := by decide +kernel
theorem dX6_add_11 : decode cX6_add 11 = .ok (.iload_n 1, 1) := by decide +kernel
theorem dX6_add_12 : decode cX6_add 12 = .ok (.dup2, 1) := by decide +kernel
theorem dX6_add_13 : decode cX6_add 13 = .ok (.iaload, 1) := by decide +kernel
theorem dX6_add_14 : decode cX6_add 14 = .ok (.iload_n 2, 1) := by decide +kernel
theorem dX6_add_15 : decode cX6_add 15 = .ok (.iadd, 1) := by decide +kernel
theorem dX6_add_16 : decode cX6_add 16 = .ok (.iastore, 1) := by decide +kernel
theorem dX6_add_17 : decode cX6_add 17 = .ok (.return_, 1) := by decide +kernel
theorem dX6_clear_0 : decode cX6_clear 0 = .ok (.iconst 0, 1) := by decide +kernel
theorem dX6_clear_1 : decode cX6_clear 1 = .ok (.istore_n 1, 1) := by decide +kernel
theorem dX6_clear_2 : decode cX6_clear 2 = .ok (.iload_n 1, 1) := by decide +kernel
theorem dX6_clear_3 : decode cX6_clear 3 = .ok (.aload_n 0, 1) := by decide +kernel
theorem dX6_clear_4 : decode cX6_clear 4 = .ok (.arraylength, 1) := by decide +kernel
theorem dX6_clear_5 : decode cX6_clear 5 = .ok (.if_icmp .ge 13, 3) := by decide +kernel
theorem dX6_clear_8 : decode cX6_clear 8 = .ok (.aload_n 0, 1) := by decide +kernel
theorem dX6_clear_9 : decode cX6_clear 9 = .ok (.iload_n 1, 1) := by decide +kernel
theorem dX6_clear_10 : decode cX6_clear 10 = .ok (.iconst 0, 1) := by decide +kernel
theorem dX6_clear_11 : decode cX6_clear 11 = .ok (.iastore, 1) := by decide +kernel
theorem dX6_clear_12 : decode cX6_clear 12 = .ok (.iinc 1 1, 3) := by decide +kernel
theorem dX6_clear_15 : decode cX6_clear 15 = .ok (.goto (-13), 3) := by decide +kernel
theorem dX6_clear_18 : decode cX6_clear 18 = .ok (.return_, 1) := by decide +kernel
theorem dX6_transfer_0 : decode cX6_transfer 0 = .ok (.aload_n 0, 1) := by decide +kernel
theorem dX6_transfer_1 : decode cX6_transfer 1 = .ok (.iconst 0, 1) := by decide +kernel
theorem dX6_transfer_2 : decode cX6_transfer 2 = .ok (.aload_n 1, 1) := by decide +kernel
theorem dX6_transfer_3 : decode cX6_transfer 3 = .ok (.iconst 0, 1) := by decide +kernel
theorem dX6_transfer_4 : decode cX6_transfer 4 = .ok (.aload_n 0, 1) := by decide +kernel
theorem dX6_transfer_5 : decode cX6_transfer 5 = .ok (.arraylength, 1) := by decide +kernel
theorem dX6_transfer_6 : decode cX6_transfer 6 = .ok (.aload_n 1, 1) := by decide +kernel
theorem dX6_transfer_7 : decode cX6_transfer 7 = .ok (.arraylength, 1) := by decide +kernel
theorem dX6_transfer_8 : decode cX6_transfer 8 = .ok (.invokestatic 375, 3) := by decide +kernel
theorem dX6_transfer_11 : decode cX6_transfer 11 = .ok (.invokestatic 380, 3) := by decide +kernel
theorem dX6_transfer_14 : decode cX6_transfer 14 = .ok (.return_, 1) := by decide +kernel
