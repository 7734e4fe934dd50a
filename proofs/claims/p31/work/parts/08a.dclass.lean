theorem dX0_init_0 : decode cX0_init 0 = .ok (.aload_n 0, 1) := by decide +kernel
theorem dX0_init_1 : decode cX0_init 1 = .ok (.invokespecial 3, 3) := by decide +kernel
theorem dX0_init_4 : decode cX0_init 4 = .ok (.aload_n 0, 1) := by decide +kernel
theorem dX0_init_5 : decode cX0_init 5 = .ok (.bipush 16, 2) := by decide +kernel
theorem dX0_init_7 : decode cX0_init 7 = .ok (.anewarray 9, 3) := by decide +kernel
theorem dX0_init_10 : decode cX0_init 10 = .ok (.putfield 11, 3) := by decide +kernel
theorem dX0_init_13 : decode cX0_init 13 = .ok (.iconst 0, 1) := by decide +kernel
theorem dX0_init_14 : decode cX0_init 14 = .ok (.istore_n 1, 1) := by decide +kernel
theorem dX0_init_15 : decode cX0_init 15 = .ok (.iload_n 1, 1) := by decide +kernel
theorem dX0_init_16 : decode cX0_init 16 = .ok (.bipush 16, 2) := by decide +kernel
theorem dX0_init_18 : decode cX0_init 18 = .ok (.if_icmp .ge 22, 3) := by decide +kernel
theorem dX0_init_21 : decode cX0_init 21 = .ok (.aload_n 0, 1) := by decide +kernel
theorem dX0_init_22 : decode cX0_init 22 = .ok (.getfield 11, 3) := by decide +kernel
theorem dX0_init_25 : decode cX0_init 25 = .ok (.iload_n 1, 1) := by decide +kernel
theorem dX0_init_26 : decode cX0_init 26 = .ok (.new 9, 3) := by decide +kernel
theorem dX0_init_29 : decode cX0_init 29 = .ok (.dup, 1) := by decide +kernel
theorem dX0_init_30 : decode cX0_init 30 = .ok (.invokespecial 17, 3) := by decide +kernel
theorem dX0_init_33 : decode cX0_init 33 = .ok (.aastore, 1) := by decide +kernel
theorem dX0_init_34 : decode cX0_init 34 = .ok (.iinc 1 1, 3) := by decide +kernel
theorem dX0_init_37 : decode cX0_init 37 = .ok (.goto (-22), 3) := by decide +kernel
theorem dX0_init_40 : decode cX0_init 40 = .ok (.return_, 1) := by decide +kernel
theorem dX0_copyFrom_0 : decode cX0_copyFrom 0 = .ok (.aload_n 0, 1) := by decide +kernel
theorem dX0_copyFrom_1 : decode cX0_copyFrom 1 = .ok (.aload_n 1, 1) := by decide +kernel
theorem dX0_copyFrom_2 : decode cX0_copyFrom 2 = .ok (.getfield 18, 3) := by decide +kernel
theorem dX0_copyFrom_5 : decode cX0_copyFrom 5 = .ok (.putfield 18, 3) := by decide +kernel
theorem dX0_copyFrom_8 : decode cX0_copyFrom 8 = .ok (.iconst 0, 1) := by decide +kernel
theorem dX0_copyFrom_9 : decode cX0_copyFrom 9 = .ok (.istore_n 2, 1) := by decide +kernel
theorem dX0_copyFrom_10 : decode cX0_copyFrom 10 = .ok (.iload_n 2, 1) := by decide +kernel
theorem dX0_copyFrom_11 : decode cX0_copyFrom 11 = .ok (.aload_n 0, 1) := by decide +kernel
theorem dX0_copyFrom_12 : decode cX0_copyFrom 12 = .ok (.getfield 18, 3) := by decide +kernel
theorem dX0_copyFrom_15 : decode cX0_copyFrom 15 = .ok (.if_icmp .ge 24, 3) := by decide +kernel
theorem dX0_copyFrom_18 : decode cX0_copyFrom 18 = .ok (.aload_n 0, 1) := by decide +kernel
theorem dX0_copyFrom_19 : decode cX0_copyFrom 19 = .ok (.getfield 11, 3) := by decide +kernel
theorem dX0_copyFrom_22 : decode cX0_copyFrom 22 = .ok (.iload_n 2, 1) := by decide +kernel
theorem dX0_copyFrom_23 : decode cX0_copyFrom 23 = .ok (.aaload, 1) := by decide +kernel
theorem dX0_copyFrom_24 : decode cX0_copyFrom 24 = .ok (.aload_n 1, 1) := by decide +kernel
theorem dX0_copyFrom_25 : decode cX0_copyFrom 25 = .ok (.getfield 11, 3) := by decide +kernel
theorem dX0_copyFrom_28 : decode cX0_copyFrom 28 = .ok (.iload_n 2, 1) := by decide +kernel
theorem dX0_copyFrom_29 : decode cX0_copyFrom 29 = .ok (.aaload, 1) := by decide +kernel
theorem dX0_copyFrom_30 : decode cX0_copyFrom 30 = .ok (.invokevirtual 22, 3) := by decide +kernel
theorem dX0_copyFrom_33 : decode cX0_copyFrom 33 = .ok (.iinc 2 1, 3) := by decide +kernel
theorem dX0_copyFrom_36 : decode cX0_copyFrom 36 = .ok (.goto (-26), 3) := by decide +kernel
theorem dX0_copyFrom_39 : decode cX0_copyFrom 39 = .ok (.return_, 1) := by decide +kernel
theorem dX0_has_0 : decode cX0_has 0 = .ok (.iload_n 1, 1) := by decide +kernel
theorem dX0_has_1 : decode cX0_has 1 = .ok (.iconst 0, 1) := by decide +kernel
theorem dX0_has_2 : decode cX0_has 2 = .ok (.aload_n 0, 1) := by decide +kernel
theorem dX0_has_3 : decode cX0_has 3 = .ok (.getfield 18, 3) := by decide +kernel
theorem dX0_has_6 : decode cX0_has 6 = .ok (.iconst 1, 1) := by decide +kernel
theorem dX0_has_7 : decode cX0_has 7 = .ok (.isub, 1) := by decide +kernel
theorem dX0_has_8 : decode cX0_has 8 = .ok (.invokestatic 26, 3) := by decide +kernel
theorem dX0_has_11 : decode cX0_has 11 = .ok (.ireturn, 1) := by decide +kernel
theorem dX0_isFull_0 : decode cX0_isFull 0 = .ok (.aload_n 0, 1) := by decide +kernel
theorem dX0_isFull_1 : decode cX0_isFull 1 = .ok (.getfield 18, 3) := by decide +kernel
theorem dX0_isFull_4 : decode cX0_isFull 4 = .ok (.bipush 16, 2) := by decide +kernel
theorem dX0_isFull_6 : decode cX0_isFull 6 = .ok (.if_icmp .lt 7, 3) := by decide +kernel
theorem dX0_isFull_9 : decode cX0_isFull 9 = .ok (.iconst 1, 1) := by decide +kernel
theorem dX0_isFull_10 : decode cX0_isFull 10 = .ok (.goto 4, 3) := by decide +kernel
theorem dX0_isFull_13 : decode cX0_isFull 13 = .ok (.iconst 0, 1) := by decide +kernel
theorem dX0_isFull_14 : decode cX0_isFull 14 = .ok (.ireturn, 1) := by decide +kernel
theorem dX0_remove_0 : decode cX0_remove 0 = .ok (.aload_n 0, 1) := by decide +kernel
theorem dX0_remove_1 : decode cX0_remove 1 = .ok (.getfield 11, 3) := by decide +kernel
theorem dX0_remove_4 : decode cX0_remove 4 = .ok (.iload_n 1, 1) := by decide +kernel
theorem dX0_remove_5 : decode cX0_remove 5 = .ok (.aaload, 1) := by decide +kernel
theorem dX0_remove_6 : decode cX0_remove 6 = .ok (.astore_n 2, 1) := by decide +kernel
theorem dX0_remove_7 : decode cX0_remove 7 = .ok (.iload_n 1, 1) := by decide +kernel
theorem dX0_remove_8 : decode cX0_remove 8 = .ok (.istore_n 3, 1) := by decide +kernel
theorem dX0_remove_9 : decode cX0_remove 9 = .ok (.iload_n 3, 1) := by decide +kernel
theorem dX0_remove_10 : decode cX0_remove 10 = .ok (.aload_n 0, 1) := by decide +kernel
theorem dX0_remove_11 : decode cX0_remove 11 = .ok (.getfield 18, 3) := by decide +kernel
theorem dX0_remove_14 : decode cX0_remove 14 = .ok (.iconst 1, 1) := by decide +kernel
theorem dX0_remove_15 : decode cX0_remove 15 = .ok (.isub, 1) := by decide +kernel
theorem dX0_remove_16 : decode cX0_remove 16 = .ok (.if_icmp .ge 23, 3) := by decide +kernel
theorem dX0_remove_19 : decode cX0_remove 19 = .ok (.aload_n 0, 1) := by decide +kernel
theorem dX0_remove_20 : decode cX0_remove 20 = .ok (.getfield 11, 3) := by decide +kernel
theorem dX0_remove_23 : decode cX0_remove 23 = .ok (.iload_n 3, 1) := by decide +kernel
theorem dX0_remove_24 : decode cX0_remove 24 = .ok (.aload_n 0, 1) := by decide +kernel
theorem dX0_remove_25 : decode cX0_remove 25 = .ok (.getfield 11, 3) := by decide +kernel
theorem dX0_remove_28 : decode cX0_remove 28 = .ok (.iload_n 3, 1) := by decide +kernel
theorem dX0_remove_29 : decode cX0_remove 29 = .ok (.iconst 1, 1) := by decide +kernel
theorem dX0_remove_30 : decode cX0_remove 30 = .ok (.iadd, 1) := by decide +kernel
theorem dX0_remove_31 : decode cX0_remove 31 = .ok (.aaload, 1) := by decide +kernel
theorem dX0_remove_32 : decode cX0_remove 32 = .ok (.aastore, 1) := by decide +kernel
theorem dX0_remove_33 : decode cX0_remove 33 = .ok (.iinc 3 1, 3) := by decide +kernel
theorem dX0_remove_36 : decode cX0_remove 36 = .ok (.goto (-27), 3) := by decide +kernel
theorem dX0_remove_39 : decode cX0_remove 39 = .ok (.aload_n 0, 1) := by decide +kernel
theorem dX0_remove_40 : decode cX0_remove 40 = .ok (.dup, 1) := by decide +kernel
theorem dX0_remove_41 : decode cX0_remove 41 = .ok (.getfield 18, 3) := by decide +kernel
theorem dX0_remove_44 : decode cX0_remove 44 = .ok (.iconst 1, 1) := by decide +kernel
theorem dX0_remove_45 : decode cX0_remove 45 = .ok (.isub, 1) := by decide +kernel
theorem dX0_remove_46 : decode cX0_remove 46 = .ok (.putfield 18, 3) := by decide +kernel
theorem dX0_remove_49 : decode cX0_remove 49 = .ok (.aload_n 0, 1) := by decide +kernel
theorem dX0_remove_50 : decode cX0_remove 50 = .ok (.getfield 11, 3) := by decide +kernel
theorem dX0_remove_53 : decode cX0_remove 53 = .ok (.aload_n 0, 1) := by decide +kernel
theorem dX0_remove_54 : decode cX0_remove 54 = .ok (.getfield 18, 3) := by decide +kernel
theorem dX0_remove_57 : decode cX0_remove 57 = .ok (.aload_n 2, 1) := by decide +kernel
theorem dX0_remove_58 : decode cX0_remove 58 = .ok (.aastore, 1) := by decide +kernel
theorem dX0_remove_59 : decode cX0_remove 59 = .ok (.return_, 1) := by decide +kernel
theorem dX0_lateRopes_0 : decode cX0_lateRopes 0 = .ok (.iconst 0, 1) := by decide +kernel
theorem dX0_lateRopes_1 : decode cX0_lateRopes 1 = .ok (.istore_n 3, 1) := by decide +kernel
theorem dX0_lateRopes_2 : decode cX0_lateRopes 2 = .ok (.iconst 0, 1) := by decide +kernel
theorem dX0_lateRopes_3 : decode cX0_lateRopes 3 = .ok (.istore 4, 2) := by decide +kernel
theorem dX0_lateRopes_5 : decode cX0_lateRopes 5 = .ok (.iload 4, 2) := by decide +kernel
theorem dX0_lateRopes_7 : decode cX0_lateRopes 7 = .ok (.aload_n 0, 1) := by decide +kernel
theorem dX0_lateRopes_8 : decode cX0_lateRopes 8 = .ok (.getfield 18, 3) := by decide +kernel
theorem dX0_lateRopes_11 : decode cX0_lateRopes 11 = .ok (.if_icmp .ge 49, 3) := by decide +kernel
theorem dX0_lateRopes_14 : decode cX0_lateRopes 14 = .ok (.iload_n 1, 1) := by decide +kernel
theorem dX0_lateRopes_15 : decode cX0_lateRopes 15 = .ok (.aload_n 0, 1) := by decide +kernel
theorem dX0_lateRopes_16 : decode cX0_lateRopes 16 = .ok (.getfield 11, 3) := by decide +kernel
theorem dX0_lateRopes_19 : decode cX0_lateRopes 19 = .ok (.iload 4, 2) := by decide +kernel
theorem dX0_lateRopes_21 : decode cX0_lateRopes 21 = .ok (.aaload, 1) := by decide +kernel
theorem dX0_lateRopes_22 : decode cX0_lateRopes 22 = .ok (.getfield 30, 3) := by decide +kernel
theorem dX0_lateRopes_25 : decode cX0_lateRopes 25 = .ok (.invokestatic 33, 3) := by decide +kernel
theorem dX0_lateRopes_28 : decode cX0_lateRopes 28 = .ok (.istore 5, 2) := by decide +kernel
theorem dX0_lateRopes_30 : decode cX0_lateRopes 30 = .ok (.iload_n 3, 1) := by decide +kernel
theorem dX0_lateRopes_31 : decode cX0_lateRopes 31 = .ok (.aload_n 0, 1) := by decide +kernel
theorem dX0_lateRopes_32 : decode cX0_lateRopes 32 = .ok (.getfield 11, 3) := by decide +kernel
theorem dX0_lateRopes_35 : decode cX0_lateRopes 35 = .ok (.iload 4, 2) := by decide +kernel
theorem dX0_lateRopes_37 : decode cX0_lateRopes 37 = .ok (.aaload, 1) := by decide +kernel
theorem dX0_lateRopes_38 : decode cX0_lateRopes 38 = .ok (.getfield 39, 3) := by decide +kernel
theorem dX0_lateRopes_41 : decode cX0_lateRopes 41 = .ok (.iconst 0, 1) := by decide +kernel
theorem dX0_lateRopes_42 : decode cX0_lateRopes 42 = .ok (.iload_n 1, 1) := by decide +kernel
theorem dX0_lateRopes_43 : decode cX0_lateRopes 43 = .ok (.iload_n 2, 1) := by decide +kernel
theorem dX0_lateRopes_44 : decode cX0_lateRopes 44 = .ok (.iadd, 1) := by decide +kernel
theorem dX0_lateRopes_45 : decode cX0_lateRopes 45 = .ok (.iload 5, 2) := by decide +kernel
theorem dX0_lateRopes_47 : decode cX0_lateRopes 47 = .ok (.isub, 1) := by decide +kernel
theorem dX0_lateRopes_48 : decode cX0_lateRopes 48 = .ok (.invokestatic 33, 3) := by decide +kernel
theorem dX0_lateRopes_51 : decode cX0_lateRopes 51 = .ok (.imul, 1) := by decide +kernel
theorem dX0_lateRopes_52 : decode cX0_lateRopes 52 = .ok (.iadd, 1) := by decide +kernel
theorem dX0_lateRopes_53 : decode cX0_lateRopes 53 = .ok (.istore_n 3, 1) := by decide +kernel
theorem dX0_lateRopes_54 : decode cX0_lateRopes 54 = .ok (.iinc 4 1, 3) := by decide +kernel
theorem dX0_lateRopes_57 : decode cX0_lateRopes 57 = .ok (.goto (-52), 3) := by decide +kernel
theorem dX0_lateRopes_60 : decode cX0_lateRopes 60 = .ok (.iload_n 3, 1) := by decide +kernel
theorem dX0_lateRopes_61 : decode cX0_lateRopes 61 = .ok (.ireturn, 1) := by decide +kernel
theorem dX1_init_0 : decode cX1_init 0 = .ok (.aload_n 0, 1) := by decide +kernel
theorem dX1_init_1 : decode cX1_init 1 = .ok (.invokespecial 3, 3) := by decide +kernel
theorem dX1_init_4 : decode cX1_init 4 = .ok (.aload_n 0, 1) := by decide +kernel
theorem dX1_init_5 : decode cX1_init 5 = .ok (.bipush 7, 2) := by decide +kernel
theorem dX1_init_7 : decode cX1_init 7 = .ok (.anewarray 11, 3) := by decide +kernel
theorem dX1_init_10 : decode cX1_init 10 = .ok (.putfield 13, 3) := by decide +kernel
theorem dX1_init_13 : decode cX1_init 13 = .ok (.iconst 0, 1) := by decide +kernel
theorem dX1_init_14 : decode cX1_init 14 = .ok (.istore_n 1, 1) := by decide +kernel
theorem dX1_init_15 : decode cX1_init 15 = .ok (.iload_n 1, 1) := by decide +kernel
theorem dX1_init_16 : decode cX1_init 16 = .ok (.bipush 6, 2) := by decide +kernel
theorem dX1_init_18 : decode cX1_init 18 = .ok (.if_icmp .gt 22, 3) := by decide +kernel
theorem dX1_init_21 : decode cX1_init 21 = .ok (.aload_n 0, 1) := by decide +kernel
theorem dX1_init_22 : decode cX1_init 22 = .ok (.getfield 13, 3) := by decide +kernel
theorem dX1_init_25 : decode cX1_init 25 = .ok (.iload_n 1, 1) := by decide +kernel
theorem dX1_init_26 : decode cX1_init 26 = .ok (.new 11, 3) := by decide +kernel
theorem dX1_init_29 : decode cX1_init 29 = .ok (.dup, 1) := by decide +kernel
theorem dX1_init_30 : decode cX1_init 30 = .ok (.invokespecial 17, 3) := by decide +kernel
theorem dX1_init_33 : decode cX1_init 33 = .ok (.aastore, 1) := by decide +kernel
theorem dX1_init_34 : decode cX1_init 34 = .ok (.iinc 1 1, 3) := by decide +kernel
theorem dX1_init_37 : decode cX1_init 37 = .ok (.goto (-22), 3) := by decide +kernel
theorem dX1_init_40 : decode cX1_init 40 = .ok (.return_, 1) := by decide +kernel
theorem dX1_prepare_0 : decode cX1_prepare 0 = .ok (.aload_n 0, 1) := by decide +kernel
theorem dX1_prepare_1 : decode cX1_prepare 1 = .ok (.getfield 13, 3) := by decide +kernel
theorem dX1_prepare_4 : decode cX1_prepare 4 = .ok (.aload_n 0, 1) := by decide +kernel
theorem dX1_prepare_5 : decode cX1_prepare 5 = .ok (.getfield 18, 3) := by decide +kernel
theorem dX1_prepare_8 : decode cX1_prepare 8 = .ok (.aaload, 1) := by decide +kernel
theorem dX1_prepare_9 : decode cX1_prepare 9 = .ok (.aload_n 1, 1) := by decide +kernel
theorem dX1_prepare_10 : decode cX1_prepare 10 = .ok (.invokevirtual 22, 3) := by decide +kernel
theorem dX1_prepare_13 : decode cX1_prepare 13 = .ok (.return_, 1) := by decide +kernel
theorem dX1_settle_0 : decode cX1_settle 0 = .ok (.iload_n 1, 1) := by decide +kernel
theorem dX1_settle_1 : decode cX1_settle 1 = .ok (.ifCond .lt 7, 3) := by decide +kernel
theorem dX1_settle_4 : decode cX1_settle 4 = .ok (.aload_n 0, 1) := by decide +kernel
theorem dX1_settle_5 : decode cX1_settle 5 = .ok (.invokevirtual 26, 3) := by decide +kernel
theorem dX1_settle_8 : decode cX1_settle 8 = .ok (.iload_n 1, 1) := by decide +kernel
theorem dX1_settle_9 : decode cX1_settle 9 = .ok (.ireturn, 1) := by decide +kernel
theorem dX1_keep_0 : decode cX1_keep 0 = .ok (.aload_n 0, 1) := by decide +kernel
theorem dX1_keep_1 : decode cX1_keep 1 = .ok (.getfield 18, 3) := by decide +kernel
theorem dX1_keep_4 : decode cX1_keep 4 = .ok (.bipush 6, 2) := by decide +kernel
theorem dX1_keep_6 : decode cX1_keep 6 = .ok (.if_icmp .ge 14, 3) := by decide +kernel
theorem dX1_keep_9 : decode cX1_keep 9 = .ok (.aload_n 0, 1) := by decide +kernel
theorem dX1_keep_10 : decode cX1_keep 10 = .ok (.dup, 1) := by decide +kernel
theorem dX1_keep_11 : decode cX1_keep 11 = .ok (.getfield 18, 3) := by decide +kernel
theorem dX1_keep_14 : decode cX1_keep 14 = .ok (.iconst 1, 1) := by decide +kernel
theorem dX1_keep_15 : decode cX1_keep 15 = .ok (.iadd, 1) := by decide +kernel
theorem dX1_keep_16 : decode cX1_keep 16 = .ok (.putfield 18, 3) := by decide +kernel
theorem dX1_keep_19 : decode cX1_keep 19 = .ok (.return_, 1) := by decide +kernel
theorem dX1_keep_20 : decode cX1_keep 20 = .ok (.aload_n 0, 1) := by decide +kernel
theorem dX1_keep_21 : decode cX1_keep 21 = .ok (.getfield 13, 3) := by decide +kernel
theorem dX1_keep_24 : decode cX1_keep 24 = .ok (.iconst 0, 1) := by decide +kernel
theorem dX1_keep_25 : decode cX1_keep 25 = .ok (.aaload, 1) := by decide +kernel
theorem dX1_keep_26 : decode cX1_keep 26 = .ok (.astore_n 1, 1) := by decide +kernel
theorem dX1_keep_27 : decode cX1_keep 27 = .ok (.iconst 0, 1) := by decide +kernel
theorem dX1_keep_28 : decode cX1_keep 28 = .ok (.istore_n 2, 1) := by decide +kernel
theorem dX1_keep_29 : decode cX1_keep 29 = .ok (.iload_n 2, 1) := by decide +kernel
theorem dX1_keep_30 : decode cX1_keep 30 = .ok (.bipush 6, 2) := by decide +kernel
theorem dX1_keep_32 : decode cX1_keep 32 = .ok (.if_icmp .ge 23, 3) := by decide +kernel
theorem dX1_keep_35 : decode cX1_keep 35 = .ok (.aload_n 0, 1) := by decide +kernel
theorem dX1_keep_36 : decode cX1_keep 36 = .ok (.getfield 13, 3) := by decide +kernel
theorem dX1_keep_39 : decode cX1_keep 39 = .ok (.iload_n 2, 1) := by decide +kernel
theorem dX1_keep_40 : decode cX1_keep 40 = .ok (.aload_n 0, 1) := by decide +kernel
theorem dX1_keep_41 : decode cX1_keep 41 = .ok (.getfield 13, 3) := by decide +kernel
theorem dX1_keep_44 : decode cX1_keep 44 = .ok (.iload_n 2, 1) := by decide +kernel
theorem dX1_keep_45 : decode cX1_keep 45 = .ok (.iconst 1, 1) := by decide +kernel
theorem dX1_keep_46 : decode cX1_keep 46 = .ok (.iadd, 1) := by decide +kernel
theorem dX1_keep_47 : decode cX1_keep 47 = .ok (.aaload, 1) := by decide +kernel
theorem dX1_keep_48 : decode cX1_keep 48 = .ok (.aastore, 1) := by decide +kernel
theorem dX1_keep_49 : decode cX1_keep 49 = .ok (.iinc 2 1, 3) := by decide +kernel
theorem dX1_keep_52 : decode cX1_keep 52 = .ok (.goto (-23), 3) := by decide +kernel
theorem dX1_keep_55 : decode cX1_keep 55 = .ok (.aload_n 0, 1) := by decide +kernel
theorem dX1_keep_56 : decode cX1_keep 56 = .ok (.getfield 13, 3) := by decide +kernel
theorem dX1_keep_59 : decode cX1_keep 59 = .ok (.bipush 6, 2) := by decide +kernel
theorem dX1_keep_61 : decode cX1_keep 61 = .ok (.aload_n 1, 1) := by decide +kernel
theorem dX1_keep_62 : decode cX1_keep 62 = .ok (.aastore, 1) := by decide +kernel
theorem dX1_keep_63 : decode cX1_keep 63 = .ok (.return_, 1) := by decide +kernel
theorem dX2_init_0 : decode cX2_init 0 = .ok (.aload_n 0, 1) := by decide +kernel
theorem dX2_init_1 : decode cX2_init 1 = .ok (.invokespecial 1, 3) := by decide +kernel
theorem dX2_init_4 : decode cX2_init 4 = .ok (.return_, 1) := by decide +kernel
theorem dX2_copyFrom_0 : decode cX2_copyFrom 0 = .ok (.aload_n 0, 1) := by decide +kernel
theorem dX2_copyFrom_1 : decode cX2_copyFrom 1 = .ok (.aload_n 1, 1) := by decide +kernel
theorem dX2_copyFrom_2 : decode cX2_copyFrom 2 = .ok (.getfield 7, 3) := by decide +kernel
theorem dX2_copyFrom_5 : decode cX2_copyFrom 5 = .ok (.putfield 7, 3) := by decide +kernel
theorem dX2_copyFrom_8 : decode cX2_copyFrom 8 = .ok (.aload_n 0, 1) := by decide +kernel
theorem dX2_copyFrom_9 : decode cX2_copyFrom 9 = .ok (.aload_n 1, 1) := by decide +kernel
theorem dX2_copyFrom_10 : decode cX2_copyFrom 10 = .ok (.getfield 13, 3) := by decide +kernel
theorem dX2_copyFrom_13 : decode cX2_copyFrom 13 = .ok (.putfield 13, 3) := by decide +kernel
theorem dX2_copyFrom_16 : decode cX2_copyFrom 16 = .ok (.aload_n 0, 1) := by decide +kernel
theorem dX2_copyFrom_17 : decode cX2_copyFrom 17 = .ok (.aload_n 1, 1) := by decide +kernel
theorem dX2_copyFrom_18 : decode cX2_copyFrom 18 = .ok (.getfield 16, 3) := by decide +kernel
theorem dX2_copyFrom_21 : decode cX2_copyFrom 21 = .ok (.putfield 16, 3) := by decide +kernel
theorem dX2_copyFrom_24 : decode cX2_copyFrom 24 = .ok (.aload_n 0, 1) := by decide +kernel
theorem dX2_copyFrom_25 : decode cX2_copyFrom 25 = .ok (.aload_n 1, 1) := by decide +kernel
theorem dX2_copyFrom_26 : decode cX2_copyFrom 26 = .ok (.getfield 19, 3) := by decide +kernel
theorem dX2_copyFrom_29 : decode cX2_copyFrom 29 = .ok (.putfield 19, 3) := by decide +kernel
theorem dX2_copyFrom_32 : decode cX2_copyFrom 32 = .ok (.aload_n 0, 1) := by decide +kernel
theorem dX2_copyFrom_33 : decode cX2_copyFrom 33 = .ok (.aload_n 1, 1) := by decide +kernel
theorem dX2_copyFrom_34 : decode cX2_copyFrom 34 = .ok (.getfield 22, 3) := by decide +kernel
theorem dX2_copyFrom_37 : decode cX2_copyFrom 37 = .ok (.putfield 22, 3) := by decide +kernel
theorem dX2_copyFrom_40 : decode cX2_copyFrom 40 = .ok (.aload_n 0, 1) := by decide +kernel
theorem dX2_copyFrom_41 : decode cX2_copyFrom 41 = .ok (.aload_n 1, 1) := by decide +kernel
theorem dX2_copyFrom_42 : decode cX2_copyFrom 42 = .ok (.getfield 26, 3) := by decide +kernel
theorem dX2_copyFrom_45 : decode cX2_copyFrom 45 = .ok (.putfield 26, 3) := by decide +kernel
theorem dX2_copyFrom_48 : decode cX2_copyFrom 48 = .ok (.aload_n 0, 1) := by decide +kernel
theorem dX2_copyFrom_49 : decode cX2_copyFrom 49 = .ok (.aload_n 1, 1) := by decide +kernel
theorem dX2_copyFrom_50 : decode cX2_copyFrom 50 = .ok (.getfield 29, 3) := by decide +kernel
theorem dX2_copyFrom_53 : decode cX2_copyFrom 53 = .ok (.putfield 29, 3) := by decide +kernel
theorem dX2_copyFrom_56 : decode cX2_copyFrom 56 = .ok (.return_, 1) := by decide +kernel
theorem dX3_init_0 : decode cX3_init 0 = .ok (.aload_n 0, 1) := by decide +kernel
theorem dX3_init_1 : decode cX3_init 1 = .ok (.invokespecial 3, 3) := by decide +kernel
theorem dX3_init_4 : decode cX3_init 4 = .ok (.aload_n 0, 1) := by decide +kernel
theorem dX3_init_5 : decode cX3_init 5 = .ok (.bipush 80, 2) := by decide +kernel
theorem dX3_init_7 : decode cX3_init 7 = .ok (.newarray .char, 2) := by decide +kernel
theorem dX3_init_9 : decode cX3_init 9 = .ok (.putfield 11, 3) := by decide +kernel
theorem dX3_init_12 : decode cX3_init 12 = .ok (.return_, 1) := by decide +kernel
theorem dX4_init_0 : decode cX4_init 0 = .ok (.aload_n 0, 1) := by decide +kernel
theorem dX4_init_1 : decode cX4_init 1 = .ok (.invokespecial 1, 3) := by decide +kernel
theorem dX4_init_4 : decode cX4_init 4 = .ok (.return_, 1) := by decide +kernel
theorem dX4_copyFrom_0 : decode cX4_copyFrom 0 = .ok (.aload_n 0, 1) := by decide +kernel
theorem dX4_copyFrom_1 : decode cX4_copyFrom 1 = .ok (.aload_n 1, 1) := by decide +kernel
theorem dX4_copyFrom_2 : decode cX4_copyFrom 2 = .ok (.getfield 7, 3) := by decide +kernel
theorem dX4_copyFrom_5 : decode cX4_copyFrom 5 = .ok (.putfield 7, 3) := by decide +kernel
theorem dX4_copyFrom_8 : decode cX4_copyFrom 8 = .ok (.aload_n 0, 1) := by decide +kernel
theorem dX4_copyFrom_9 : decode cX4_copyFrom 9 = .ok (.aload_n 1, 1) := by decide +kernel
theorem dX4_copyFrom_10 : decode cX4_copyFrom 10 = .ok (.getfield 13, 3) := by decide +kernel
theorem dX4_copyFrom_13 : decode cX4_copyFrom 13 = .ok (.putfield 13, 3) := by decide +kernel
theorem dX4_copyFrom_16 : decode cX4_copyFrom 16 = .ok (.aload_n 0, 1) := by decide +kernel
theorem dX4_copyFrom_17 : decode cX4_copyFrom 17 = .ok (.aload_n 1, 1) := by decide +kernel
theorem dX4_copyFrom_18 : decode cX4_copyFrom 18 = .ok (.getfield 16, 3) := by decide +kernel
theorem dX4_copyFrom_21 : decode cX4_copyFrom 21 = .ok (.putfield 16, 3) := by decide +kernel
theorem dX4_copyFrom_24 : decode cX4_copyFrom 24 = .ok (.aload_n 0, 1) := by decide +kernel
theorem dX4_copyFrom_25 : decode cX4_copyFrom 25 = .ok (.aload_n 1, 1) := by decide +kernel
theorem dX4_copyFrom_26 : decode cX4_copyFrom 26 = .ok (.getfield 19, 3) := by decide +kernel
theorem dX4_copyFrom_29 : decode cX4_copyFrom 29 = .ok (.putfield 19, 3) := by decide +kernel
theorem dX4_copyFrom_32 : decode cX4_copyFrom 32 = .ok (.aload_n 0, 1) := by decide +kernel
theorem dX4_copyFrom_33 : decode cX4_copyFrom 33 = .ok (.aload_n 1, 1) := by decide +kernel
theorem dX4_copyFrom_34 : decode cX4_copyFrom 34 = .ok (.getfield 22, 3) := by decide +kernel
theorem dX4_copyFrom_37 : decode cX4_copyFrom 37 = .ok (.putfield 22, 3) := by decide +kernel
theorem dX4_copyFrom_40 : decode cX4_copyFrom 40 = .ok (.aload_n 0, 1) := by decide +kernel
theorem dX4_copyFrom_41 : decode cX4_copyFrom 41 = .ok (.aload_n 1, 1) := by decide +kernel
theorem dX4_copyFrom_42 : decode cX4_copyFrom 42 = .ok (.getfield 25, 3) := by decide +kernel
theorem dX4_copyFrom_45 : decode cX4_copyFrom 45 = .ok (.putfield 25, 3) := by decide +kernel
theorem dX4_copyFrom_48 : decode cX4_copyFrom 48 = .ok (.aload_n 0, 1) := by decide +kernel
theorem dX4_copyFrom_49 : decode cX4_copyFrom 49 = .ok (.aload_n 1, 1) := by decide +kernel
theorem dX4_copyFrom_50 : decode cX4_copyFrom 50 = .ok (.getfield 28, 3) := by decide +kernel
theorem dX4_copyFrom_53 : decode cX4_copyFrom 53 = .ok (.putfield 28, 3) := by decide +kernel
theorem dX4_copyFrom_56 : decode cX4_copyFrom 56 = .ok (.return_, 1) := by decide +kernel
theorem dX4_isLike_0 : decode cX4_isLike 0 = .ok (.aload_n 0, 1) := by decide +kernel
theorem dX4_isLike_1 : decode cX4_isLike 1 = .ok (.getfield 7, 3) := by decide +kernel
theorem dX4_isLike_4 : decode cX4_isLike 4 = .ok (.aload_n 1, 1) := by decide +kernel
theorem dX4_isLike_5 : decode cX4_isLike 5 = .ok (.getfield 7, 3) := by decide +kernel
theorem dX4_isLike_8 : decode cX4_isLike 8 = .ok (.if_icmp .ne 29, 3) := by decide +kernel
theorem dX4_isLike_11 : decode cX4_isLike 11 = .ok (.aload_n 0, 1) := by decide +kernel
theorem dX4_isLike_12 : decode cX4_isLike 12 = .ok (.getfield 13, 3) := by decide +kernel
theorem dX4_isLike_15 : decode cX4_isLike 15 = .ok (.aload_n 1, 1) := by decide +kernel
theorem dX4_isLike_16 : decode cX4_isLike 16 = .ok (.getfield 13, 3) := by decide +kernel
theorem dX4_isLike_19 : decode cX4_isLike 19 = .ok (.if_icmp .ne 18, 3) := by decide +kernel
theorem dX4_isLike_22 : decode cX4_isLike 22 = .ok (.aload_n 0, 1) := by decide +kernel
theorem dX4_isLike_23 : decode cX4_isLike 23 = .ok (.getfield 16, 3) := by decide +kernel
theorem dX4_isLike_26 : decode cX4_isLike 26 = .ok (.aload_n 1, 1) := by decide +kernel
theorem dX4_isLike_27 : decode cX4_isLike 27 = .ok (.getfield 16, 3) := by decide +kernel
theorem dX4_isLike_30 : decode cX4_isLike 30 = .ok (.if_icmp .ne 7, 3) := by decide +kernel
theorem dX4_isLike_33 : decode cX4_isLike 33 = .ok (.iconst 1, 1) := by decide +kernel
theorem dX4_isLike_34 : decode cX4_isLike 34 = .ok (.goto 4, 3) := by decide +kernel
theorem dX4_isLike_37 : decode cX4_isLike 37 = .ok (.iconst 0, 1) := by decide +kernel
theorem dX4_isLike_38 : decode cX4_isLike 38 = .ok (.ireturn, 1) := by decide +kernel
theorem dX4_yarnIn_0 : decode cX4_yarnIn 0 = .ok (.aload_n 0, 1) := by decide +kernel
theorem dX4_yarnIn_1 : decode cX4_yarnIn 1 = .ok (.getfield 19, 3) := by decide +kernel
theorem dX4_yarnIn_4 : decode cX4_yarnIn 4 = .ok (.ifCond .le 21, 3) := by decide +kernel
theorem dX4_yarnIn_7 : decode cX4_yarnIn 7 = .ok (.aload_n 0, 1) := by decide +kernel
theorem dX4_yarnIn_8 : decode cX4_yarnIn 8 = .ok (.getfield 22, 3) := by decide +kernel
theorem dX4_yarnIn_11 : decode cX4_yarnIn 11 = .ok (.i2l, 1) := by decide +kernel
theorem dX4_yarnIn_12 : decode cX4_yarnIn 12 = .ok (.iload_n 1, 1) := by decide +kernel
theorem dX4_yarnIn_13 : decode cX4_yarnIn 13 = .ok (.i2l, 1) := by decide +kernel
theorem dX4_yarnIn_14 : decode cX4_yarnIn 14 = .ok (.lmul, 1) := by decide +kernel
theorem dX4_yarnIn_15 : decode cX4_yarnIn 15 = .ok (.aload_n 0, 1) := by decide +kernel
theorem dX4_yarnIn_16 : decode cX4_yarnIn 16 = .ok (.getfield 19, 3) := by decide +kernel
theorem dX4_yarnIn_19 : decode cX4_yarnIn 19 = .ok (.i2l, 1) := by decide +kernel
theorem dX4_yarnIn_20 : decode cX4_yarnIn 20 = .ok (.ldiv, 1) := by decide +kernel
theorem dX4_yarnIn_21 : decode cX4_yarnIn 21 = .ok (.l2i, 1) := by decide +kernel
theorem dX4_yarnIn_22 : decode cX4_yarnIn 22 = .ok (.goto 4, 3) := by decide +kernel
theorem dX4_yarnIn_25 : decode cX4_yarnIn 25 = .ok (.iconst 0, 1) := by decide +kernel
theorem dX4_yarnIn_26 : decode cX4_yarnIn 26 = .ok (.ireturn, 1) := by decide +kernel
theorem dX5_init_0 : decode cX5_init 0 = .ok (.aload_n 0, 1) := by decide +kernel
theorem dX5_init_1 : decode cX5_init 1 = .ok (.invokespecial 3, 3) := by decide +kernel
theorem dX5_init_4 : decode cX5_init 4 = .ok (.aload_n 0, 1) := by decide +kernel
theorem dX5_init_5 : decode cX5_init 5 = .ok (.new 9, 3) := by decide +kernel
theorem dX5_init_8 : decode cX5_init 8 = .ok (.dup, 1) := by decide +kernel
theorem dX5_init_9 : decode cX5_init 9 = .ok (.invokespecial 11, 3) := by decide +kernel
theorem dX5_init_12 : decode cX5_init 12 = .ok (.putfield 12, 3) := by decide +kernel
theorem dX5_init_15 : decode cX5_init 15 = .ok (.aload_n 0, 1) := by decide +kernel
theorem dX5_init_16 : decode cX5_init 16 = .ok (.iconst 4, 1) := by decide +kernel
theorem dX5_init_17 : decode cX5_init 17 = .ok (.newarray .int, 2) := by decide +kernel
theorem dX5_init_19 : decode cX5_init 19 = .ok (.putfield 18, 3) := by decide +kernel
theorem dX5_init_22 : decode cX5_init 22 = .ok (.return_, 1) := by decide +kernel
theorem dX6_init_0 : decode cX6_init 0 = .ok (.aload_n 0, 1) := by decide +kernel
theorem dX6_init_1 : decode cX6_init 1 = .ok (.invokespecial 3, 3) := by decide +kernel
theorem dX6_init_4 : decode cX6_init 4 = .ok (.aload_n 0, 1) := by decide +kernel
theorem dX6_init_5 : decode cX6_init 5 = .ok (.bipush 10, 2) := by decide +kernel
theorem dX6_init_7 : decode cX6_init 7 = .ok (.newarray .int, 2) := by decide +kernel
theorem dX6_init_9 : decode cX6_init 9 = .ok (.putfield 9, 3) := by decide +kernel
theorem dX6_init_12 : decode cX6_init 12 = .ok (.aload_n 0, 1) := by decide +kernel
theorem dX6_init_13 : decode cX6_init 13 = .ok (.iconst 3, 1) := by decide +kernel
theorem dX6_init_14 : decode cX6_init 14 = .ok (.newarray .int, 2) := by decide +kernel
theorem dX6_init_16 : decode cX6_init 16 = .ok (.putfield 15, 3) := by decide +kernel
theorem dX6_init_19 : decode cX6_init 19 = .ok (.aload_n 0, 1) := by decide +kernel
theorem dX6_init_20 : decode cX6_init 20 = .ok (.iconst 3, 1) := by decide +kernel
theorem dX6_init_21 : decode cX6_init 21 = .ok (.newarray .int, 2) := by decide +kernel
theorem dX6_init_23 : decode cX6_init 23 = .ok (.putfield 18, 3) := by decide +kernel
theorem dX6_init_26 : decode cX6_init 26 = .ok (.getstatic 21, 3) := by decide +kernel
theorem dX6_init_29 : decode cX6_init 29 = .ok (.iconst 0, 1) := by decide +kernel
theorem dX6_init_30 : decode cX6_init 30 = .ok (.aload_n 0, 1) := by decide +kernel
theorem dX6_init_31 : decode cX6_init 31 = .ok (.getfield 9, 3) := by decide +kernel
theorem dX6_init_34 : decode cX6_init 34 = .ok (.iconst 0, 1) := by decide +kernel
theorem dX6_init_35 : decode cX6_init 35 = .ok (.bipush 10, 2) := by decide +kernel
theorem dX6_init_37 : decode cX6_init 37 = .ok (.invokestatic 24, 3) := by decide +kernel
theorem dX6_init_40 : decode cX6_init 40 = .ok (.getstatic 30, 3) := by decide +kernel
theorem dX6_init_43 : decode cX6_init 43 = .ok (.iconst 0, 1) := by decide +kernel
theorem dX6_init_44 : decode cX6_init 44 = .ok (.aload_n 0, 1) := by decide +kernel
theorem dX6_init_45 : decode cX6_init 45 = .ok (.getfield 15, 3) := by decide +kernel
theorem dX6_init_48 : decode cX6_init 48 = .ok (.iconst 0, 1) := by decide +kernel
theorem dX6_init_49 : decode cX6_init 49 = .ok (.iconst 3, 1) := by decide +kernel
theorem dX6_init_50 : decode cX6_init 50 = .ok (.invokestatic 24, 3) := by decide +kernel
theorem dX6_init_53 : decode cX6_init 53 = .ok (.getstatic 33, 3) := by decide +kernel
theorem dX6_init_56 : decode cX6_init 56 = .ok (.iconst 0, 1) := by decide +kernel
theorem dX6_init_57 : decode cX6_init 57 = .ok (.aload_n 0, 1) := by decide +kernel
theorem dX6_init_58 : decode cX6_init 58 = .ok (.getfield 18, 3) := by decide +kernel
theorem dX6_init_61 : decode cX6_init 61 = .ok (.iconst 0, 1) := by decide +kernel
theorem dX6_init_62 : decode cX6_init 62 = .ok (.iconst 3, 1) := by decide +kernel
theorem dX6_init_63 : decode cX6_init 63 = .ok (.invokestatic 24, 3) := by decide +kernel
theorem dX6_init_66 : decode cX6_init 66 = .ok (.return_, 1) := by decide +kernel
theorem dX6_copyFrom_0 : decode cX6_copyFrom 0 = .ok (.aload_n 1, 1) := by decide +kernel
theorem dX6_copyFrom_1 : decode cX6_copyFrom 1 = .ok (.getfield 9, 3) := by decide +kernel
theorem dX6_copyFrom_4 : decode cX6_copyFrom 4 = .ok (.iconst 0, 1) := by decide +kernel
theorem dX6_copyFrom_5 : decode cX6_copyFrom 5 = .ok (.aload_n 0, 1) := by decide +kernel
theorem dX6_copyFrom_6 : decode cX6_copyFrom 6 = .ok (.getfield 9, 3) := by decide +kernel
theorem dX6_copyFrom_9 : decode cX6_copyFrom 9 = .ok (.iconst 0, 1) := by decide +kernel
theorem dX6_copyFrom_10 : decode cX6_copyFrom 10 = .ok (.bipush 10, 2) := by decide +kernel
theorem dX6_copyFrom_12 : decode cX6_copyFrom 12 = .ok (.invokestatic 24, 3) := by decide +kernel
theorem dX6_copyFrom_15 : decode cX6_copyFrom 15 = .ok (.aload_n 1, 1) := by decide +kernel
theorem dX6_copyFrom_16 : decode cX6_copyFrom 16 = .ok (.getfield 15, 3) := by decide +kernel
theorem dX6_copyFrom_19 : decode cX6_copyFrom 19 = .ok (.iconst 0, 1) := by decide +kernel
theorem dX6_copyFrom_20 : decode cX6_copyFrom 20 = .ok (.aload_n 0, 1) := by decide +kernel
theorem dX6_copyFrom_21 : decode cX6_copyFrom 21 = .ok (.getfield 15, 3) := by decide +kernel
theorem dX6_copyFrom_24 : decode cX6_copyFrom 24 = .ok (.iconst 0, 1) := by decide +kernel
theorem dX6_copyFrom_25 : decode cX6_copyFrom 25 = .ok (.iconst 3, 1) := by decide +kernel
theorem dX6_copyFrom_26 : decode cX6_copyFrom 26 = .ok (.invokestatic 24, 3) := by decide +kernel
theorem dX6_copyFrom_29 : decode cX6_copyFrom 29 = .ok (.aload_n 1, 1) := by decide +kernel
theorem dX6_copyFrom_30 : decode cX6_copyFrom 30 = .ok (.getfield 18, 3) := by decide +kernel
theorem dX6_copyFrom_33 : decode cX6_copyFrom 33 = .ok (.iconst 0, 1) := by decide +kernel
theorem dX6_copyFrom_34 : decode cX6_copyFrom 34 = .ok (.aload_n 0, 1) := by decide +kernel
theorem dX6_copyFrom_35 : decode cX6_copyFrom 35 = .ok (.getfield 18, 3) := by decide +kernel
theorem dX6_copyFrom_38 : decode cX6_copyFrom 38 = .ok (.iconst 0, 1) := by decide +kernel
theorem dX6_copyFrom_39 : decode cX6_copyFrom 39 = .ok (.iconst 3, 1) := by decide +kernel
theorem dX6_copyFrom_40 : decode cX6_copyFrom 40 = .ok (.invokestatic 24, 3) := by decide +kernel
theorem dX6_copyFrom_43 : decode cX6_copyFrom 43 = .ok (.return_, 1) := by decide +kernel
theorem dX6_strandLength_0 : decode cX6_strandLength 0 = .ok (.iload_n 1, 1) := by decide +kernel
theorem dX6_strandLength_1 : decode cX6_strandLength 1 = .ok (.aload_n 0, 1) := by decide +kernel
theorem dX6_strandLength_2 : decode cX6_strandLength 2 = .ok (.getfield 9, 3) := by decide +kernel
theorem dX6_strandLength_5 : decode cX6_strandLength 5 = .ok (.iconst 2, 1) := by decide +kernel
theorem dX6_strandLength_6 : decode cX6_strandLength 6 = .ok (.iaload, 1) := by decide +kernel
theorem dX6_strandLength_7 : decode cX6_strandLength 7 = .ok (.invokestatic 36, 3) := by decide +kernel
theorem dX6_strandLength_10 : decode cX6_strandLength 10 = .ok (.ireturn, 1) := by decide +kernel
theorem dX6_yarnLength_0 : decode cX6_yarnLength 0 = .ok (.iload_n 1, 1) := by decide +kernel
theorem dX6_yarnLength_1 : decode cX6_yarnLength 1 = .ok (.aload_n 0, 1) := by decide +kernel
theorem dX6_yarnLength_2 : decode cX6_yarnLength 2 = .ok (.getfield 9, 3) := by decide +kernel
theorem dX6_yarnLength_5 : decode cX6_yarnLength 5 = .ok (.iconst 2, 1) := by decide +kernel
theorem dX6_yarnLength_6 : decode cX6_yarnLength 6 = .ok (.iaload, 1) := by decide +kernel
theorem dX6_yarnLength_7 : decode cX6_yarnLength 7 = .ok (.invokestatic 36, 3) := by decide +kernel
theorem dX6_yarnLength_10 : decode cX6_yarnLength 10 = .ok (.aload_n 0, 1) := by decide +kernel
theorem dX6_yarnLength_11 : decode cX6_yarnLength 11 = .ok (.getfield 9, 3) := by decide +kernel
theorem dX6_yarnLength_14 : decode cX6_yarnLength 14 = .ok (.iconst 1, 1) := by decide +kernel
theorem dX6_yarnLength_15 : decode cX6_yarnLength 15 = .ok (.iaload, 1) := by decide +kernel
theorem dX6_yarnLength_16 : decode cX6_yarnLength 16 = .ok (.invokestatic 36, 3) := by decide +kernel
theorem dX6_yarnLength_19 : decode cX6_yarnLength 19 = .ok (.ireturn, 1) := by decide +kernel
theorem dX6_lengthened_0 : decode cX6_lengthened 0 = .ok (.iload_n 0, 1) := by decide +kernel
theorem dX6_lengthened_1 : decode cX6_lengthened 1 = .ok (.bipush 100, 2) := by decide +kernel
theorem dX6_lengthened_3 : decode cX6_lengthened 3 = .ok (.iload_n 1, 1) := by decide +kernel
theorem dX6_lengthened_4 : decode cX6_lengthened 4 = .ok (.iadd, 1) := by decide +kernel
theorem dX6_lengthened_5 : decode cX6_lengthened 5 = .ok (.imul, 1) := by decide +kernel
theorem dX6_lengthened_6 : decode cX6_lengthened 6 = .ok (.bipush 99, 2) := by decide +kernel
theorem dX6_lengthened_8 : decode cX6_lengthened 8 = .ok (.iadd, 1) := by decide +kernel
theorem dX6_lengthened_9 : decode cX6_lengthened 9 = .ok (.bipush 100, 2) := by decide +kernel
theorem dX6_lengthened_11 : decode cX6_lengthened 11 = .ok (.idiv, 1) := by decide +kernel
theorem dX6_lengthened_12 : decode cX6_lengthened 12 = .ok (.ireturn, 1) := by decide +kernel
theorem dX6_yarnFor_0 : decode cX6_yarnFor 0 = .ok (.iload_n 1, 1) := by decide +kernel
theorem dX6_yarnFor_1 : decode cX6_yarnFor 1 = .ok (.iload_n 2, 1) := by decide +kernel
theorem dX6_yarnFor_2 : decode cX6_yarnFor 2 = .ok (.imul, 1) := by decide +kernel
theorem dX6_yarnFor_3 : decode cX6_yarnFor 3 = .ok (.aload_n 0, 1) := by decide +kernel
theorem dX6_yarnFor_4 : decode cX6_yarnFor 4 = .ok (.iload_n 3, 1) := by decide +kernel
theorem dX6_yarnFor_5 : decode cX6_yarnFor 5 = .ok (.invokevirtual 40, 3) := by decide +kernel
theorem dX6_yarnFor_8 : decode cX6_yarnFor 8 = .ok (.imul, 1) := by decide +kernel
theorem dX6_yarnFor_9 : decode cX6_yarnFor 9 = .ok (.ireturn, 1) := by decide +kernel
theorem dX6_hoursFor_0 : decode cX6_hoursFor 0 = .ok (.iconst 1, 1) := by decide +kernel
theorem dX6_hoursFor_1 : decode cX6_hoursFor 1 = .ok (.aload_n 0, 1) := by decide +kernel
theorem dX6_hoursFor_2 : decode cX6_hoursFor 2 = .ok (.getfield 9, 3) := by decide +kernel
theorem dX6_hoursFor_5 : decode cX6_hoursFor 5 = .ok (.bipush 8, 2) := by decide +kernel
theorem dX6_hoursFor_7 : decode cX6_hoursFor 7 = .ok (.iaload, 1) := by decide +kernel
theorem dX6_hoursFor_8 : decode cX6_hoursFor 8 = .ok (.invokestatic 44, 3) := by decide +kernel
theorem dX6_hoursFor_11 : decode cX6_hoursFor 11 = .ok (.istore_n 3, 1) := by decide +kernel
theorem dX6_hoursFor_12 : decode cX6_hoursFor 12 = .ok (.iload_n 1, 1) := by decide +kernel
theorem dX6_hoursFor_13 : decode cX6_hoursFor 13 = .ok (.aload_n 0, 1) := by decide +kernel
theorem dX6_hoursFor_14 : decode cX6_hoursFor 14 = .ok (.iload_n 2, 1) := by decide +kernel
theorem dX6_hoursFor_15 : decode cX6_hoursFor 15 = .ok (.invokevirtual 49, 3) := by decide +kernel
theorem dX6_hoursFor_18 : decode cX6_hoursFor 18 = .ok (.imul, 1) := by decide +kernel
theorem dX6_hoursFor_19 : decode cX6_hoursFor 19 = .ok (.iload_n 3, 1) := by decide +kernel
theorem dX6_hoursFor_20 : decode cX6_hoursFor 20 = .ok (.iadd, 1) := by decide +kernel
theorem dX6_hoursFor_21 : decode cX6_hoursFor 21 = .ok (.iconst 1, 1) := by decide +kernel
theorem dX6_hoursFor_22 : decode cX6_hoursFor 22 = .ok (.isub, 1) := by decide +kernel
theorem dX6_hoursFor_23 : decode cX6_hoursFor 23 = .ok (.iload_n 3, 1) := by decide +kernel
theorem dX6_hoursFor_24 : decode cX6_hoursFor 24 = .ok (.idiv, 1) := by decide +kernel
theorem dX6_hoursFor_25 : decode cX6_hoursFor 25 = .ok (.ireturn, 1) := by decide +kernel
theorem dX6_qualityNow_0 : decode cX6_qualityNow 0 = .ok (.aload_n 0, 1) := by decide +kernel
theorem dX6_qualityNow_1 : decode cX6_qualityNow 1 = .ok (.getfield 9, 3) := by decide +kernel
theorem dX6_qualityNow_4 : decode cX6_qualityNow 4 = .ok (.iconst 1, 1) := by decide +kernel
theorem dX6_qualityNow_5 : decode cX6_qualityNow 5 = .ok (.iaload, 1) := by decide +kernel
theorem dX6_qualityNow_6 : decode cX6_qualityNow 6 = .ok (.aload_n 0, 1) := by decide +kernel
theorem dX6_qualityNow_7 : decode cX6_qualityNow 7 = .ok (.getfield 18, 3) := by decide +kernel
theorem dX6_qualityNow_10 : decode cX6_qualityNow 10 = .ok (.iload_n 1, 1) := by decide +kernel
theorem dX6_qualityNow_11 : decode cX6_qualityNow 11 = .ok (.iaload, 1) := by decide +kernel
theorem dX6_qualityNow_12 : decode cX6_qualityNow 12 = .ok (.isub, 1) := by decide +kernel
theorem dX6_qualityNow_13 : decode cX6_qualityNow 13 = .ok (.invokestatic 52, 3) := by decide +kernel
theorem dX6_qualityNow_16 : decode cX6_qualityNow 16 = .ok (.istore_n 2, 1) := by decide +kernel
theorem dX6_qualityNow_17 : decode cX6_qualityNow 17 = .ok (.bipush 40, 2) := by decide +kernel
theorem dX6_qualityNow_19 : decode cX6_qualityNow 19 = .ok (.bipush 100, 2) := by decide +kernel
theorem dX6_qualityNow_21 : decode cX6_qualityNow 21 = .ok (.iconst 2, 1) := by decide +kernel
theorem dX6_qualityNow_22 : decode cX6_qualityNow 22 = .ok (.iload_n 2, 1) := by decide +kernel
theorem dX6_qualityNow_23 : decode cX6_qualityNow 23 = .ok (.imul, 1) := by decide +kernel
theorem dX6_qualityNow_24 : decode cX6_qualityNow 24 = .ok (.isub, 1) := by decide +kernel
theorem dX6_qualityNow_25 : decode cX6_qualityNow 25 = .ok (.invokestatic 44, 3) := by decide +kernel
theorem dX6_qualityNow_28 : decode cX6_qualityNow 28 = .ok (.ireturn, 1) := by decide +kernel
theorem dX6_newStrength_0 : decode cX6_newStrength 0 = .ok (.iload_n 2, 1) := by decide +kernel
theorem dX6_newStrength_1 : decode cX6_newStrength 1 = .ok (.iload_n 3, 1) := by decide +kernel
theorem dX6_newStrength_2 : decode cX6_newStrength 2 = .ok (.imul, 1) := by decide +kernel
theorem dX6_newStrength_3 : decode cX6_newStrength 3 = .ok (.aload_n 0, 1) := by decide +kernel
theorem dX6_newStrength_4 : decode cX6_newStrength 4 = .ok (.getfield 15, 3) := by decide +kernel
theorem dX6_newStrength_7 : decode cX6_newStrength 7 = .ok (.iload_n 1, 1) := by decide +kernel
theorem dX6_newStrength_8 : decode cX6_newStrength 8 = .ok (.iaload, 1) := by decide +kernel
theorem dX6_newStrength_9 : decode cX6_newStrength 9 = .ok (.imul, 1) := by decide +kernel
theorem dX6_newStrength_10 : decode cX6_newStrength 10 = .ok (.aload_n 0, 1) := by decide +kernel
theorem dX6_newStrength_11 : decode cX6_newStrength 11 = .ok (.iload_n 1, 1) := by decide +kernel
theorem dX6_newStrength_12 : decode cX6_newStrength 12 = .ok (.invokevirtual 55, 3) := by decide +kernel
theorem dX6_newStrength_15 : decode cX6_newStrength 15 = .ok (.imul, 1) := by decide +kernel
theorem dX6_newStrength_16 : decode cX6_newStrength 16 = .ok (.bipush 100, 2) := by decide +kernel
theorem dX6_newStrength_18 : decode cX6_newStrength 18 = .ok (.idiv, 1) := by decide +kernel
theorem dX6_newStrength_19 : decode cX6_newStrength 19 = .ok (.ireturn, 1) := by decide +kernel
theorem dX6_strengthOf_0 : decode cX6_strengthOf 0 = .ok (.aload_n 1, 1) := by decide +kernel
theorem dX6_strengthOf_1 : decode cX6_strengthOf 1 = .ok (.getfield 58, 3) := by decide +kernel
theorem dX6_strengthOf_4 : decode cX6_strengthOf 4 = .ok (.aload_n 1, 1) := by decide +kernel
theorem dX6_strengthOf_5 : decode cX6_strengthOf 5 = .ok (.getfield 64, 3) := by decide +kernel
theorem dX6_strengthOf_8 : decode cX6_strengthOf 8 = .ok (.imul, 1) := by decide +kernel
theorem dX6_strengthOf_9 : decode cX6_strengthOf 9 = .ok (.aload_n 0, 1) := by decide +kernel
theorem dX6_strengthOf_10 : decode cX6_strengthOf 10 = .ok (.getfield 15, 3) := by decide +kernel
theorem dX6_strengthOf_13 : decode cX6_strengthOf 13 = .ok (.aload_n 1, 1) := by decide +kernel
theorem dX6_strengthOf_14 : decode cX6_strengthOf 14 = .ok (.getfield 67, 3) := by decide +kernel
theorem dX6_strengthOf_17 : decode cX6_strengthOf 17 = .ok (.iaload, 1) := by decide +kernel
theorem dX6_strengthOf_18 : decode cX6_strengthOf 18 = .ok (.imul, 1) := by decide +kernel
theorem dX6_strengthOf_19 : decode cX6_strengthOf 19 = .ok (.aload_n 1, 1) := by decide +kernel
theorem dX6_strengthOf_20 : decode cX6_strengthOf 20 = .ok (.getfield 70, 3) := by decide +kernel
theorem dX6_strengthOf_23 : decode cX6_strengthOf 23 = .ok (.imul, 1) := by decide +kernel
theorem dX6_strengthOf_24 : decode cX6_strengthOf 24 = .ok (.bipush 100, 2) := by decide +kernel
theorem dX6_strengthOf_26 : decode cX6_strengthOf 26 = .ok (.idiv, 1) := by decide +kernel
theorem dX6_strengthOf_27 : decode cX6_strengthOf 27 = .ok (.istore_n 2, 1) := by decide +kernel
theorem dX6_strengthOf_28 : decode cX6_strengthOf 28 = .ok (.aload_n 1, 1) := by decide +kernel
theorem dX6_strengthOf_29 : decode cX6_strengthOf 29 = .ok (.getfield 73, 3) := by decide +kernel
theorem dX6_strengthOf_32 : decode cX6_strengthOf 32 = .ok (.ifCond .ne 7, 3) := by decide +kernel
theorem dX6_strengthOf_35 : decode cX6_strengthOf 35 = .ok (.iload_n 2, 1) := by decide +kernel
theorem dX6_strengthOf_36 : decode cX6_strengthOf 36 = .ok (.goto 17, 3) := by decide +kernel
theorem dX6_strengthOf_39 : decode cX6_strengthOf 39 = .ok (.iload_n 2, 1) := by decide +kernel
theorem dX6_strengthOf_40 : decode cX6_strengthOf 40 = .ok (.bipush 100, 2) := by decide +kernel
theorem dX6_strengthOf_42 : decode cX6_strengthOf 42 = .ok (.aload_n 0, 1) := by decide +kernel
theorem dX6_strengthOf_43 : decode cX6_strengthOf 43 = .ok (.getfield 9, 3) := by decide +kernel
theorem dX6_strengthOf_46 : decode cX6_strengthOf 46 = .ok (.iconst 3, 1) := by decide +kernel
theorem dX6_strengthOf_47 : decode cX6_strengthOf 47 = .ok (.iaload, 1) := by decide +kernel
theorem dX6_strengthOf_48 : decode cX6_strengthOf 48 = .ok (.isub, 1) := by decide +kernel
theorem dX6_strengthOf_49 : decode cX6_strengthOf 49 = .ok (.imul, 1) := by decide +kernel
theorem dX6_strengthOf_50 : decode cX6_strengthOf 50 = .ok (.bipush 100, 2) := by decide +kernel
theorem dX6_strengthOf_52 : decode cX6_strengthOf 52 = .ok (.idiv, 1) := by decide +kernel
theorem dX6_strengthOf_53 : decode cX6_strengthOf 53 = .ok (.ireturn, 1) := by decide +kernel
theorem dX6_suits_0 : decode cX6_suits 0 = .ok (.aload_n 1, 1) := by decide +kernel
theorem dX6_suits_1 : decode cX6_suits 1 = .ok (.getfield 67, 3) := by decide +kernel
theorem dX6_suits_4 : decode cX6_suits 4 = .ok (.aload_n 2, 1) := by decide +kernel
theorem dX6_suits_5 : decode cX6_suits 5 = .ok (.getfield 76, 3) := by decide +kernel
theorem dX6_suits_8 : decode cX6_suits 8 = .ok (.if_icmp .ne 44, 3) := by decide +kernel
theorem dX6_suits_11 : decode cX6_suits 11 = .ok (.aload_n 1, 1) := by decide +kernel
theorem dX6_suits_12 : decode cX6_suits 12 = .ok (.getfield 79, 3) := by decide +kernel
theorem dX6_suits_15 : decode cX6_suits 15 = .ok (.aload_n 2, 1) := by decide +kernel
theorem dX6_suits_16 : decode cX6_suits 16 = .ok (.getfield 82, 3) := by decide +kernel
theorem dX6_suits_19 : decode cX6_suits 19 = .ok (.if_icmp .lt 33, 3) := by decide +kernel
theorem dX6_suits_22 : decode cX6_suits 22 = .ok (.aload_n 2, 1) := by decide +kernel
theorem dX6_suits_23 : decode cX6_suits 23 = .ok (.getfield 83, 3) := by decide +kernel
theorem dX6_suits_26 : decode cX6_suits 26 = .ok (.ifCond .ne 10, 3) := by decide +kernel
theorem dX6_suits_29 : decode cX6_suits 29 = .ok (.aload_n 1, 1) := by decide +kernel
theorem dX6_suits_30 : decode cX6_suits 30 = .ok (.getfield 73, 3) := by decide +kernel
theorem dX6_suits_33 : decode cX6_suits 33 = .ok (.ifCond .ne 19, 3) := by decide +kernel
theorem dX6_suits_36 : decode cX6_suits 36 = .ok (.aload_n 0, 1) := by decide +kernel
theorem dX6_suits_37 : decode cX6_suits 37 = .ok (.aload_n 1, 1) := by decide +kernel
theorem dX6_suits_38 : decode cX6_suits 38 = .ok (.invokevirtual 87, 3) := by decide +kernel
theorem dX6_suits_41 : decode cX6_suits 41 = .ok (.aload_n 2, 1) := by decide +kernel
theorem dX6_suits_42 : decode cX6_suits 42 = .ok (.getfield 91, 3) := by decide +kernel
theorem dX6_suits_45 : decode cX6_suits 45 = .ok (.if_icmp .lt 7, 3) := by decide +kernel
theorem dX6_suits_48 : decode cX6_suits 48 = .ok (.iconst 1, 1) := by decide +kernel
theorem dX6_suits_49 : decode cX6_suits 49 = .ok (.goto 4, 3) := by decide +kernel
theorem dX6_suits_52 : decode cX6_suits 52 = .ok (.iconst 0, 1) := by decide +kernel
theorem dX6_suits_53 : decode cX6_suits 53 = .ok (.ireturn, 1) := by decide +kernel
theorem dX6_aboutNewRope_0 : decode cX6_aboutNewRope 0 = .ok (.iload 5, 2) := by decide +kernel
theorem dX6_aboutNewRope_2 : decode cX6_aboutNewRope 2 = .ok (.tableswitch 83 0 5 #[38, 45, 52, 61, 69, 75], 38) := by decide +kernel
theorem dX6_aboutNewRope_40 : decode cX6_aboutNewRope 40 = .ok (.aload_n 0, 1) := by decide +kernel
theorem dX6_aboutNewRope_41 : decode cX6_aboutNewRope 41 = .ok (.iload 4, 2) := by decide +kernel
theorem dX6_aboutNewRope_43 : decode cX6_aboutNewRope 43 = .ok (.invokevirtual 49, 3) := by decide +kernel
theorem dX6_aboutNewRope_46 : decode cX6_aboutNewRope 46 = .ok (.ireturn, 1) := by decide +kernel
theorem dX6_aboutNewRope_47 : decode cX6_aboutNewRope 47 = .ok (.aload_n 0, 1) := by decide +kernel
theorem dX6_aboutNewRope_48 : decode cX6_aboutNewRope 48 = .ok (.iload 4, 2) := by decide +kernel
theorem dX6_aboutNewRope_50 : decode cX6_aboutNewRope 50 = .ok (.invokevirtual 40, 3) := by decide +kernel
theorem dX6_aboutNewRope_53 : decode cX6_aboutNewRope 53 = .ok (.ireturn, 1) := by decide +kernel
theorem dX6_aboutNewRope_54 : decode cX6_aboutNewRope 54 = .ok (.aload_n 0, 1) := by decide +kernel
theorem dX6_aboutNewRope_55 : decode cX6_aboutNewRope 55 = .ok (.iload_n 2, 1) := by decide +kernel
theorem dX6_aboutNewRope_56 : decode cX6_aboutNewRope 56 = .ok (.iload_n 3, 1) := by decide +kernel
theorem dX6_aboutNewRope_57 : decode cX6_aboutNewRope 57 = .ok (.iload 4, 2) := by decide +kernel
theorem dX6_aboutNewRope_59 : decode cX6_aboutNewRope 59 = .ok (.invokevirtual 94, 3) := by decide +kernel
theorem dX6_aboutNewRope_62 : decode cX6_aboutNewRope 62 = .ok (.ireturn, 1) := by decide +kernel
theorem dX6_aboutNewRope_63 : decode cX6_aboutNewRope 63 = .ok (.aload_n 0, 1) := by decide +kernel
theorem dX6_aboutNewRope_64 : decode cX6_aboutNewRope 64 = .ok (.iload_n 2, 1) := by decide +kernel
theorem dX6_aboutNewRope_65 : decode cX6_aboutNewRope 65 = .ok (.iload 4, 2) := by decide +kernel
theorem dX6_aboutNewRope_67 : decode cX6_aboutNewRope 67 = .ok (.invokevirtual 98, 3) := by decide +kernel
theorem dX6_aboutNewRope_70 : decode cX6_aboutNewRope 70 = .ok (.ireturn, 1) := by decide +kernel
theorem dX6_aboutNewRope_71 : decode cX6_aboutNewRope 71 = .ok (.aload_n 0, 1) := by decide +kernel
theorem dX6_aboutNewRope_72 : decode cX6_aboutNewRope 72 = .ok (.iload_n 1, 1) := by decide +kernel
theorem dX6_aboutNewRope_73 : decode cX6_aboutNewRope 73 = .ok (.invokevirtual 55, 3) := by decide +kernel
theorem dX6_aboutNewRope_76 : decode cX6_aboutNewRope 76 = .ok (.ireturn, 1) := by decide +kernel
theorem dX6_aboutNewRope_77 : decode cX6_aboutNewRope 77 = .ok (.aload_n 0, 1) := by decide +kernel
theorem dX6_aboutNewRope_78 : decode cX6_aboutNewRope 78 = .ok (.iload_n 1, 1) := by decide +kernel
theorem dX6_aboutNewRope_79 : decode cX6_aboutNewRope 79 = .ok (.iload_n 2, 1) := by decide +kernel
theorem dX6_aboutNewRope_80 : decode cX6_aboutNewRope 80 = .ok (.iload_n 3, 1) := by decide +kernel
theorem dX6_aboutNewRope_81 : decode cX6_aboutNewRope 81 = .ok (.invokevirtual 101, 3) := by decide +kernel
theorem dX6_aboutNewRope_84 : decode cX6_aboutNewRope 84 = .ok (.ireturn, 1) := by decide +kernel
theorem dX6_aboutNewRope_85 : decode cX6_aboutNewRope 85 = .ok (.bipush (-2), 2) := by decide +kernel
theorem dX6_aboutNewRope_87 : decode cX6_aboutNewRope 87 = .ok (.ireturn, 1) := by decide +kernel
theorem dX6_fewestYarns_0 : decode cX6_fewestYarns 0 = .ok (.iconst 1, 1) := by decide +kernel
theorem dX6_fewestYarns_1 : decode cX6_fewestYarns 1 = .ok (.istore 4, 2) := by decide +kernel
theorem dX6_fewestYarns_3 : decode cX6_fewestYarns 3 = .ok (.iload 4, 2) := by decide +kernel
theorem dX6_fewestYarns_5 : decode cX6_fewestYarns 5 = .ok (.bipush 40, 2) := by decide +kernel
theorem dX6_fewestYarns_7 : decode cX6_fewestYarns 7 = .ok (.if_icmp .gt 24, 3) := by decide +kernel
theorem dX6_fewestYarns_10 : decode cX6_fewestYarns 10 = .ok (.aload_n 0, 1) := by decide +kernel
theorem dX6_fewestYarns_11 : decode cX6_fewestYarns 11 = .ok (.iload_n 1, 1) := by decide +kernel
theorem dX6_fewestYarns_12 : decode cX6_fewestYarns 12 = .ok (.iload_n 2, 1) := by decide +kernel
theorem dX6_fewestYarns_13 : decode cX6_fewestYarns 13 = .ok (.iload 4, 2) := by decide +kernel
theorem dX6_fewestYarns_15 : decode cX6_fewestYarns 15 = .ok (.invokevirtual 101, 3) := by decide +kernel
theorem dX6_fewestYarns_18 : decode cX6_fewestYarns 18 = .ok (.iload_n 3, 1) := by decide +kernel
theorem dX6_fewestYarns_19 : decode cX6_fewestYarns 19 = .ok (.if_icmp .lt 6, 3) := by decide +kernel
theorem dX6_fewestYarns_22 : decode cX6_fewestYarns 22 = .ok (.iload 4, 2) := by decide +kernel
theorem dX6_fewestYarns_24 : decode cX6_fewestYarns 24 = .ok (.ireturn, 1) := by decide +kernel
theorem dX6_fewestYarns_25 : decode cX6_fewestYarns 25 = .ok (.iinc 4 1, 3) := by decide +kernel
theorem dX6_fewestYarns_28 : decode cX6_fewestYarns 28 = .ok (.goto (-25), 3) := by decide +kernel
theorem dX6_fewestYarns_31 : decode cX6_fewestYarns 31 = .ok (.bipush (-6), 2) := by decide +kernel
theorem dX6_fewestYarns_33 : decode cX6_fewestYarns 33 = .ok (.ireturn, 1) := by decide +kernel
theorem dX7_init_0 : decode cX7_init 0 = .ok (.aload_n 0, 1) := by decide +kernel
theorem dX7_init_1 : decode cX7_init 1 = .ok (.invokespecial 3, 3) := by decide +kernel
theorem dX7_init_4 : decode cX7_init 4 = .ok (.aload_n 0, 1) := by decide +kernel
theorem dX7_init_5 : decode cX7_init 5 = .ok (.bipush 24, 2) := by decide +kernel
theorem dX7_init_7 : decode cX7_init 7 = .ok (.anewarray 9, 3) := by decide +kernel
theorem dX7_init_10 : decode cX7_init 10 = .ok (.putfield 11, 3) := by decide +kernel
theorem dX7_init_13 : decode cX7_init 13 = .ok (.aload_n 0, 1) := by decide +kernel
theorem dX7_init_14 : decode cX7_init 14 = .ok (.iconst 3, 1) := by decide +kernel
theorem dX7_init_15 : decode cX7_init 15 = .ok (.bipush 6, 2) := by decide +kernel
theorem dX7_init_17 : decode cX7_init 17 = .ok (.multianewarray 17 2, 4) := by decide +kernel
theorem dX7_init_21 : decode cX7_init 21 = .ok (.putfield 19, 3) := by decide +kernel
theorem dX7_init_24 : decode cX7_init 24 = .ok (.iconst 0, 1) := by decide +kernel
theorem dX7_init_25 : decode cX7_init 25 = .ok (.istore_n 1, 1) := by decide +kernel
theorem dX7_init_26 : decode cX7_init 26 = .ok (.iload_n 1, 1) := by decide +kernel
theorem dX7_init_27 : decode cX7_init 27 = .ok (.bipush 24, 2) := by decide +kernel
theorem dX7_init_29 : decode cX7_init 29 = .ok (.if_icmp .ge 22, 3) := by decide +kernel
theorem dX7_init_32 : decode cX7_init 32 = .ok (.aload_n 0, 1) := by decide +kernel
theorem dX7_init_33 : decode cX7_init 33 = .ok (.getfield 11, 3) := by decide +kernel
theorem dX7_init_36 : decode cX7_init 36 = .ok (.iload_n 1, 1) := by decide +kernel
theorem dX7_init_37 : decode cX7_init 37 = .ok (.new 9, 3) := by decide +kernel
theorem dX7_init_40 : decode cX7_init 40 = .ok (.dup, 1) := by decide +kernel
theorem dX7_init_41 : decode cX7_init 41 = .ok (.invokespecial 22, 3) := by decide +kernel
theorem dX7_init_44 : decode cX7_init 44 = .ok (.aastore, 1) := by decide +kernel
theorem dX7_init_45 : decode cX7_init 45 = .ok (.iinc 1 1, 3) := by decide +kernel
theorem dX7_init_48 : decode cX7_init 48 = .ok (.goto (-22), 3) := by decide +kernel
theorem dX7_init_51 : decode cX7_init 51 = .ok (.return_, 1) := by decide +kernel
theorem dX7_copyFrom_0 : decode cX7_copyFrom 0 = .ok (.aload_n 0, 1) := by decide +kernel
theorem dX7_copyFrom_1 : decode cX7_copyFrom 1 = .ok (.aload_n 1, 1) := by decide +kernel
theorem dX7_copyFrom_2 : decode cX7_copyFrom 2 = .ok (.getfield 23, 3) := by decide +kernel
theorem dX7_copyFrom_5 : decode cX7_copyFrom 5 = .ok (.putfield 23, 3) := by decide +kernel
theorem dX7_copyFrom_8 : decode cX7_copyFrom 8 = .ok (.iconst 0, 1) := by decide +kernel
theorem dX7_copyFrom_9 : decode cX7_copyFrom 9 = .ok (.istore_n 2, 1) := by decide +kernel
theorem dX7_copyFrom_10 : decode cX7_copyFrom 10 = .ok (.iload_n 2, 1) := by decide +kernel
theorem dX7_copyFrom_11 : decode cX7_copyFrom 11 = .ok (.aload_n 0, 1) := by decide +kernel
theorem dX7_copyFrom_12 : decode cX7_copyFrom 12 = .ok (.getfield 23, 3) := by decide +kernel
theorem dX7_copyFrom_15 : decode cX7_copyFrom 15 = .ok (.if_icmp .ge 24, 3) := by decide +kernel
theorem dX7_copyFrom_18 : decode cX7_copyFrom 18 = .ok (.aload_n 0, 1) := by decide +kernel
theorem dX7_copyFrom_19 : decode cX7_copyFrom 19 = .ok (.getfield 11, 3) := by decide +kernel
theorem dX7_copyFrom_22 : decode cX7_copyFrom 22 = .ok (.iload_n 2, 1) := by decide +kernel
theorem dX7_copyFrom_23 : decode cX7_copyFrom 23 = .ok (.aaload, 1) := by decide +kernel
theorem dX7_copyFrom_24 : decode cX7_copyFrom 24 = .ok (.aload_n 1, 1) := by decide +kernel
theorem dX7_copyFrom_25 : decode cX7_copyFrom 25 = .ok (.getfield 11, 3) := by decide +kernel
theorem dX7_copyFrom_28 : decode cX7_copyFrom 28 = .ok (.iload_n 2, 1) := by decide +kernel
theorem dX7_copyFrom_29 : decode cX7_copyFrom 29 = .ok (.aaload, 1) := by decide +kernel
theorem dX7_copyFrom_30 : decode cX7_copyFrom 30 = .ok (.invokevirtual 27, 3) := by decide +kernel
theorem dX7_copyFrom_33 : decode cX7_copyFrom 33 = .ok (.iinc 2 1, 3) := by decide +kernel
theorem dX7_copyFrom_36 : decode cX7_copyFrom 36 = .ok (.goto (-26), 3) := by decide +kernel
theorem dX7_copyFrom_39 : decode cX7_copyFrom 39 = .ok (.iconst 0, 1) := by decide +kernel
theorem dX7_copyFrom_40 : decode cX7_copyFrom 40 = .ok (.istore_n 2, 1) := by decide +kernel
theorem dX7_copyFrom_41 : decode cX7_copyFrom 41 = .ok (.iload_n 2, 1) := by decide +kernel
theorem dX7_copyFrom_42 : decode cX7_copyFrom 42 = .ok (.iconst 3, 1) := by decide +kernel
theorem dX7_copyFrom_43 : decode cX7_copyFrom 43 = .ok (.if_icmp .ge 28, 3) := by decide +kernel
theorem dX7_copyFrom_46 : decode cX7_copyFrom 46 = .ok (.aload_n 1, 1) := by decide +kernel
theorem dX7_copyFrom_47 : decode cX7_copyFrom 47 = .ok (.getfield 19, 3) := by decide +kernel
theorem dX7_copyFrom_50 : decode cX7_copyFrom 50 = .ok (.iload_n 2, 1) := by decide +kernel
theorem dX7_copyFrom_51 : decode cX7_copyFrom 51 = .ok (.aaload, 1) := by decide +kernel
theorem dX7_copyFrom_52 : decode cX7_copyFrom 52 = .ok (.iconst 0, 1) := by decide +kernel
theorem dX7_copyFrom_53 : decode cX7_copyFrom 53 = .ok (.aload_n 0, 1) := by decide +kernel
theorem dX7_copyFrom_54 : decode cX7_copyFrom 54 = .ok (.getfield 19, 3) := by decide +kernel
theorem dX7_copyFrom_57 : decode cX7_copyFrom 57 = .ok (.iload_n 2, 1) := by decide +kernel
theorem dX7_copyFrom_58 : decode cX7_copyFrom 58 = .ok (.aaload, 1) := by decide +kernel
theorem dX7_copyFrom_59 : decode cX7_copyFrom 59 = .ok (.iconst 0, 1) := by decide +kernel
theorem dX7_copyFrom_60 : decode cX7_copyFrom 60 = .ok (.bipush 6, 2) := by decide +kernel
theorem dX7_copyFrom_62 : decode cX7_copyFrom 62 = .ok (.invokestatic 31, 3) := by decide +kernel
theorem dX7_copyFrom_65 : decode cX7_copyFrom 65 = .ok (.iinc 2 1, 3) := by decide +kernel
theorem dX7_copyFrom_68 : decode cX7_copyFrom 68 = .ok (.goto (-27), 3) := by decide +kernel
theorem dX7_copyFrom_71 : decode cX7_copyFrom 71 = .ok (.return_, 1) := by decide +kernel
theorem dX7_has_0 : decode cX7_has 0 = .ok (.iload_n 1, 1) := by decide +kernel
theorem dX7_has_1 : decode cX7_has 1 = .ok (.iconst 0, 1) := by decide +kernel
theorem dX7_has_2 : decode cX7_has 2 = .ok (.aload_n 0, 1) := by decide +kernel
theorem dX7_has_3 : decode cX7_has 3 = .ok (.getfield 23, 3) := by decide +kernel
theorem dX7_has_6 : decode cX7_has 6 = .ok (.iconst 1, 1) := by decide +kernel
theorem dX7_has_7 : decode cX7_has 7 = .ok (.isub, 1) := by decide +kernel
theorem dX7_has_8 : decode cX7_has 8 = .ok (.invokestatic 37, 3) := by decide +kernel
theorem dX7_has_11 : decode cX7_has 11 = .ok (.ireturn, 1) := by decide +kernel
theorem dX7_isFull_0 : decode cX7_isFull 0 = .ok (.aload_n 0, 1) := by decide +kernel
theorem dX7_isFull_1 : decode cX7_isFull 1 = .ok (.getfield 23, 3) := by decide +kernel
theorem dX7_isFull_4 : decode cX7_isFull 4 = .ok (.bipush 24, 2) := by decide +kernel
theorem dX7_isFull_6 : decode cX7_isFull 6 = .ok (.if_icmp .lt 7, 3) := by decide +kernel
theorem dX7_isFull_9 : decode cX7_isFull 9 = .ok (.iconst 1, 1) := by decide +kernel
theorem dX7_isFull_10 : decode cX7_isFull 10 = .ok (.goto 4, 3) := by decide +kernel
theorem dX7_isFull_13 : decode cX7_isFull 13 = .ok (.iconst 0, 1) := by decide +kernel
theorem dX7_isFull_14 : decode cX7_isFull 14 = .ok (.ireturn, 1) := by decide +kernel
theorem dX7_move_0 : decode cX7_move 0 = .ok (.aload_n 0, 1) := by decide +kernel
theorem dX7_move_1 : decode cX7_move 1 = .ok (.getfield 19, 3) := by decide +kernel
theorem dX7_move_4 : decode cX7_move 4 = .ok (.iload_n 1, 1) := by decide +kernel
theorem dX7_move_5 : decode cX7_move 5 = .ok (.aaload, 1) := by decide +kernel
theorem dX7_move_6 : decode cX7_move 6 = .ok (.iload_n 2, 1) := by decide +kernel
theorem dX7_move_7 : decode cX7_move 7 = .ok (.dup2, 1) := by decide +kernel
theorem dX7_move_8 : decode cX7_move 8 = .ok (.iaload, 1) := by decide +kernel
theorem dX7_move_9 : decode cX7_move 9 = .ok (.iload 4, 2) := by decide +kernel
theorem dX7_move_11 : decode cX7_move 11 = .ok (.isub, 1) := by decide +kernel
theorem dX7_move_12 : decode cX7_move 12 = .ok (.iastore, 1) := by decide +kernel
theorem dX7_move_13 : decode cX7_move 13 = .ok (.aload_n 0, 1) := by decide +kernel
theorem dX7_move_14 : decode cX7_move 14 = .ok (.getfield 19, 3) := by decide +kernel
theorem dX7_move_17 : decode cX7_move 17 = .ok (.iload_n 1, 1) := by decide +kernel
theorem dX7_move_18 : decode cX7_move 18 = .ok (.aaload, 1) := by decide +kernel
theorem dX7_move_19 : decode cX7_move 19 = .ok (.iload_n 3, 1) := by decide +kernel
theorem dX7_move_20 : decode cX7_move 20 = .ok (.dup2, 1) := by decide +kernel
theorem dX7_move_21 : decode cX7_move 21 = .ok (.iaload, 1) := by decide +kernel
theorem dX7_move_22 : decode cX7_move 22 = .ok (.iload 4, 2) := by decide +kernel
theorem dX7_move_24 : decode cX7_move 24 = .ok (.iadd, 1) := by decide +kernel
theorem dX7_move_25 : decode cX7_move 25 = .ok (.iastore, 1) := by decide +kernel
theorem dX7_move_26 : decode cX7_move 26 = .ok (.return_, 1) := by decide +kernel
theorem dX7_addYarn_0 : decode cX7_addYarn 0 = .ok (.aload_n 0, 1) := by decide +kernel
theorem dX7_addYarn_1 : decode cX7_addYarn 1 = .ok (.getfield 19, 3) := by decide +kernel
theorem dX7_addYarn_4 : decode cX7_addYarn 4 = .ok (.iload_n 1, 1) := by decide +kernel
theorem dX7_addYarn_5 : decode cX7_addYarn 5 = .ok (.aaload, 1) := by decide +kernel
theorem dX7_addYarn_6 : decode cX7_addYarn 6 = .ok (.iconst 0, 1) := by decide +kernel
theorem dX7_addYarn_7 : decode cX7_addYarn 7 = .ok (.dup2, 1) := by decide +kernel
theorem dX7_addYarn_8 : decode cX7_addYarn 8 = .ok (.iaload, 1) := by decide +kernel
theorem dX7_addYarn_9 : decode cX7_addYarn 9 = .ok (.iload_n 2, 1) := by decide +kernel
theorem dX7_addYarn_10 : decode cX7_addYarn 10 = .ok (.iadd, 1) := by decide +kernel
theorem dX7_addYarn_11 : decode cX7_addYarn 11 = .ok (.iastore, 1) := by decide +kernel
theorem dX7_addYarn_12 : decode cX7_addYarn 12 = .ok (.aload_n 0, 1) := by decide +kernel
theorem dX7_addYarn_13 : decode cX7_addYarn 13 = .ok (.getfield 19, 3) := by decide +kernel
theorem dX7_addYarn_16 : decode cX7_addYarn 16 = .ok (.iload_n 1, 1) := by decide +kernel
theorem dX7_addYarn_17 : decode cX7_addYarn 17 = .ok (.aaload, 1) := by decide +kernel
theorem dX7_addYarn_18 : decode cX7_addYarn 18 = .ok (.iconst 1, 1) := by decide +kernel
theorem dX7_addYarn_19 : decode cX7_addYarn 19 = .ok (.dup2, 1) := by decide +kernel
theorem dX7_addYarn_20 : decode cX7_addYarn 20 = .ok (.iaload, 1) := by decide +kernel
theorem dX7_addYarn_21 : decode cX7_addYarn 21 = .ok (.iload_n 2, 1) := by decide +kernel
theorem dX7_addYarn_22 : decode cX7_addYarn 22 = .ok (.iadd, 1) := by decide +kernel
theorem dX7_addYarn_23 : decode cX7_addYarn 23 = .ok (.iastore, 1) := by decide +kernel
theorem dX7_addYarn_24 : decode cX7_addYarn 24 = .ok (.aload_n 0, 1) := by decide +kernel
theorem dX7_addYarn_25 : decode cX7_addYarn 25 = .ok (.getfield 19, 3) := by decide +kernel
theorem dX7_addYarn_28 : decode cX7_addYarn 28 = .ok (.iload_n 1, 1) := by decide +kernel
theorem dX7_addYarn_29 : decode cX7_addYarn 29 = .ok (.aaload, 1) := by decide +kernel
theorem dX7_addYarn_30 : decode cX7_addYarn 30 = .ok (.iconst 1, 1) := by decide +kernel
theorem dX7_addYarn_31 : decode cX7_addYarn 31 = .ok (.iaload, 1) := by decide +kernel
theorem dX7_addYarn_32 : decode cX7_addYarn 32 = .ok (.ireturn, 1) := by decide +kernel
theorem dX7_addRope_0 : decode cX7_addRope 0 = .ok (.aload_n 0, 1) := by decide +kernel
theorem dX7_addRope_1 : decode cX7_addRope 1 = .ok (.getfield 11, 3) := by decide +kernel
theorem dX7_addRope_4 : decode cX7_addRope 4 = .ok (.aload_n 0, 1) := by decide +kernel
theorem dX7_addRope_5 : decode cX7_addRope 5 = .ok (.getfield 23, 3) := by decide +kernel
theorem dX7_addRope_8 : decode cX7_addRope 8 = .ok (.aaload, 1) := by decide +kernel
theorem dX7_addRope_9 : decode cX7_addRope 9 = .ok (.astore 6, 2) := by decide +kernel
theorem dX7_addRope_11 : decode cX7_addRope 11 = .ok (.aload 6, 2) := by decide +kernel
theorem dX7_addRope_13 : decode cX7_addRope 13 = .ok (.iload_n 1, 1) := by decide +kernel
theorem dX7_addRope_14 : decode cX7_addRope 14 = .ok (.putfield 41, 3) := by decide +kernel
theorem dX7_addRope_17 : decode cX7_addRope 17 = .ok (.aload 6, 2) := by decide +kernel
theorem dX7_addRope_19 : decode cX7_addRope 19 = .ok (.iload_n 2, 1) := by decide +kernel
theorem dX7_addRope_20 : decode cX7_addRope 20 = .ok (.putfield 44, 3) := by decide +kernel
theorem dX7_addRope_23 : decode cX7_addRope 23 = .ok (.aload 6, 2) := by decide +kernel
theorem dX7_addRope_25 : decode cX7_addRope 25 = .ok (.iload_n 3, 1) := by decide +kernel
theorem dX7_addRope_26 : decode cX7_addRope 26 = .ok (.putfield 47, 3) := by decide +kernel
theorem dX7_addRope_29 : decode cX7_addRope 29 = .ok (.aload 6, 2) := by decide +kernel
theorem dX7_addRope_31 : decode cX7_addRope 31 = .ok (.iload 4, 2) := by decide +kernel
theorem dX7_addRope_33 : decode cX7_addRope 33 = .ok (.putfield 50, 3) := by decide +kernel
theorem dX7_addRope_36 : decode cX7_addRope 36 = .ok (.aload 6, 2) := by decide +kernel
theorem dX7_addRope_38 : decode cX7_addRope 38 = .ok (.aload 5, 2) := by decide +kernel
theorem dX7_addRope_40 : decode cX7_addRope 40 = .ok (.iload_n 2, 1) := by decide +kernel
theorem dX7_addRope_41 : decode cX7_addRope 41 = .ok (.iload_n 3, 1) := by decide +kernel
theorem dX7_addRope_42 : decode cX7_addRope 42 = .ok (.iload 4, 2) := by decide +kernel
theorem dX7_addRope_44 : decode cX7_addRope 44 = .ok (.invokevirtual 53, 3) := by decide +kernel
theorem dX7_addRope_47 : decode cX7_addRope 47 = .ok (.putfield 59, 3) := by decide +kernel
theorem dX7_addRope_50 : decode cX7_addRope 50 = .ok (.aload 6, 2) := by decide +kernel
theorem dX7_addRope_52 : decode cX7_addRope 52 = .ok (.aload 5, 2) := by decide +kernel
theorem dX7_addRope_54 : decode cX7_addRope 54 = .ok (.iload_n 1, 1) := by decide +kernel
theorem dX7_addRope_55 : decode cX7_addRope 55 = .ok (.invokevirtual 62, 3) := by decide +kernel
theorem dX7_addRope_58 : decode cX7_addRope 58 = .ok (.putfield 66, 3) := by decide +kernel
theorem dX7_addRope_61 : decode cX7_addRope 61 = .ok (.aload 6, 2) := by decide +kernel
theorem dX7_addRope_63 : decode cX7_addRope 63 = .ok (.iconst 0, 1) := by decide +kernel
theorem dX7_addRope_64 : decode cX7_addRope 64 = .ok (.putfield 69, 3) := by decide +kernel
theorem dX7_addRope_67 : decode cX7_addRope 67 = .ok (.aload_n 0, 1) := by decide +kernel
theorem dX7_addRope_68 : decode cX7_addRope 68 = .ok (.iload_n 1, 1) := by decide +kernel
theorem dX7_addRope_69 : decode cX7_addRope 69 = .ok (.iconst 1, 1) := by decide +kernel
theorem dX7_addRope_70 : decode cX7_addRope 70 = .ok (.iconst 2, 1) := by decide +kernel
theorem dX7_addRope_71 : decode cX7_addRope 71 = .ok (.aload 6, 2) := by decide +kernel
theorem dX7_addRope_73 : decode cX7_addRope 73 = .ok (.getfield 59, 3) := by decide +kernel
theorem dX7_addRope_76 : decode cX7_addRope 76 = .ok (.invokevirtual 72, 3) := by decide +kernel
theorem dX7_addRope_79 : decode cX7_addRope 79 = .ok (.aload_n 0, 1) := by decide +kernel
theorem dX7_addRope_80 : decode cX7_addRope 80 = .ok (.dup, 1) := by decide +kernel
theorem dX7_addRope_81 : decode cX7_addRope 81 = .ok (.getfield 23, 3) := by decide +kernel
theorem dX7_addRope_84 : decode cX7_addRope 84 = .ok (.iconst 1, 1) := by decide +kernel
theorem dX7_addRope_85 : decode cX7_addRope 85 = .ok (.iadd, 1) := by decide +kernel
theorem dX7_addRope_86 : decode cX7_addRope 86 = .ok (.putfield 23, 3) := by decide +kernel
theorem dX7_addRope_89 : decode cX7_addRope 89 = .ok (.aload_n 0, 1) := by decide +kernel
theorem dX7_addRope_90 : decode cX7_addRope 90 = .ok (.getfield 23, 3) := by decide +kernel
theorem dX7_addRope_93 : decode cX7_addRope 93 = .ok (.iconst 1, 1) := by decide +kernel
theorem dX7_addRope_94 : decode cX7_addRope 94 = .ok (.isub, 1) := by decide +kernel
theorem dX7_addRope_95 : decode cX7_addRope 95 = .ok (.ireturn, 1) := by decide +kernel
theorem dX7_remove_0 : decode cX7_remove 0 = .ok (.aload_n 0, 1) := by decide +kernel
theorem dX7_remove_1 : decode cX7_remove 1 = .ok (.getfield 11, 3) := by decide +kernel
theorem dX7_remove_4 : decode cX7_remove 4 = .ok (.iload_n 1, 1) := by decide +kernel
theorem dX7_remove_5 : decode cX7_remove 5 = .ok (.aaload, 1) := by decide +kernel
theorem dX7_remove_6 : decode cX7_remove 6 = .ok (.astore_n 2, 1) := by decide +kernel
theorem dX7_remove_7 : decode cX7_remove 7 = .ok (.iload_n 1, 1) := by decide +kernel
theorem dX7_remove_8 : decode cX7_remove 8 = .ok (.istore_n 3, 1) := by decide +kernel
theorem dX7_remove_9 : decode cX7_remove 9 = .ok (.iload_n 3, 1) := by decide +kernel
theorem dX7_remove_10 : decode cX7_remove 10 = .ok (.aload_n 0, 1) := by decide +kernel
theorem dX7_remove_11 : decode cX7_remove 11 = .ok (.getfield 23, 3) := by decide +kernel
theorem dX7_remove_14 : decode cX7_remove 14 = .ok (.iconst 1, 1) := by decide +kernel
theorem dX7_remove_15 : decode cX7_remove 15 = .ok (.isub, 1) := by decide +kernel
theorem dX7_remove_16 : decode cX7_remove 16 = .ok (.if_icmp .ge 23, 3) := by decide +kernel
theorem dX7_remove_19 : decode cX7_remove 19 = .ok (.aload_n 0, 1) := by decide +kernel
theorem dX7_remove_20 : decode cX7_remove 20 = .ok (.getfield 11, 3) := by decide +kernel
theorem dX7_remove_23 : decode cX7_remove 23 = .ok (.iload_n 3, 1) := by decide +kernel
theorem dX7_remove_24 : decode cX7_remove 24 = .ok (.aload_n 0, 1) := by decide +kernel
theorem dX7_remove_25 : decode cX7_remove 25 = .ok (.getfield 11, 3) := by decide +kernel
theorem dX7_remove_28 : decode cX7_remove 28 = .ok (.iload_n 3, 1) := by decide +kernel
theorem dX7_remove_29 : decode cX7_remove 29 = .ok (.iconst 1, 1) := by decide +kernel
theorem dX7_remove_30 : decode cX7_remove 30 = .ok (.iadd, 1) := by decide +kernel
theorem dX7_remove_31 : decode cX7_remove 31 = .ok (.aaload, 1) := by decide +kernel
theorem dX7_remove_32 : decode cX7_remove 32 = .ok (.aastore, 1) := by decide +kernel
theorem dX7_remove_33 : decode cX7_remove 33 = .ok (.iinc 3 1, 3) := by decide +kernel
theorem dX7_remove_36 : decode cX7_remove 36 = .ok (.goto (-27), 3) := by decide +kernel
theorem dX7_remove_39 : decode cX7_remove 39 = .ok (.aload_n 0, 1) := by decide +kernel
theorem dX7_remove_40 : decode cX7_remove 40 = .ok (.dup, 1) := by decide +kernel
theorem dX7_remove_41 : decode cX7_remove 41 = .ok (.getfield 23, 3) := by decide +kernel
theorem dX7_remove_44 : decode cX7_remove 44 = .ok (.iconst 1, 1) := by decide +kernel
theorem dX7_remove_45 : decode cX7_remove 45 = .ok (.isub, 1) := by decide +kernel
theorem dX7_remove_46 : decode cX7_remove 46 = .ok (.putfield 23, 3) := by decide +kernel
theorem dX7_remove_49 : decode cX7_remove 49 = .ok (.aload_n 0, 1) := by decide +kernel
theorem dX7_remove_50 : decode cX7_remove 50 = .ok (.getfield 11, 3) := by decide +kernel
theorem dX7_remove_53 : decode cX7_remove 53 = .ok (.aload_n 0, 1) := by decide +kernel
theorem dX7_remove_54 : decode cX7_remove 54 = .ok (.getfield 23, 3) := by decide +kernel
theorem dX7_remove_57 : decode cX7_remove 57 = .ok (.aload_n 2, 1) := by decide +kernel
theorem dX7_remove_58 : decode cX7_remove 58 = .ok (.aastore, 1) := by decide +kernel
theorem dX7_remove_59 : decode cX7_remove 59 = .ok (.return_, 1) := by decide +kernel
theorem dX7_splice_0 : decode cX7_splice 0 = .ok (.iload_n 1, 1) := by decide +kernel
theorem dX7_splice_1 : decode cX7_splice 1 = .ok (.iload_n 2, 1) := by decide +kernel
theorem dX7_splice_2 : decode cX7_splice 2 = .ok (.invokestatic 76, 3) := by decide +kernel
theorem dX7_splice_5 : decode cX7_splice 5 = .ok (.istore 4, 2) := by decide +kernel
theorem dX7_splice_7 : decode cX7_splice 7 = .ok (.iload_n 1, 1) := by decide +kernel
theorem dX7_splice_8 : decode cX7_splice 8 = .ok (.iload_n 2, 1) := by decide +kernel
theorem dX7_splice_9 : decode cX7_splice 9 = .ok (.invokestatic 82, 3) := by decide +kernel
theorem dX7_splice_12 : decode cX7_splice 12 = .ok (.istore 5, 2) := by decide +kernel
theorem dX7_splice_14 : decode cX7_splice 14 = .ok (.aload_n 0, 1) := by decide +kernel
theorem dX7_splice_15 : decode cX7_splice 15 = .ok (.getfield 11, 3) := by decide +kernel
theorem dX7_splice_18 : decode cX7_splice 18 = .ok (.iload 4, 2) := by decide +kernel
theorem dX7_splice_20 : decode cX7_splice 20 = .ok (.aaload, 1) := by decide +kernel
theorem dX7_splice_21 : decode cX7_splice 21 = .ok (.astore 6, 2) := by decide +kernel
theorem dX7_splice_23 : decode cX7_splice 23 = .ok (.aload_n 0, 1) := by decide +kernel
theorem dX7_splice_24 : decode cX7_splice 24 = .ok (.getfield 11, 3) := by decide +kernel
theorem dX7_splice_27 : decode cX7_splice 27 = .ok (.iload 5, 2) := by decide +kernel
theorem dX7_splice_29 : decode cX7_splice 29 = .ok (.aaload, 1) := by decide +kernel
theorem dX7_splice_30 : decode cX7_splice 30 = .ok (.astore 7, 2) := by decide +kernel
theorem dX7_splice_32 : decode cX7_splice 32 = .ok (.aload 6, 2) := by decide +kernel
theorem dX7_splice_34 : decode cX7_splice 34 = .ok (.dup, 1) := by decide +kernel
theorem dX7_splice_35 : decode cX7_splice 35 = .ok (.getfield 50, 3) := by decide +kernel
theorem dX7_splice_38 : decode cX7_splice 38 = .ok (.aload 7, 2) := by decide +kernel
theorem dX7_splice_40 : decode cX7_splice 40 = .ok (.getfield 50, 3) := by decide +kernel
theorem dX7_splice_43 : decode cX7_splice 43 = .ok (.iload_n 3, 1) := by decide +kernel
theorem dX7_splice_44 : decode cX7_splice 44 = .ok (.isub, 1) := by decide +kernel
theorem dX7_splice_45 : decode cX7_splice 45 = .ok (.iadd, 1) := by decide +kernel
theorem dX7_splice_46 : decode cX7_splice 46 = .ok (.putfield 50, 3) := by decide +kernel
theorem dX7_splice_49 : decode cX7_splice 49 = .ok (.aload 6, 2) := by decide +kernel
theorem dX7_splice_51 : decode cX7_splice 51 = .ok (.dup, 1) := by decide +kernel
theorem dX7_splice_52 : decode cX7_splice 52 = .ok (.getfield 59, 3) := by decide +kernel
theorem dX7_splice_55 : decode cX7_splice 55 = .ok (.aload 7, 2) := by decide +kernel
theorem dX7_splice_57 : decode cX7_splice 57 = .ok (.getfield 59, 3) := by decide +kernel
theorem dX7_splice_60 : decode cX7_splice 60 = .ok (.iadd, 1) := by decide +kernel
theorem dX7_splice_61 : decode cX7_splice 61 = .ok (.putfield 59, 3) := by decide +kernel
theorem dX7_splice_64 : decode cX7_splice 64 = .ok (.aload 6, 2) := by decide +kernel
theorem dX7_splice_66 : decode cX7_splice 66 = .ok (.aload 6, 2) := by decide +kernel
theorem dX7_splice_68 : decode cX7_splice 68 = .ok (.getfield 66, 3) := by decide +kernel
theorem dX7_splice_71 : decode cX7_splice 71 = .ok (.aload 7, 2) := by decide +kernel
theorem dX7_splice_73 : decode cX7_splice 73 = .ok (.getfield 66, 3) := by decide +kernel
theorem dX7_splice_76 : decode cX7_splice 76 = .ok (.invokestatic 76, 3) := by decide +kernel
theorem dX7_splice_79 : decode cX7_splice 79 = .ok (.putfield 66, 3) := by decide +kernel
theorem dX7_splice_82 : decode cX7_splice 82 = .ok (.aload 6, 2) := by decide +kernel
theorem dX7_splice_84 : decode cX7_splice 84 = .ok (.dup, 1) := by decide +kernel
theorem dX7_splice_85 : decode cX7_splice 85 = .ok (.getfield 69, 3) := by decide +kernel
theorem dX7_splice_88 : decode cX7_splice 88 = .ok (.aload 7, 2) := by decide +kernel
theorem dX7_splice_90 : decode cX7_splice 90 = .ok (.getfield 69, 3) := by decide +kernel
theorem dX7_splice_93 : decode cX7_splice 93 = .ok (.iconst 1, 1) := by decide +kernel
theorem dX7_splice_94 : decode cX7_splice 94 = .ok (.iadd, 1) := by decide +kernel
theorem dX7_splice_95 : decode cX7_splice 95 = .ok (.iadd, 1) := by decide +kernel
theorem dX7_splice_96 : decode cX7_splice 96 = .ok (.putfield 69, 3) := by decide +kernel
theorem dX7_splice_99 : decode cX7_splice 99 = .ok (.aload_n 0, 1) := by decide +kernel
theorem dX7_splice_100 : decode cX7_splice 100 = .ok (.iload 5, 2) := by decide +kernel
theorem dX7_splice_102 : decode cX7_splice 102 = .ok (.invokevirtual 85, 3) := by decide +kernel
theorem dX7_splice_105 : decode cX7_splice 105 = .ok (.iload 4, 2) := by decide +kernel
theorem dX7_splice_107 : decode cX7_splice 107 = .ok (.ireturn, 1) := by decide +kernel
theorem dX7_cut_0 : decode cX7_cut 0 = .ok (.aload_n 0, 1) := by decide +kernel
theorem dX7_cut_1 : decode cX7_cut 1 = .ok (.getfield 11, 3) := by decide +kernel
theorem dX7_cut_4 : decode cX7_cut 4 = .ok (.iload_n 1, 1) := by decide +kernel
theorem dX7_cut_5 : decode cX7_cut 5 = .ok (.aaload, 1) := by decide +kernel
theorem dX7_cut_6 : decode cX7_cut 6 = .ok (.astore 5, 2) := by decide +kernel
theorem dX7_cut_8 : decode cX7_cut 8 = .ok (.aload 5, 2) := by decide +kernel
theorem dX7_cut_10 : decode cX7_cut 10 = .ok (.iload_n 2, 1) := by decide +kernel
theorem dX7_cut_11 : decode cX7_cut 11 = .ok (.invokevirtual 89, 3) := by decide +kernel
theorem dX7_cut_14 : decode cX7_cut 14 = .ok (.istore 6, 2) := by decide +kernel
theorem dX7_cut_16 : decode cX7_cut 16 = .ok (.aload_n 0, 1) := by decide +kernel
theorem dX7_cut_17 : decode cX7_cut 17 = .ok (.aload 5, 2) := by decide +kernel
theorem dX7_cut_19 : decode cX7_cut 19 = .ok (.getfield 41, 3) := by decide +kernel
theorem dX7_cut_22 : decode cX7_cut 22 = .ok (.iconst 2, 1) := by decide +kernel
theorem dX7_cut_23 : decode cX7_cut 23 = .ok (.iload_n 3, 1) := by decide +kernel
theorem dX7_cut_24 : decode cX7_cut 24 = .ok (.iload 6, 2) := by decide +kernel
theorem dX7_cut_26 : decode cX7_cut 26 = .ok (.invokevirtual 72, 3) := by decide +kernel
theorem dX7_cut_29 : decode cX7_cut 29 = .ok (.aload 5, 2) := by decide +kernel
theorem dX7_cut_31 : decode cX7_cut 31 = .ok (.dup, 1) := by decide +kernel
theorem dX7_cut_32 : decode cX7_cut 32 = .ok (.getfield 59, 3) := by decide +kernel
theorem dX7_cut_35 : decode cX7_cut 35 = .ok (.iload 6, 2) := by decide +kernel
theorem dX7_cut_37 : decode cX7_cut 37 = .ok (.isub, 1) := by decide +kernel
theorem dX7_cut_38 : decode cX7_cut 38 = .ok (.putfield 59, 3) := by decide +kernel
theorem dX7_cut_41 : decode cX7_cut 41 = .ok (.aload 5, 2) := by decide +kernel
theorem dX7_cut_43 : decode cX7_cut 43 = .ok (.dup, 1) := by decide +kernel
theorem dX7_cut_44 : decode cX7_cut 44 = .ok (.getfield 50, 3) := by decide +kernel
theorem dX7_cut_47 : decode cX7_cut 47 = .ok (.iload_n 2, 1) := by decide +kernel
theorem dX7_cut_48 : decode cX7_cut 48 = .ok (.isub, 1) := by decide +kernel
theorem dX7_cut_49 : decode cX7_cut 49 = .ok (.putfield 50, 3) := by decide +kernel
theorem dX7_cut_52 : decode cX7_cut 52 = .ok (.aload 5, 2) := by decide +kernel
theorem dX7_cut_54 : decode cX7_cut 54 = .ok (.getfield 50, 3) := by decide +kernel
theorem dX7_cut_57 : decode cX7_cut 57 = .ok (.iload 4, 2) := by decide +kernel
theorem dX7_cut_59 : decode cX7_cut 59 = .ok (.if_icmp .ge 24, 3) := by decide +kernel
theorem dX7_cut_62 : decode cX7_cut 62 = .ok (.aload_n 0, 1) := by decide +kernel
theorem dX7_cut_63 : decode cX7_cut 63 = .ok (.aload 5, 2) := by decide +kernel
theorem dX7_cut_65 : decode cX7_cut 65 = .ok (.getfield 41, 3) := by decide +kernel
theorem dX7_cut_68 : decode cX7_cut 68 = .ok (.iconst 2, 1) := by decide +kernel
theorem dX7_cut_69 : decode cX7_cut 69 = .ok (.iconst 5, 1) := by decide +kernel
theorem dX7_cut_70 : decode cX7_cut 70 = .ok (.aload 5, 2) := by decide +kernel
theorem dX7_cut_72 : decode cX7_cut 72 = .ok (.getfield 59, 3) := by decide +kernel
theorem dX7_cut_75 : decode cX7_cut 75 = .ok (.invokevirtual 72, 3) := by decide +kernel
theorem dX7_cut_78 : decode cX7_cut 78 = .ok (.aload_n 0, 1) := by decide +kernel
theorem dX7_cut_79 : decode cX7_cut 79 = .ok (.iload_n 1, 1) := by decide +kernel
theorem dX7_cut_80 : decode cX7_cut 80 = .ok (.invokevirtual 85, 3) := by decide +kernel
theorem dX7_cut_83 : decode cX7_cut 83 = .ok (.return_, 1) := by decide +kernel
theorem dX7_cutFor_0 : decode cX7_cutFor 0 = .ok (.iconst 0, 1) := by decide +kernel
theorem dX7_cutFor_1 : decode cX7_cutFor 1 = .ok (.istore_n 3, 1) := by decide +kernel
theorem dX7_cutFor_2 : decode cX7_cutFor 2 = .ok (.iload_n 3, 1) := by decide +kernel
theorem dX7_cutFor_3 : decode cX7_cutFor 3 = .ok (.aload_n 1, 1) := by decide +kernel
theorem dX7_cutFor_4 : decode cX7_cutFor 4 = .ok (.getfield 92, 3) := by decide +kernel
theorem dX7_cutFor_7 : decode cX7_cutFor 7 = .ok (.if_icmp .ge 42, 3) := by decide +kernel
theorem dX7_cutFor_10 : decode cX7_cutFor 10 = .ok (.aload_n 0, 1) := by decide +kernel
theorem dX7_cutFor_11 : decode cX7_cutFor 11 = .ok (.aload_n 1, 1) := by decide +kernel
theorem dX7_cutFor_12 : decode cX7_cutFor 12 = .ok (.aload_n 2, 1) := by decide +kernel
theorem dX7_cutFor_13 : decode cX7_cutFor 13 = .ok (.invokevirtual 97, 3) := by decide +kernel
theorem dX7_cutFor_16 : decode cX7_cutFor 16 = .ok (.istore 4, 2) := by decide +kernel
theorem dX7_cutFor_18 : decode cX7_cutFor 18 = .ok (.iload 4, 2) := by decide +kernel
theorem dX7_cutFor_20 : decode cX7_cutFor 20 = .ok (.ifCond .ge 5, 3) := by decide +kernel
theorem dX7_cutFor_23 : decode cX7_cutFor 23 = .ok (.iload_n 3, 1) := by decide +kernel
theorem dX7_cutFor_24 : decode cX7_cutFor 24 = .ok (.ireturn, 1) := by decide +kernel
theorem dX7_cutFor_25 : decode cX7_cutFor 25 = .ok (.aload_n 0, 1) := by decide +kernel
theorem dX7_cutFor_26 : decode cX7_cutFor 26 = .ok (.iload 4, 2) := by decide +kernel
theorem dX7_cutFor_28 : decode cX7_cutFor 28 = .ok (.aload_n 1, 1) := by decide +kernel
theorem dX7_cutFor_29 : decode cX7_cutFor 29 = .ok (.getfield 101, 3) := by decide +kernel
theorem dX7_cutFor_32 : decode cX7_cutFor 32 = .ok (.iconst 3, 1) := by decide +kernel
theorem dX7_cutFor_33 : decode cX7_cutFor 33 = .ok (.aload_n 2, 1) := by decide +kernel
theorem dX7_cutFor_34 : decode cX7_cutFor 34 = .ok (.getfield 102, 3) := by decide +kernel
theorem dX7_cutFor_37 : decode cX7_cutFor 37 = .ok (.bipush 6, 2) := by decide +kernel
theorem dX7_cutFor_39 : decode cX7_cutFor 39 = .ok (.iaload, 1) := by decide +kernel
theorem dX7_cutFor_40 : decode cX7_cutFor 40 = .ok (.invokevirtual 106, 3) := by decide +kernel
theorem dX7_cutFor_43 : decode cX7_cutFor 43 = .ok (.iinc 3 1, 3) := by decide +kernel
theorem dX7_cutFor_46 : decode cX7_cutFor 46 = .ok (.goto (-44), 3) := by decide +kernel
theorem dX7_cutFor_49 : decode cX7_cutFor 49 = .ok (.aload_n 1, 1) := by decide +kernel
theorem dX7_cutFor_50 : decode cX7_cutFor 50 = .ok (.getfield 92, 3) := by decide +kernel
theorem dX7_cutFor_53 : decode cX7_cutFor 53 = .ok (.ireturn, 1) := by decide +kernel
theorem dX7_shortestFor_0 : decode cX7_shortestFor 0 = .ok (.bipush (-6), 2) := by decide +kernel
theorem dX7_shortestFor_2 : decode cX7_shortestFor 2 = .ok (.istore_n 3, 1) := by decide +kernel
theorem dX7_shortestFor_3 : decode cX7_shortestFor 3 = .ok (.iconst 0, 1) := by decide +kernel
theorem dX7_shortestFor_4 : decode cX7_shortestFor 4 = .ok (.istore 4, 2) := by decide +kernel
theorem dX7_shortestFor_6 : decode cX7_shortestFor 6 = .ok (.iload 4, 2) := by decide +kernel
theorem dX7_shortestFor_8 : decode cX7_shortestFor 8 = .ok (.aload_n 0, 1) := by decide +kernel
theorem dX7_shortestFor_9 : decode cX7_shortestFor 9 = .ok (.getfield 23, 3) := by decide +kernel
theorem dX7_shortestFor_12 : decode cX7_shortestFor 12 = .ok (.if_icmp .ge 53, 3) := by decide +kernel
theorem dX7_shortestFor_15 : decode cX7_shortestFor 15 = .ok (.aload_n 2, 1) := by decide +kernel
theorem dX7_shortestFor_16 : decode cX7_shortestFor 16 = .ok (.aload_n 0, 1) := by decide +kernel
theorem dX7_shortestFor_17 : decode cX7_shortestFor 17 = .ok (.getfield 11, 3) := by decide +kernel
theorem dX7_shortestFor_20 : decode cX7_shortestFor 20 = .ok (.iload 4, 2) := by decide +kernel
theorem dX7_shortestFor_22 : decode cX7_shortestFor 22 = .ok (.aaload, 1) := by decide +kernel
theorem dX7_shortestFor_23 : decode cX7_shortestFor 23 = .ok (.aload_n 1, 1) := by decide +kernel
theorem dX7_shortestFor_24 : decode cX7_shortestFor 24 = .ok (.invokevirtual 109, 3) := by decide +kernel
theorem dX7_shortestFor_27 : decode cX7_shortestFor 27 = .ok (.ifCond .eq 32, 3) := by decide +kernel
theorem dX7_shortestFor_30 : decode cX7_shortestFor 30 = .ok (.iload_n 3, 1) := by decide +kernel
theorem dX7_shortestFor_31 : decode cX7_shortestFor 31 = .ok (.ifCond .lt 25, 3) := by decide +kernel
theorem dX7_shortestFor_34 : decode cX7_shortestFor 34 = .ok (.aload_n 0, 1) := by decide +kernel
theorem dX7_shortestFor_35 : decode cX7_shortestFor 35 = .ok (.getfield 11, 3) := by decide +kernel
theorem dX7_shortestFor_38 : decode cX7_shortestFor 38 = .ok (.iload 4, 2) := by decide +kernel
theorem dX7_shortestFor_40 : decode cX7_shortestFor 40 = .ok (.aaload, 1) := by decide +kernel
theorem dX7_shortestFor_41 : decode cX7_shortestFor 41 = .ok (.getfield 50, 3) := by decide +kernel
theorem dX7_shortestFor_44 : decode cX7_shortestFor 44 = .ok (.aload_n 0, 1) := by decide +kernel
theorem dX7_shortestFor_45 : decode cX7_shortestFor 45 = .ok (.getfield 11, 3) := by decide +kernel
theorem dX7_shortestFor_48 : decode cX7_shortestFor 48 = .ok (.iload_n 3, 1) := by decide +kernel
theorem dX7_shortestFor_49 : decode cX7_shortestFor 49 = .ok (.aaload, 1) := by decide +kernel
theorem dX7_shortestFor_50 : decode cX7_shortestFor 50 = .ok (.getfield 50, 3) := by decide +kernel
theorem dX7_shortestFor_53 : decode cX7_shortestFor 53 = .ok (.if_icmp .ge 6, 3) := by decide +kernel
theorem dX7_shortestFor_56 : decode cX7_shortestFor 56 = .ok (.iload 4, 2) := by decide +kernel
theorem dX7_shortestFor_58 : decode cX7_shortestFor 58 = .ok (.istore_n 3, 1) := by decide +kernel
theorem dX7_shortestFor_59 : decode cX7_shortestFor 59 = .ok (.iinc 4 1, 3) := by decide +kernel
theorem dX7_shortestFor_62 : decode cX7_shortestFor 62 = .ok (.goto (-56), 3) := by decide +kernel
theorem dX7_shortestFor_65 : decode cX7_shortestFor 65 = .ok (.iload_n 3, 1) := by decide +kernel
theorem dX7_shortestFor_66 : decode cX7_shortestFor 66 = .ok (.ireturn, 1) := by decide +kernel
theorem dX7_suitingCount_0 : decode cX7_suitingCount 0 = .ok (.iconst 0, 1) := by decide +kernel
theorem dX7_suitingCount_1 : decode cX7_suitingCount 1 = .ok (.istore_n 3, 1) := by decide +kernel
theorem dX7_suitingCount_2 : decode cX7_suitingCount 2 = .ok (.iconst 0, 1) := by decide +kernel
theorem dX7_suitingCount_3 : decode cX7_suitingCount 3 = .ok (.istore 4, 2) := by decide +kernel
theorem dX7_suitingCount_5 : decode cX7_suitingCount 5 = .ok (.iload 4, 2) := by decide +kernel
theorem dX7_suitingCount_7 : decode cX7_suitingCount 7 = .ok (.aload_n 0, 1) := by decide +kernel
theorem dX7_suitingCount_8 : decode cX7_suitingCount 8 = .ok (.getfield 23, 3) := by decide +kernel
theorem dX7_suitingCount_11 : decode cX7_suitingCount 11 = .ok (.if_icmp .ge 27, 3) := by decide +kernel
theorem dX7_suitingCount_14 : decode cX7_suitingCount 14 = .ok (.aload_n 2, 1) := by decide +kernel
theorem dX7_suitingCount_15 : decode cX7_suitingCount 15 = .ok (.aload_n 0, 1) := by decide +kernel
theorem dX7_suitingCount_16 : decode cX7_suitingCount 16 = .ok (.getfield 11, 3) := by decide +kernel
theorem dX7_suitingCount_19 : decode cX7_suitingCount 19 = .ok (.iload 4, 2) := by decide +kernel
theorem dX7_suitingCount_21 : decode cX7_suitingCount 21 = .ok (.aaload, 1) := by decide +kernel
theorem dX7_suitingCount_22 : decode cX7_suitingCount 22 = .ok (.aload_n 1, 1) := by decide +kernel
theorem dX7_suitingCount_23 : decode cX7_suitingCount 23 = .ok (.invokevirtual 109, 3) := by decide +kernel
theorem dX7_suitingCount_26 : decode cX7_suitingCount 26 = .ok (.ifCond .eq 6, 3) := by decide +kernel
theorem dX7_suitingCount_29 : decode cX7_suitingCount 29 = .ok (.iinc 3 1, 3) := by decide +kernel
theorem dX7_suitingCount_32 : decode cX7_suitingCount 32 = .ok (.iinc 4 1, 3) := by decide +kernel
theorem dX7_suitingCount_35 : decode cX7_suitingCount 35 = .ok (.goto (-30), 3) := by decide +kernel
theorem dX7_suitingCount_38 : decode cX7_suitingCount 38 = .ok (.iload_n 3, 1) := by decide +kernel
theorem dX7_suitingCount_39 : decode cX7_suitingCount 39 = .ok (.ireturn, 1) := by decide +kernel
theorem dX8_init_0 : decode cX8_init 0 = .ok (.aload_n 0, 1) := by decide +kernel
theorem dX8_init_1 : decode cX8_init 1 = .ok (.invokespecial 3, 3) := by decide +kernel
theorem dX8_init_4 : decode cX8_init 4 = .ok (.aload_n 0, 1) := by decide +kernel
theorem dX8_init_5 : decode cX8_init 5 = .ok (.bipush 11, 2) := by decide +kernel
theorem dX8_init_7 : decode cX8_init 7 = .ok (.anewarray 11, 3) := by decide +kernel
theorem dX8_init_10 : decode cX8_init 10 = .ok (.putfield 13, 3) := by decide +kernel
theorem dX8_init_13 : decode cX8_init 13 = .ok (.iconst 0, 1) := by decide +kernel
theorem dX8_init_14 : decode cX8_init 14 = .ok (.istore_n 1, 1) := by decide +kernel
theorem dX8_init_15 : decode cX8_init 15 = .ok (.iload_n 1, 1) := by decide +kernel
theorem dX8_init_16 : decode cX8_init 16 = .ok (.bipush 10, 2) := by decide +kernel
theorem dX8_init_18 : decode cX8_init 18 = .ok (.if_icmp .gt 22, 3) := by decide +kernel
theorem dX8_init_21 : decode cX8_init 21 = .ok (.aload_n 0, 1) := by decide +kernel
theorem dX8_init_22 : decode cX8_init 22 = .ok (.getfield 13, 3) := by decide +kernel
theorem dX8_init_25 : decode cX8_init 25 = .ok (.iload_n 1, 1) := by decide +kernel
theorem dX8_init_26 : decode cX8_init 26 = .ok (.new 11, 3) := by decide +kernel
theorem dX8_init_29 : decode cX8_init 29 = .ok (.dup, 1) := by decide +kernel
theorem dX8_init_30 : decode cX8_init 30 = .ok (.invokespecial 17, 3) := by decide +kernel
theorem dX8_init_33 : decode cX8_init 33 = .ok (.aastore, 1) := by decide +kernel
theorem dX8_init_34 : decode cX8_init 34 = .ok (.iinc 1 1, 3) := by decide +kernel
theorem dX8_init_37 : decode cX8_init 37 = .ok (.goto (-22), 3) := by decide +kernel
theorem dX8_init_40 : decode cX8_init 40 = .ok (.return_, 1) := by decide +kernel
theorem dX8_fillOne_0 : decode cX8_fillOne 0 = .ok (.aload_n 0, 1) := by decide +kernel
theorem dX8_fillOne_1 : decode cX8_fillOne 1 = .ok (.getfield 13, 3) := by decide +kernel
theorem dX8_fillOne_4 : decode cX8_fillOne 4 = .ok (.iconst 0, 1) := by decide +kernel
theorem dX8_fillOne_5 : decode cX8_fillOne 5 = .ok (.aaload, 1) := by decide +kernel
theorem dX8_fillOne_6 : decode cX8_fillOne 6 = .ok (.astore 4, 2) := by decide +kernel
theorem dX8_fillOne_8 : decode cX8_fillOne 8 = .ok (.aload 4, 2) := by decide +kernel
theorem dX8_fillOne_10 : decode cX8_fillOne 10 = .ok (.aload_n 1, 1) := by decide +kernel
theorem dX8_fillOne_11 : decode cX8_fillOne 11 = .ok (.getfield 18, 3) := by decide +kernel
theorem dX8_fillOne_14 : decode cX8_fillOne 14 = .ok (.invokevirtual 24, 3) := by decide +kernel
theorem dX8_fillOne_17 : decode cX8_fillOne 17 = .ok (.aload_n 1, 1) := by decide +kernel
theorem dX8_fillOne_18 : decode cX8_fillOne 18 = .ok (.getfield 28, 3) := by decide +kernel
theorem dX8_fillOne_21 : decode cX8_fillOne 21 = .ok (.getfield 32, 3) := by decide +kernel
theorem dX8_fillOne_24 : decode cX8_fillOne 24 = .ok (.iload_n 2, 1) := by decide +kernel
theorem dX8_fillOne_25 : decode cX8_fillOne 25 = .ok (.aaload, 1) := by decide +kernel
theorem dX8_fillOne_26 : decode cX8_fillOne 26 = .ok (.astore 5, 2) := by decide +kernel
theorem dX8_fillOne_28 : decode cX8_fillOne 28 = .ok (.aload 4, 2) := by decide +kernel
theorem dX8_fillOne_30 : decode cX8_fillOne 30 = .ok (.aload 5, 2) := by decide +kernel
theorem dX8_fillOne_32 : decode cX8_fillOne 32 = .ok (.aload_n 1, 1) := by decide +kernel
theorem dX8_fillOne_33 : decode cX8_fillOne 33 = .ok (.getfield 38, 3) := by decide +kernel
theorem dX8_fillOne_36 : decode cX8_fillOne 36 = .ok (.invokevirtual 42, 3) := by decide +kernel
theorem dX8_fillOne_39 : decode cX8_fillOne 39 = .ok (.istore 6, 2) := by decide +kernel
theorem dX8_fillOne_41 : decode cX8_fillOne 41 = .ok (.iload_n 3, 1) := by decide +kernel
theorem dX8_fillOne_42 : decode cX8_fillOne 42 = .ok (.tableswitch 65 0 2 #[26, 29, 59], 26) := by decide +kernel
theorem dX8_fillOne_68 : decode cX8_fillOne 68 = .ok (.iload 6, 2) := by decide +kernel
theorem dX8_fillOne_70 : decode cX8_fillOne 70 = .ok (.ireturn, 1) := by decide +kernel
theorem dX8_fillOne_71 : decode cX8_fillOne 71 = .ok (.aload 4, 2) := by decide +kernel
theorem dX8_fillOne_73 : decode cX8_fillOne 73 = .ok (.getfield 46, 3) := by decide +kernel
theorem dX8_fillOne_76 : decode cX8_fillOne 76 = .ok (.aload 5, 2) := by decide +kernel
theorem dX8_fillOne_78 : decode cX8_fillOne 78 = .ok (.getfield 50, 3) := by decide +kernel
theorem dX8_fillOne_81 : decode cX8_fillOne 81 = .ok (.aaload, 1) := by decide +kernel
theorem dX8_fillOne_82 : decode cX8_fillOne 82 = .ok (.iconst 5, 1) := by decide +kernel
theorem dX8_fillOne_83 : decode cX8_fillOne 83 = .ok (.iaload, 1) := by decide +kernel
theorem dX8_fillOne_84 : decode cX8_fillOne 84 = .ok (.aload_n 1, 1) := by decide +kernel
theorem dX8_fillOne_85 : decode cX8_fillOne 85 = .ok (.getfield 18, 3) := by decide +kernel
theorem dX8_fillOne_88 : decode cX8_fillOne 88 = .ok (.getfield 46, 3) := by decide +kernel
theorem dX8_fillOne_91 : decode cX8_fillOne 91 = .ok (.aload 5, 2) := by decide +kernel
theorem dX8_fillOne_93 : decode cX8_fillOne 93 = .ok (.getfield 50, 3) := by decide +kernel
theorem dX8_fillOne_96 : decode cX8_fillOne 96 = .ok (.aaload, 1) := by decide +kernel
theorem dX8_fillOne_97 : decode cX8_fillOne 97 = .ok (.iconst 5, 1) := by decide +kernel
theorem dX8_fillOne_98 : decode cX8_fillOne 98 = .ok (.iaload, 1) := by decide +kernel
theorem dX8_fillOne_99 : decode cX8_fillOne 99 = .ok (.isub, 1) := by decide +kernel
theorem dX8_fillOne_100 : decode cX8_fillOne 100 = .ok (.ireturn, 1) := by decide +kernel
theorem dX8_fillOne_101 : decode cX8_fillOne 101 = .ok (.aload 4, 2) := by decide +kernel
theorem dX8_fillOne_103 : decode cX8_fillOne 103 = .ok (.getfield 56, 3) := by decide +kernel
theorem dX8_fillOne_106 : decode cX8_fillOne 106 = .ok (.ireturn, 1) := by decide +kernel
theorem dX8_fillOne_107 : decode cX8_fillOne 107 = .ok (.bipush (-2), 2) := by decide +kernel
theorem dX8_fillOne_109 : decode cX8_fillOne 109 = .ok (.ireturn, 1) := by decide +kernel
theorem dX9_init_0 : decode cX9_init 0 = .ok (.aload_n 0, 1) := by decide +kernel
theorem dX9_init_1 : decode cX9_init 1 = .ok (.invokespecial 3, 3) := by decide +kernel
theorem dX9_init_4 : decode cX9_init 4 = .ok (.aload_n 0, 1) := by decide +kernel
theorem dX9_init_5 : decode cX9_init 5 = .ok (.new 9, 3) := by decide +kernel
theorem dX9_init_8 : decode cX9_init 8 = .ok (.dup, 1) := by decide +kernel
theorem dX9_init_9 : decode cX9_init 9 = .ok (.invokespecial 11, 3) := by decide +kernel
theorem dX9_init_12 : decode cX9_init 12 = .ok (.putfield 12, 3) := by decide +kernel
theorem dX9_init_15 : decode cX9_init 15 = .ok (.aload_n 0, 1) := by decide +kernel
theorem dX9_init_16 : decode cX9_init 16 = .ok (.new 18, 3) := by decide +kernel
theorem dX9_init_19 : decode cX9_init 19 = .ok (.dup, 1) := by decide +kernel
theorem dX9_init_20 : decode cX9_init 20 = .ok (.invokespecial 20, 3) := by decide +kernel
theorem dX9_init_23 : decode cX9_init 23 = .ok (.putfield 21, 3) := by decide +kernel
theorem dX9_init_26 : decode cX9_init 26 = .ok (.aload_n 0, 1) := by decide +kernel
theorem dX9_init_27 : decode cX9_init 27 = .ok (.new 25, 3) := by decide +kernel
theorem dX9_init_30 : decode cX9_init 30 = .ok (.dup, 1) := by decide +kernel
theorem dX9_init_31 : decode cX9_init 31 = .ok (.invokespecial 27, 3) := by decide +kernel
theorem dX9_init_34 : decode cX9_init 34 = .ok (.putfield 28, 3) := by decide +kernel
theorem dX9_init_37 : decode cX9_init 37 = .ok (.return_, 1) := by decide +kernel
theorem dX9_copyFrom_0 : decode cX9_copyFrom 0 = .ok (.aload_n 0, 1) := by decide +kernel
theorem dX9_copyFrom_1 : decode cX9_copyFrom 1 = .ok (.getfield 12, 3) := by decide +kernel
theorem dX9_copyFrom_4 : decode cX9_copyFrom 4 = .ok (.aload_n 1, 1) := by decide +kernel
theorem dX9_copyFrom_5 : decode cX9_copyFrom 5 = .ok (.getfield 12, 3) := by decide +kernel
theorem dX9_copyFrom_8 : decode cX9_copyFrom 8 = .ok (.invokevirtual 32, 3) := by decide +kernel
theorem dX9_copyFrom_11 : decode cX9_copyFrom 11 = .ok (.aload_n 0, 1) := by decide +kernel
theorem dX9_copyFrom_12 : decode cX9_copyFrom 12 = .ok (.getfield 21, 3) := by decide +kernel
theorem dX9_copyFrom_15 : decode cX9_copyFrom 15 = .ok (.aload_n 1, 1) := by decide +kernel
theorem dX9_copyFrom_16 : decode cX9_copyFrom 16 = .ok (.getfield 21, 3) := by decide +kernel
theorem dX9_copyFrom_19 : decode cX9_copyFrom 19 = .ok (.invokevirtual 36, 3) := by decide +kernel
theorem dX9_copyFrom_22 : decode cX9_copyFrom 22 = .ok (.aload_n 0, 1) := by decide +kernel
theorem dX9_copyFrom_23 : decode cX9_copyFrom 23 = .ok (.getfield 28, 3) := by decide +kernel
theorem dX9_copyFrom_26 : decode cX9_copyFrom 26 = .ok (.aload_n 1, 1) := by decide +kernel
theorem dX9_copyFrom_27 : decode cX9_copyFrom 27 = .ok (.getfield 28, 3) := by decide +kernel
theorem dX9_copyFrom_30 : decode cX9_copyFrom 30 = .ok (.invokevirtual 39, 3) := by decide +kernel
theorem dX9_copyFrom_33 : decode cX9_copyFrom 33 = .ok (.aload_n 0, 1) := by decide +kernel
theorem dX9_copyFrom_34 : decode cX9_copyFrom 34 = .ok (.aload_n 1, 1) := by decide +kernel
theorem dX9_copyFrom_35 : decode cX9_copyFrom 35 = .ok (.getfield 42, 3) := by decide +kernel
theorem dX9_copyFrom_38 : decode cX9_copyFrom 38 = .ok (.putfield 42, 3) := by decide +kernel
theorem dX9_copyFrom_41 : decode cX9_copyFrom 41 = .ok (.aload_n 0, 1) := by decide +kernel
theorem dX9_copyFrom_42 : decode cX9_copyFrom 42 = .ok (.aload_n 1, 1) := by decide +kernel
theorem dX9_copyFrom_43 : decode cX9_copyFrom 43 = .ok (.getfield 46, 3) := by decide +kernel
theorem dX9_copyFrom_46 : decode cX9_copyFrom 46 = .ok (.putfield 46, 3) := by decide +kernel
theorem dX9_copyFrom_49 : decode cX9_copyFrom 49 = .ok (.aload_n 0, 1) := by decide +kernel
theorem dX9_copyFrom_50 : decode cX9_copyFrom 50 = .ok (.aload_n 1, 1) := by decide +kernel
theorem dX9_copyFrom_51 : decode cX9_copyFrom 51 = .ok (.getfield 49, 3) := by decide +kernel
theorem dX9_copyFrom_54 : decode cX9_copyFrom 54 = .ok (.putfield 49, 3) := by decide +kernel
theorem dX9_copyFrom_57 : decode cX9_copyFrom 57 = .ok (.aload_n 0, 1) := by decide +kernel
theorem dX9_copyFrom_58 : decode cX9_copyFrom 58 = .ok (.aload_n 1, 1) := by decide +kernel
theorem dX9_copyFrom_59 : decode cX9_copyFrom 59 = .ok (.getfield 52, 3) := by decide +kernel
theorem dX9_copyFrom_62 : decode cX9_copyFrom 62 = .ok (.putfield 52, 3) := by decide +kernel
theorem dX9_copyFrom_65 : decode cX9_copyFrom 65 = .ok (.aload_n 0, 1) := by decide +kernel
theorem dX9_copyFrom_66 : decode cX9_copyFrom 66 = .ok (.aload_n 1, 1) := by decide +kernel
theorem dX9_copyFrom_67 : decode cX9_copyFrom 67 = .ok (.getfield 55, 3) := by decide +kernel
theorem dX9_copyFrom_70 : decode cX9_copyFrom 70 = .ok (.putfield 55, 3) := by decide +kernel
theorem dX9_copyFrom_73 : decode cX9_copyFrom 73 = .ok (.return_, 1) := by decide +kernel
theorem dX9_changeSetting_0 : decode cX9_changeSetting 0 = .ok (.iload_n 1, 1) := by decide +kernel
theorem dX9_changeSetting_1 : decode cX9_changeSetting 1 = .ok (.iconst 0, 1) := by decide +kernel
theorem dX9_changeSetting_2 : decode cX9_changeSetting 2 = .ok (.bipush 9, 2) := by decide +kernel
theorem dX9_changeSetting_4 : decode cX9_changeSetting 4 = .ok (.invokestatic 58, 3) := by decide +kernel
theorem dX9_changeSetting_7 : decode cX9_changeSetting 7 = .ok (.ifCond .eq 20, 3) := by decide +kernel
theorem dX9_changeSetting_10 : decode cX9_changeSetting 10 = .ok (.iload_n 2, 1) := by decide +kernel
theorem dX9_changeSetting_11 : decode cX9_changeSetting 11 = .ok (.getstatic 62, 3) := by decide +kernel
theorem dX9_changeSetting_14 : decode cX9_changeSetting 14 = .ok (.iload_n 1, 1) := by decide +kernel
theorem dX9_changeSetting_15 : decode cX9_changeSetting 15 = .ok (.iaload, 1) := by decide +kernel
theorem dX9_changeSetting_16 : decode cX9_changeSetting 16 = .ok (.getstatic 66, 3) := by decide +kernel
theorem dX9_changeSetting_19 : decode cX9_changeSetting 19 = .ok (.iload_n 1, 1) := by decide +kernel
theorem dX9_changeSetting_20 : decode cX9_changeSetting 20 = .ok (.iaload, 1) := by decide +kernel
theorem dX9_changeSetting_21 : decode cX9_changeSetting 21 = .ok (.invokestatic 58, 3) := by decide +kernel
theorem dX9_changeSetting_24 : decode cX9_changeSetting 24 = .ok (.ifCond .ne 6, 3) := by decide +kernel
theorem dX9_changeSetting_27 : decode cX9_changeSetting 27 = .ok (.bipush (-2), 2) := by decide +kernel
theorem dX9_changeSetting_29 : decode cX9_changeSetting 29 = .ok (.ireturn, 1) := by decide +kernel
theorem dX9_changeSetting_30 : decode cX9_changeSetting 30 = .ok (.aload_n 0, 1) := by decide +kernel
theorem dX9_changeSetting_31 : decode cX9_changeSetting 31 = .ok (.getfield 12, 3) := by decide +kernel
theorem dX9_changeSetting_34 : decode cX9_changeSetting 34 = .ok (.getfield 69, 3) := by decide +kernel
theorem dX9_changeSetting_37 : decode cX9_changeSetting 37 = .ok (.iload_n 1, 1) := by decide +kernel
theorem dX9_changeSetting_38 : decode cX9_changeSetting 38 = .ok (.iaload, 1) := by decide +kernel
theorem dX9_changeSetting_39 : decode cX9_changeSetting 39 = .ok (.istore_n 3, 1) := by decide +kernel
theorem dX9_changeSetting_40 : decode cX9_changeSetting 40 = .ok (.aload_n 0, 1) := by decide +kernel
theorem dX9_changeSetting_41 : decode cX9_changeSetting 41 = .ok (.getfield 12, 3) := by decide +kernel
theorem dX9_changeSetting_44 : decode cX9_changeSetting 44 = .ok (.getfield 69, 3) := by decide +kernel
theorem dX9_changeSetting_47 : decode cX9_changeSetting 47 = .ok (.iload_n 1, 1) := by decide +kernel
theorem dX9_changeSetting_48 : decode cX9_changeSetting 48 = .ok (.iload_n 2, 1) := by decide +kernel
theorem dX9_changeSetting_49 : decode cX9_changeSetting 49 = .ok (.iastore, 1) := by decide +kernel
theorem dX9_changeSetting_50 : decode cX9_changeSetting 50 = .ok (.iload_n 3, 1) := by decide +kernel
theorem dX9_changeSetting_51 : decode cX9_changeSetting 51 = .ok (.ireturn, 1) := by decide +kernel
theorem dX9_changeFibre_0 : decode cX9_changeFibre 0 = .ok (.iload_n 1, 1) := by decide +kernel
theorem dX9_changeFibre_1 : decode cX9_changeFibre 1 = .ok (.invokestatic 72, 3) := by decide +kernel
theorem dX9_changeFibre_4 : decode cX9_changeFibre 4 = .ok (.ifCond .ne 5, 3) := by decide +kernel
theorem dX9_changeFibre_7 : decode cX9_changeFibre 7 = .ok (.iconst (-1), 1) := by decide +kernel
theorem dX9_changeFibre_8 : decode cX9_changeFibre 8 = .ok (.ireturn, 1) := by decide +kernel
theorem dX9_changeFibre_9 : decode cX9_changeFibre 9 = .ok (.iload_n 2, 1) := by decide +kernel
theorem dX9_changeFibre_10 : decode cX9_changeFibre 10 = .ok (.iconst 1, 1) := by decide +kernel
theorem dX9_changeFibre_11 : decode cX9_changeFibre 11 = .ok (.sipush 200, 3) := by decide +kernel
theorem dX9_changeFibre_14 : decode cX9_changeFibre 14 = .ok (.invokestatic 58, 3) := by decide +kernel
theorem dX9_changeFibre_17 : decode cX9_changeFibre 17 = .ok (.ifCond .eq 14, 3) := by decide +kernel
theorem dX9_changeFibre_20 : decode cX9_changeFibre 20 = .ok (.iload_n 3, 1) := by decide +kernel
theorem dX9_changeFibre_21 : decode cX9_changeFibre 21 = .ok (.bipush 10, 2) := by decide +kernel
theorem dX9_changeFibre_23 : decode cX9_changeFibre 23 = .ok (.bipush 60, 2) := by decide +kernel
theorem dX9_changeFibre_25 : decode cX9_changeFibre 25 = .ok (.invokestatic 58, 3) := by decide +kernel
theorem dX9_changeFibre_28 : decode cX9_changeFibre 28 = .ok (.ifCond .ne 6, 3) := by decide +kernel
theorem dX9_changeFibre_31 : decode cX9_changeFibre 31 = .ok (.bipush (-2), 2) := by decide +kernel
theorem dX9_changeFibre_33 : decode cX9_changeFibre 33 = .ok (.ireturn, 1) := by decide +kernel
theorem dX9_changeFibre_34 : decode cX9_changeFibre 34 = .ok (.bipush 100, 2) := by decide +kernel
theorem dX9_changeFibre_36 : decode cX9_changeFibre 36 = .ok (.aload_n 0, 1) := by decide +kernel
theorem dX9_changeFibre_37 : decode cX9_changeFibre 37 = .ok (.getfield 12, 3) := by decide +kernel
theorem dX9_changeFibre_40 : decode cX9_changeFibre 40 = .ok (.getfield 76, 3) := by decide +kernel
theorem dX9_changeFibre_43 : decode cX9_changeFibre 43 = .ok (.iload_n 1, 1) := by decide +kernel
theorem dX9_changeFibre_44 : decode cX9_changeFibre 44 = .ok (.iaload, 1) := by decide +kernel
theorem dX9_changeFibre_45 : decode cX9_changeFibre 45 = .ok (.imul, 1) := by decide +kernel
theorem dX9_changeFibre_46 : decode cX9_changeFibre 46 = .ok (.aload_n 0, 1) := by decide +kernel
theorem dX9_changeFibre_47 : decode cX9_changeFibre 47 = .ok (.getfield 12, 3) := by decide +kernel
theorem dX9_changeFibre_50 : decode cX9_changeFibre 50 = .ok (.getfield 79, 3) := by decide +kernel
theorem dX9_changeFibre_53 : decode cX9_changeFibre 53 = .ok (.iload_n 1, 1) := by decide +kernel
theorem dX9_changeFibre_54 : decode cX9_changeFibre 54 = .ok (.iaload, 1) := by decide +kernel
theorem dX9_changeFibre_55 : decode cX9_changeFibre 55 = .ok (.iadd, 1) := by decide +kernel
theorem dX9_changeFibre_56 : decode cX9_changeFibre 56 = .ok (.istore 4, 2) := by decide +kernel
theorem dX9_changeFibre_58 : decode cX9_changeFibre 58 = .ok (.aload_n 0, 1) := by decide +kernel
theorem dX9_changeFibre_59 : decode cX9_changeFibre 59 = .ok (.getfield 12, 3) := by decide +kernel
theorem dX9_changeFibre_62 : decode cX9_changeFibre 62 = .ok (.getfield 76, 3) := by decide +kernel
theorem dX9_changeFibre_65 : decode cX9_changeFibre 65 = .ok (.iload_n 1, 1) := by decide +kernel
theorem dX9_changeFibre_66 : decode cX9_changeFibre 66 = .ok (.iload_n 2, 1) := by decide +kernel
theorem dX9_changeFibre_67 : decode cX9_changeFibre 67 = .ok (.iastore, 1) := by decide +kernel
theorem dX9_changeFibre_68 : decode cX9_changeFibre 68 = .ok (.aload_n 0, 1) := by decide +kernel
theorem dX9_changeFibre_69 : decode cX9_changeFibre 69 = .ok (.getfield 12, 3) := by decide +kernel
theorem dX9_changeFibre_72 : decode cX9_changeFibre 72 = .ok (.getfield 79, 3) := by decide +kernel
theorem dX9_changeFibre_75 : decode cX9_changeFibre 75 = .ok (.iload_n 1, 1) := by decide +kernel
theorem dX9_changeFibre_76 : decode cX9_changeFibre 76 = .ok (.iload_n 3, 1) := by decide +kernel
theorem dX9_changeFibre_77 : decode cX9_changeFibre 77 = .ok (.iastore, 1) := by decide +kernel
theorem dX9_changeFibre_78 : decode cX9_changeFibre 78 = .ok (.iload 4, 2) := by decide +kernel
theorem dX9_changeFibre_80 : decode cX9_changeFibre 80 = .ok (.ireturn, 1) := by decide +kernel
theorem dX9_spinYarn_0 : decode cX9_spinYarn 0 = .ok (.iload_n 1, 1) := by decide +kernel
theorem dX9_spinYarn_1 : decode cX9_spinYarn 1 = .ok (.invokestatic 72, 3) := by decide +kernel
theorem dX9_spinYarn_4 : decode cX9_spinYarn 4 = .ok (.ifCond .ne 5, 3) := by decide +kernel
theorem dX9_spinYarn_7 : decode cX9_spinYarn 7 = .ok (.iconst (-1), 1) := by decide +kernel
theorem dX9_spinYarn_8 : decode cX9_spinYarn 8 = .ok (.ireturn, 1) := by decide +kernel
theorem dX9_spinYarn_9 : decode cX9_spinYarn 9 = .ok (.iload_n 2, 1) := by decide +kernel
theorem dX9_spinYarn_10 : decode cX9_spinYarn 10 = .ok (.iconst 1, 1) := by decide +kernel
theorem dX9_spinYarn_11 : decode cX9_spinYarn 11 = .ok (.ldc 82, 2) := by decide +kernel
theorem dX9_spinYarn_13 : decode cX9_spinYarn 13 = .ok (.invokestatic 58, 3) := by decide +kernel
theorem dX9_spinYarn_16 : decode cX9_spinYarn 16 = .ok (.ifCond .ne 6, 3) := by decide +kernel
theorem dX9_spinYarn_19 : decode cX9_spinYarn 19 = .ok (.bipush (-2), 2) := by decide +kernel
theorem dX9_spinYarn_21 : decode cX9_spinYarn 21 = .ok (.ireturn, 1) := by decide +kernel
theorem dX9_spinYarn_22 : decode cX9_spinYarn 22 = .ok (.aload_n 0, 1) := by decide +kernel
theorem dX9_spinYarn_23 : decode cX9_spinYarn 23 = .ok (.getfield 21, 3) := by decide +kernel
theorem dX9_spinYarn_26 : decode cX9_spinYarn 26 = .ok (.getfield 83, 3) := by decide +kernel
theorem dX9_spinYarn_29 : decode cX9_spinYarn 29 = .ok (.iload_n 1, 1) := by decide +kernel
theorem dX9_spinYarn_30 : decode cX9_spinYarn 30 = .ok (.aaload, 1) := by decide +kernel
theorem dX9_spinYarn_31 : decode cX9_spinYarn 31 = .ok (.iconst 1, 1) := by decide +kernel
theorem dX9_spinYarn_32 : decode cX9_spinYarn 32 = .ok (.iaload, 1) := by decide +kernel
theorem dX9_spinYarn_33 : decode cX9_spinYarn 33 = .ok (.iload_n 2, 1) := by decide +kernel
theorem dX9_spinYarn_34 : decode cX9_spinYarn 34 = .ok (.iadd, 1) := by decide +kernel
theorem dX9_spinYarn_35 : decode cX9_spinYarn 35 = .ok (.ldc 87, 2) := by decide +kernel
theorem dX9_spinYarn_37 : decode cX9_spinYarn 37 = .ok (.if_icmp .le 6, 3) := by decide +kernel
theorem dX9_spinYarn_40 : decode cX9_spinYarn 40 = .ok (.bipush (-5), 2) := by decide +kernel
theorem dX9_spinYarn_42 : decode cX9_spinYarn 42 = .ok (.ireturn, 1) := by decide +kernel
theorem dX9_spinYarn_43 : decode cX9_spinYarn 43 = .ok (.aload_n 0, 1) := by decide +kernel
theorem dX9_spinYarn_44 : decode cX9_spinYarn 44 = .ok (.getfield 21, 3) := by decide +kernel
theorem dX9_spinYarn_47 : decode cX9_spinYarn 47 = .ok (.iload_n 1, 1) := by decide +kernel
theorem dX9_spinYarn_48 : decode cX9_spinYarn 48 = .ok (.iload_n 2, 1) := by decide +kernel
theorem dX9_spinYarn_49 : decode cX9_spinYarn 49 = .ok (.invokevirtual 88, 3) := by decide +kernel
theorem dX9_spinYarn_52 : decode cX9_spinYarn 52 = .ok (.ireturn, 1) := by decide +kernel
theorem dX9_layRope_0 : decode cX9_layRope 0 = .ok (.iload_n 1, 1) := by decide +kernel
theorem dX9_layRope_1 : decode cX9_layRope 1 = .ok (.invokestatic 72, 3) := by decide +kernel
theorem dX9_layRope_4 : decode cX9_layRope 4 = .ok (.ifCond .ne 5, 3) := by decide +kernel
theorem dX9_layRope_7 : decode cX9_layRope 7 = .ok (.iconst (-1), 1) := by decide +kernel
theorem dX9_layRope_8 : decode cX9_layRope 8 = .ok (.ireturn, 1) := by decide +kernel
theorem dX9_layRope_9 : decode cX9_layRope 9 = .ok (.iload_n 2, 1) := by decide +kernel
theorem dX9_layRope_10 : decode cX9_layRope 10 = .ok (.iload_n 3, 1) := by decide +kernel
theorem dX9_layRope_11 : decode cX9_layRope 11 = .ok (.invokestatic 92, 3) := by decide +kernel
theorem dX9_layRope_14 : decode cX9_layRope 14 = .ok (.ifCond .eq 15, 3) := by decide +kernel
theorem dX9_layRope_17 : decode cX9_layRope 17 = .ok (.iload 4, 2) := by decide +kernel
theorem dX9_layRope_19 : decode cX9_layRope 19 = .ok (.iconst 1, 1) := by decide +kernel
theorem dX9_layRope_20 : decode cX9_layRope 20 = .ok (.sipush 2000, 3) := by decide +kernel
theorem dX9_layRope_23 : decode cX9_layRope 23 = .ok (.invokestatic 58, 3) := by decide +kernel
theorem dX9_layRope_26 : decode cX9_layRope 26 = .ok (.ifCond .ne 6, 3) := by decide +kernel
theorem dX9_layRope_29 : decode cX9_layRope 29 = .ok (.bipush (-2), 2) := by decide +kernel
theorem dX9_layRope_31 : decode cX9_layRope 31 = .ok (.ireturn, 1) := by decide +kernel
theorem dX9_layRope_32 : decode cX9_layRope 32 = .ok (.aload_n 0, 1) := by decide +kernel
theorem dX9_layRope_33 : decode cX9_layRope 33 = .ok (.getfield 21, 3) := by decide +kernel
theorem dX9_layRope_36 : decode cX9_layRope 36 = .ok (.invokevirtual 96, 3) := by decide +kernel
theorem dX9_layRope_39 : decode cX9_layRope 39 = .ok (.ifCond .eq 6, 3) := by decide +kernel
theorem dX9_layRope_42 : decode cX9_layRope 42 = .ok (.bipush (-4), 2) := by decide +kernel
theorem dX9_layRope_44 : decode cX9_layRope 44 = .ok (.ireturn, 1) := by decide +kernel
theorem dX9_layRope_45 : decode cX9_layRope 45 = .ok (.aload_n 0, 1) := by decide +kernel
theorem dX9_layRope_46 : decode cX9_layRope 46 = .ok (.iload_n 1, 1) := by decide +kernel
theorem dX9_layRope_47 : decode cX9_layRope 47 = .ok (.iload_n 2, 1) := by decide +kernel
theorem dX9_layRope_48 : decode cX9_layRope 48 = .ok (.iload_n 3, 1) := by decide +kernel
theorem dX9_layRope_49 : decode cX9_layRope 49 = .ok (.iload 4, 2) := by decide +kernel
theorem dX9_layRope_51 : decode cX9_layRope 51 = .ok (.invokevirtual 100, 3) := by decide +kernel
theorem dX9_layRope_54 : decode cX9_layRope 54 = .ok (.ifCond .ne 6, 3) := by decide +kernel
theorem dX9_layRope_57 : decode cX9_layRope 57 = .ok (.bipush (-5), 2) := by decide +kernel
theorem dX9_layRope_59 : decode cX9_layRope 59 = .ok (.ireturn, 1) := by decide +kernel
theorem dX9_layRope_60 : decode cX9_layRope 60 = .ok (.aload_n 0, 1) := by decide +kernel
theorem dX9_layRope_61 : decode cX9_layRope 61 = .ok (.dup, 1) := by decide +kernel
theorem dX9_layRope_62 : decode cX9_layRope 62 = .ok (.getfield 46, 3) := by decide +kernel
theorem dX9_layRope_65 : decode cX9_layRope 65 = .ok (.aload_n 0, 1) := by decide +kernel
theorem dX9_layRope_66 : decode cX9_layRope 66 = .ok (.getfield 12, 3) := by decide +kernel
theorem dX9_layRope_69 : decode cX9_layRope 69 = .ok (.iload_n 2, 1) := by decide +kernel
theorem dX9_layRope_70 : decode cX9_layRope 70 = .ok (.iload 4, 2) := by decide +kernel
theorem dX9_layRope_72 : decode cX9_layRope 72 = .ok (.invokevirtual 104, 3) := by decide +kernel
theorem dX9_layRope_75 : decode cX9_layRope 75 = .ok (.iadd, 1) := by decide +kernel
theorem dX9_layRope_76 : decode cX9_layRope 76 = .ok (.putfield 46, 3) := by decide +kernel
theorem dX9_layRope_79 : decode cX9_layRope 79 = .ok (.aload_n 0, 1) := by decide +kernel
theorem dX9_layRope_80 : decode cX9_layRope 80 = .ok (.getfield 21, 3) := by decide +kernel
theorem dX9_layRope_83 : decode cX9_layRope 83 = .ok (.iload_n 1, 1) := by decide +kernel
theorem dX9_layRope_84 : decode cX9_layRope 84 = .ok (.iload_n 2, 1) := by decide +kernel
theorem dX9_layRope_85 : decode cX9_layRope 85 = .ok (.iload_n 3, 1) := by decide +kernel
theorem dX9_layRope_86 : decode cX9_layRope 86 = .ok (.iload 4, 2) := by decide +kernel
theorem dX9_layRope_88 : decode cX9_layRope 88 = .ok (.aload_n 0, 1) := by decide +kernel
theorem dX9_layRope_89 : decode cX9_layRope 89 = .ok (.getfield 12, 3) := by decide +kernel
theorem dX9_layRope_92 : decode cX9_layRope 92 = .ok (.invokevirtual 107, 3) := by decide +kernel
theorem dX9_layRope_95 : decode cX9_layRope 95 = .ok (.ireturn, 1) := by decide +kernel
theorem dX9_canLay_0 : decode cX9_canLay 0 = .ok (.aload_n 0, 1) := by decide +kernel
theorem dX9_canLay_1 : decode cX9_canLay 1 = .ok (.getfield 12, 3) := by decide +kernel
theorem dX9_canLay_4 : decode cX9_canLay 4 = .ok (.iload 4, 2) := by decide +kernel
theorem dX9_canLay_6 : decode cX9_canLay 6 = .ok (.invokevirtual 111, 3) := by decide +kernel
theorem dX9_canLay_9 : decode cX9_canLay 9 = .ok (.aload_n 0, 1) := by decide +kernel
theorem dX9_canLay_10 : decode cX9_canLay 10 = .ok (.getfield 12, 3) := by decide +kernel
theorem dX9_canLay_13 : decode cX9_canLay 13 = .ok (.getfield 69, 3) := by decide +kernel
theorem dX9_canLay_16 : decode cX9_canLay 16 = .ok (.iconst 0, 1) := by decide +kernel
theorem dX9_canLay_17 : decode cX9_canLay 17 = .ok (.iaload, 1) := by decide +kernel
theorem dX9_canLay_18 : decode cX9_canLay 18 = .ok (.if_icmp .gt 49, 3) := by decide +kernel
theorem dX9_canLay_21 : decode cX9_canLay 21 = .ok (.aload_n 0, 1) := by decide +kernel
theorem dX9_canLay_22 : decode cX9_canLay 22 = .ok (.getfield 12, 3) := by decide +kernel
theorem dX9_canLay_25 : decode cX9_canLay 25 = .ok (.iload_n 2, 1) := by decide +kernel
theorem dX9_canLay_26 : decode cX9_canLay 26 = .ok (.iload_n 3, 1) := by decide +kernel
theorem dX9_canLay_27 : decode cX9_canLay 27 = .ok (.iload 4, 2) := by decide +kernel
theorem dX9_canLay_29 : decode cX9_canLay 29 = .ok (.invokevirtual 115, 3) := by decide +kernel
theorem dX9_canLay_32 : decode cX9_canLay 32 = .ok (.aload_n 0, 1) := by decide +kernel
theorem dX9_canLay_33 : decode cX9_canLay 33 = .ok (.getfield 21, 3) := by decide +kernel
theorem dX9_canLay_36 : decode cX9_canLay 36 = .ok (.getfield 83, 3) := by decide +kernel
theorem dX9_canLay_39 : decode cX9_canLay 39 = .ok (.iload_n 1, 1) := by decide +kernel
theorem dX9_canLay_40 : decode cX9_canLay 40 = .ok (.aaload, 1) := by decide +kernel
theorem dX9_canLay_41 : decode cX9_canLay 41 = .ok (.iconst 1, 1) := by decide +kernel
theorem dX9_canLay_42 : decode cX9_canLay 42 = .ok (.iaload, 1) := by decide +kernel
theorem dX9_canLay_43 : decode cX9_canLay 43 = .ok (.if_icmp .gt 24, 3) := by decide +kernel
theorem dX9_canLay_46 : decode cX9_canLay 46 = .ok (.aload_n 0, 1) := by decide +kernel
theorem dX9_canLay_47 : decode cX9_canLay 47 = .ok (.getfield 12, 3) := by decide +kernel
theorem dX9_canLay_50 : decode cX9_canLay 50 = .ok (.iload_n 2, 1) := by decide +kernel
theorem dX9_canLay_51 : decode cX9_canLay 51 = .ok (.iload 4, 2) := by decide +kernel
theorem dX9_canLay_53 : decode cX9_canLay 53 = .ok (.invokevirtual 104, 3) := by decide +kernel
theorem dX9_canLay_56 : decode cX9_canLay 56 = .ok (.aload_n 0, 1) := by decide +kernel
theorem dX9_canLay_57 : decode cX9_canLay 57 = .ok (.invokevirtual 119, 3) := by decide +kernel
theorem dX9_canLay_60 : decode cX9_canLay 60 = .ok (.if_icmp .gt 7, 3) := by decide +kernel
theorem dX9_canLay_63 : decode cX9_canLay 63 = .ok (.iconst 1, 1) := by decide +kernel
theorem dX9_canLay_64 : decode cX9_canLay 64 = .ok (.goto 4, 3) := by decide +kernel
theorem dX9_canLay_67 : decode cX9_canLay 67 = .ok (.iconst 0, 1) := by decide +kernel
theorem dX9_canLay_68 : decode cX9_canLay 68 = .ok (.ireturn, 1) := by decide +kernel
theorem dX9_hoursLeft_0 : decode cX9_hoursLeft 0 = .ok (.iconst 0, 1) := by decide +kernel
theorem dX9_hoursLeft_1 : decode cX9_hoursLeft 1 = .ok (.aload_n 0, 1) := by decide +kernel
theorem dX9_hoursLeft_2 : decode cX9_hoursLeft 2 = .ok (.getfield 12, 3) := by decide +kernel
theorem dX9_hoursLeft_5 : decode cX9_hoursLeft 5 = .ok (.getfield 69, 3) := by decide +kernel
theorem dX9_hoursLeft_8 : decode cX9_hoursLeft 8 = .ok (.bipush 7, 2) := by decide +kernel
theorem dX9_hoursLeft_10 : decode cX9_hoursLeft 10 = .ok (.iaload, 1) := by decide +kernel
theorem dX9_hoursLeft_11 : decode cX9_hoursLeft 11 = .ok (.aload_n 0, 1) := by decide +kernel
theorem dX9_hoursLeft_12 : decode cX9_hoursLeft 12 = .ok (.getfield 46, 3) := by decide +kernel
theorem dX9_hoursLeft_15 : decode cX9_hoursLeft 15 = .ok (.isub, 1) := by decide +kernel
theorem dX9_hoursLeft_16 : decode cX9_hoursLeft 16 = .ok (.invokestatic 123, 3) := by decide +kernel
theorem dX9_hoursLeft_19 : decode cX9_hoursLeft 19 = .ok (.ireturn, 1) := by decide +kernel
theorem dX9_longestRope_0 : decode cX9_longestRope 0 = .ok (.sipush 2000, 3) := by decide +kernel
theorem dX9_longestRope_3 : decode cX9_longestRope 3 = .ok (.istore 4, 2) := by decide +kernel
theorem dX9_longestRope_5 : decode cX9_longestRope 5 = .ok (.iload 4, 2) := by decide +kernel
theorem dX9_longestRope_7 : decode cX9_longestRope 7 = .ok (.iconst 1, 1) := by decide +kernel
theorem dX9_longestRope_8 : decode cX9_longestRope 8 = .ok (.if_icmp .lt 24, 3) := by decide +kernel
theorem dX9_longestRope_11 : decode cX9_longestRope 11 = .ok (.aload_n 0, 1) := by decide +kernel
theorem dX9_longestRope_12 : decode cX9_longestRope 12 = .ok (.iload_n 1, 1) := by decide +kernel
theorem dX9_longestRope_13 : decode cX9_longestRope 13 = .ok (.iload_n 2, 1) := by decide +kernel
theorem dX9_longestRope_14 : decode cX9_longestRope 14 = .ok (.iload_n 3, 1) := by decide +kernel
theorem dX9_longestRope_15 : decode cX9_longestRope 15 = .ok (.iload 4, 2) := by decide +kernel
theorem dX9_longestRope_17 : decode cX9_longestRope 17 = .ok (.invokevirtual 100, 3) := by decide +kernel
theorem dX9_longestRope_20 : decode cX9_longestRope 20 = .ok (.ifCond .eq 6, 3) := by decide +kernel
theorem dX9_longestRope_23 : decode cX9_longestRope 23 = .ok (.iload 4, 2) := by decide +kernel
theorem dX9_longestRope_25 : decode cX9_longestRope 25 = .ok (.ireturn, 1) := by decide +kernel
theorem dX9_longestRope_26 : decode cX9_longestRope 26 = .ok (.iinc 4 (-1), 3) := by decide +kernel
theorem dX9_longestRope_29 : decode cX9_longestRope 29 = .ok (.goto (-24), 3) := by decide +kernel
theorem dX9_longestRope_32 : decode cX9_longestRope 32 = .ok (.bipush (-6), 2) := by decide +kernel
theorem dX9_longestRope_34 : decode cX9_longestRope 34 = .ok (.ireturn, 1) := by decide +kernel
theorem dX9_joinPieces_0 : decode cX9_joinPieces 0 = .ok (.aload_n 0, 1) := by decide +kernel
theorem dX9_joinPieces_1 : decode cX9_joinPieces 1 = .ok (.getfield 21, 3) := by decide +kernel
theorem dX9_joinPieces_4 : decode cX9_joinPieces 4 = .ok (.iload_n 1, 1) := by decide +kernel
theorem dX9_joinPieces_5 : decode cX9_joinPieces 5 = .ok (.invokevirtual 128, 3) := by decide +kernel
theorem dX9_joinPieces_8 : decode cX9_joinPieces 8 = .ok (.ifCond .eq 19, 3) := by decide +kernel
theorem dX9_joinPieces_11 : decode cX9_joinPieces 11 = .ok (.aload_n 0, 1) := by decide +kernel
theorem dX9_joinPieces_12 : decode cX9_joinPieces 12 = .ok (.getfield 21, 3) := by decide +kernel
theorem dX9_joinPieces_15 : decode cX9_joinPieces 15 = .ok (.iload_n 2, 1) := by decide +kernel
theorem dX9_joinPieces_16 : decode cX9_joinPieces 16 = .ok (.invokevirtual 128, 3) := by decide +kernel
theorem dX9_joinPieces_19 : decode cX9_joinPieces 19 = .ok (.ifCond .eq 8, 3) := by decide +kernel
theorem dX9_joinPieces_22 : decode cX9_joinPieces 22 = .ok (.iload_n 1, 1) := by decide +kernel
theorem dX9_joinPieces_23 : decode cX9_joinPieces 23 = .ok (.iload_n 2, 1) := by decide +kernel
theorem dX9_joinPieces_24 : decode cX9_joinPieces 24 = .ok (.if_icmp .ne 5, 3) := by decide +kernel
theorem dX9_joinPieces_27 : decode cX9_joinPieces 27 = .ok (.iconst (-1), 1) := by decide +kernel
theorem dX9_joinPieces_28 : decode cX9_joinPieces 28 = .ok (.ireturn, 1) := by decide +kernel
theorem dX9_joinPieces_29 : decode cX9_joinPieces 29 = .ok (.aload_n 0, 1) := by decide +kernel
theorem dX9_joinPieces_30 : decode cX9_joinPieces 30 = .ok (.getfield 21, 3) := by decide +kernel
theorem dX9_joinPieces_33 : decode cX9_joinPieces 33 = .ok (.getfield 131, 3) := by decide +kernel
theorem dX9_joinPieces_36 : decode cX9_joinPieces 36 = .ok (.iload_n 1, 1) := by decide +kernel
theorem dX9_joinPieces_37 : decode cX9_joinPieces 37 = .ok (.aaload, 1) := by decide +kernel
theorem dX9_joinPieces_38 : decode cX9_joinPieces 38 = .ok (.astore_n 3, 1) := by decide +kernel
theorem dX9_joinPieces_39 : decode cX9_joinPieces 39 = .ok (.aload_n 0, 1) := by decide +kernel
theorem dX9_joinPieces_40 : decode cX9_joinPieces 40 = .ok (.getfield 21, 3) := by decide +kernel
theorem dX9_joinPieces_43 : decode cX9_joinPieces 43 = .ok (.getfield 131, 3) := by decide +kernel
theorem dX9_joinPieces_46 : decode cX9_joinPieces 46 = .ok (.iload_n 2, 1) := by decide +kernel
theorem dX9_joinPieces_47 : decode cX9_joinPieces 47 = .ok (.aaload, 1) := by decide +kernel
theorem dX9_joinPieces_48 : decode cX9_joinPieces 48 = .ok (.astore 4, 2) := by decide +kernel
theorem dX9_joinPieces_50 : decode cX9_joinPieces 50 = .ok (.aload_n 0, 1) := by decide +kernel
theorem dX9_joinPieces_51 : decode cX9_joinPieces 51 = .ok (.getfield 12, 3) := by decide +kernel
theorem dX9_joinPieces_54 : decode cX9_joinPieces 54 = .ok (.getfield 69, 3) := by decide +kernel
theorem dX9_joinPieces_57 : decode cX9_joinPieces 57 = .ok (.iconst 4, 1) := by decide +kernel
theorem dX9_joinPieces_58 : decode cX9_joinPieces 58 = .ok (.iaload, 1) := by decide +kernel
theorem dX9_joinPieces_59 : decode cX9_joinPieces 59 = .ok (.istore 5, 2) := by decide +kernel
theorem dX9_joinPieces_61 : decode cX9_joinPieces 61 = .ok (.aload_n 3, 1) := by decide +kernel
theorem dX9_joinPieces_62 : decode cX9_joinPieces 62 = .ok (.aload 4, 2) := by decide +kernel
theorem dX9_joinPieces_64 : decode cX9_joinPieces 64 = .ok (.invokevirtual 135, 3) := by decide +kernel
theorem dX9_joinPieces_67 : decode cX9_joinPieces 67 = .ok (.ifCond .eq 22, 3) := by decide +kernel
theorem dX9_joinPieces_70 : decode cX9_joinPieces 70 = .ok (.aload_n 3, 1) := by decide +kernel
theorem dX9_joinPieces_71 : decode cX9_joinPieces 71 = .ok (.getfield 141, 3) := by decide +kernel
theorem dX9_joinPieces_74 : decode cX9_joinPieces 74 = .ok (.iload 5, 2) := by decide +kernel
theorem dX9_joinPieces_76 : decode cX9_joinPieces 76 = .ok (.if_icmp .le 13, 3) := by decide +kernel
theorem dX9_joinPieces_79 : decode cX9_joinPieces 79 = .ok (.aload 4, 2) := by decide +kernel
theorem dX9_joinPieces_81 : decode cX9_joinPieces 81 = .ok (.getfield 141, 3) := by decide +kernel
theorem dX9_joinPieces_84 : decode cX9_joinPieces 84 = .ok (.iload 5, 2) := by decide +kernel
theorem dX9_joinPieces_86 : decode cX9_joinPieces 86 = .ok (.if_icmp .gt 6, 3) := by decide +kernel
theorem dX9_joinPieces_89 : decode cX9_joinPieces 89 = .ok (.bipush (-5), 2) := by decide +kernel
theorem dX9_joinPieces_91 : decode cX9_joinPieces 91 = .ok (.ireturn, 1) := by decide +kernel
theorem dX9_joinPieces_92 : decode cX9_joinPieces 92 = .ok (.aload_n 0, 1) := by decide +kernel
theorem dX9_joinPieces_93 : decode cX9_joinPieces 93 = .ok (.getfield 21, 3) := by decide +kernel
theorem dX9_joinPieces_96 : decode cX9_joinPieces 96 = .ok (.iload_n 1, 1) := by decide +kernel
theorem dX9_joinPieces_97 : decode cX9_joinPieces 97 = .ok (.iload_n 2, 1) := by decide +kernel
theorem dX9_joinPieces_98 : decode cX9_joinPieces 98 = .ok (.iload 5, 2) := by decide +kernel
theorem dX9_joinPieces_100 : decode cX9_joinPieces 100 = .ok (.invokevirtual 144, 3) := by decide +kernel
theorem dX9_joinPieces_103 : decode cX9_joinPieces 103 = .ok (.ireturn, 1) := by decide +kernel
theorem dX9_testPiece_0 : decode cX9_testPiece 0 = .ok (.aload_n 0, 1) := by decide +kernel
theorem dX9_testPiece_1 : decode cX9_testPiece 1 = .ok (.getfield 21, 3) := by decide +kernel
theorem dX9_testPiece_4 : decode cX9_testPiece 4 = .ok (.iload_n 1, 1) := by decide +kernel
theorem dX9_testPiece_5 : decode cX9_testPiece 5 = .ok (.invokevirtual 128, 3) := by decide +kernel
theorem dX9_testPiece_8 : decode cX9_testPiece 8 = .ok (.ifCond .ne 5, 3) := by decide +kernel
theorem dX9_testPiece_11 : decode cX9_testPiece 11 = .ok (.iconst (-1), 1) := by decide +kernel
theorem dX9_testPiece_12 : decode cX9_testPiece 12 = .ok (.ireturn, 1) := by decide +kernel
theorem dX9_testPiece_13 : decode cX9_testPiece 13 = .ok (.aload_n 0, 1) := by decide +kernel
theorem dX9_testPiece_14 : decode cX9_testPiece 14 = .ok (.getfield 12, 3) := by decide +kernel
theorem dX9_testPiece_17 : decode cX9_testPiece 17 = .ok (.getfield 69, 3) := by decide +kernel
theorem dX9_testPiece_20 : decode cX9_testPiece 20 = .ok (.iconst 5, 1) := by decide +kernel
theorem dX9_testPiece_21 : decode cX9_testPiece 21 = .ok (.iaload, 1) := by decide +kernel
theorem dX9_testPiece_22 : decode cX9_testPiece 22 = .ok (.istore_n 2, 1) := by decide +kernel
theorem dX9_testPiece_23 : decode cX9_testPiece 23 = .ok (.aload_n 0, 1) := by decide +kernel
theorem dX9_testPiece_24 : decode cX9_testPiece 24 = .ok (.getfield 21, 3) := by decide +kernel
theorem dX9_testPiece_27 : decode cX9_testPiece 27 = .ok (.getfield 131, 3) := by decide +kernel
theorem dX9_testPiece_30 : decode cX9_testPiece 30 = .ok (.iload_n 1, 1) := by decide +kernel
theorem dX9_testPiece_31 : decode cX9_testPiece 31 = .ok (.aaload, 1) := by decide +kernel
theorem dX9_testPiece_32 : decode cX9_testPiece 32 = .ok (.getfield 141, 3) := by decide +kernel
theorem dX9_testPiece_35 : decode cX9_testPiece 35 = .ok (.iload_n 2, 1) := by decide +kernel
theorem dX9_testPiece_36 : decode cX9_testPiece 36 = .ok (.if_icmp .ge 6, 3) := by decide +kernel
theorem dX9_testPiece_39 : decode cX9_testPiece 39 = .ok (.bipush (-5), 2) := by decide +kernel
theorem dX9_testPiece_41 : decode cX9_testPiece 41 = .ok (.ireturn, 1) := by decide +kernel
theorem dX9_testPiece_42 : decode cX9_testPiece 42 = .ok (.aload_n 0, 1) := by decide +kernel
theorem dX9_testPiece_43 : decode cX9_testPiece 43 = .ok (.getfield 12, 3) := by decide +kernel
theorem dX9_testPiece_46 : decode cX9_testPiece 46 = .ok (.aload_n 0, 1) := by decide +kernel
theorem dX9_testPiece_47 : decode cX9_testPiece 47 = .ok (.getfield 21, 3) := by decide +kernel
theorem dX9_testPiece_50 : decode cX9_testPiece 50 = .ok (.getfield 131, 3) := by decide +kernel
theorem dX9_testPiece_53 : decode cX9_testPiece 53 = .ok (.iload_n 1, 1) := by decide +kernel
theorem dX9_testPiece_54 : decode cX9_testPiece 54 = .ok (.aaload, 1) := by decide +kernel
theorem dX9_testPiece_55 : decode cX9_testPiece 55 = .ok (.invokevirtual 147, 3) := by decide +kernel
theorem dX9_testPiece_58 : decode cX9_testPiece 58 = .ok (.istore_n 3, 1) := by decide +kernel
theorem dX9_testPiece_59 : decode cX9_testPiece 59 = .ok (.aload_n 0, 1) := by decide +kernel
theorem dX9_testPiece_60 : decode cX9_testPiece 60 = .ok (.getfield 21, 3) := by decide +kernel
theorem dX9_testPiece_63 : decode cX9_testPiece 63 = .ok (.iload_n 1, 1) := by decide +kernel
theorem dX9_testPiece_64 : decode cX9_testPiece 64 = .ok (.iload_n 2, 1) := by decide +kernel
theorem dX9_testPiece_65 : decode cX9_testPiece 65 = .ok (.iconst 4, 1) := by decide +kernel
theorem dX9_testPiece_66 : decode cX9_testPiece 66 = .ok (.aload_n 0, 1) := by decide +kernel
theorem dX9_testPiece_67 : decode cX9_testPiece 67 = .ok (.getfield 12, 3) := by decide +kernel
theorem dX9_testPiece_70 : decode cX9_testPiece 70 = .ok (.getfield 69, 3) := by decide +kernel
theorem dX9_testPiece_73 : decode cX9_testPiece 73 = .ok (.bipush 6, 2) := by decide +kernel
theorem dX9_testPiece_75 : decode cX9_testPiece 75 = .ok (.iaload, 1) := by decide +kernel
theorem dX9_testPiece_76 : decode cX9_testPiece 76 = .ok (.invokevirtual 151, 3) := by decide +kernel
theorem dX9_testPiece_79 : decode cX9_testPiece 79 = .ok (.iload_n 3, 1) := by decide +kernel
theorem dX9_testPiece_80 : decode cX9_testPiece 80 = .ok (.ireturn, 1) := by decide +kernel
theorem dX9_takeOrder_0 : decode cX9_takeOrder 0 = .ok (.iload_n 1, 1) := by decide +kernel
theorem dX9_takeOrder_1 : decode cX9_takeOrder 1 = .ok (.invokestatic 72, 3) := by decide +kernel
theorem dX9_takeOrder_4 : decode cX9_takeOrder 4 = .ok (.ifCond .ne 5, 3) := by decide +kernel
theorem dX9_takeOrder_7 : decode cX9_takeOrder 7 = .ok (.iconst (-1), 1) := by decide +kernel
theorem dX9_takeOrder_8 : decode cX9_takeOrder 8 = .ok (.ireturn, 1) := by decide +kernel
theorem dX9_takeOrder_9 : decode cX9_takeOrder 9 = .ok (.iload_n 2, 1) := by decide +kernel
theorem dX9_takeOrder_10 : decode cX9_takeOrder 10 = .ok (.iconst 1, 1) := by decide +kernel
theorem dX9_takeOrder_11 : decode cX9_takeOrder 11 = .ok (.ldc 155, 2) := by decide +kernel
theorem dX9_takeOrder_13 : decode cX9_takeOrder 13 = .ok (.invokestatic 58, 3) := by decide +kernel
theorem dX9_takeOrder_16 : decode cX9_takeOrder 16 = .ok (.ifCond .eq 48, 3) := by decide +kernel
theorem dX9_takeOrder_19 : decode cX9_takeOrder 19 = .ok (.iload_n 3, 1) := by decide +kernel
theorem dX9_takeOrder_20 : decode cX9_takeOrder 20 = .ok (.iconst 1, 1) := by decide +kernel
theorem dX9_takeOrder_21 : decode cX9_takeOrder 21 = .ok (.sipush 500, 3) := by decide +kernel
theorem dX9_takeOrder_24 : decode cX9_takeOrder 24 = .ok (.invokestatic 58, 3) := by decide +kernel
theorem dX9_takeOrder_27 : decode cX9_takeOrder 27 = .ok (.ifCond .eq 37, 3) := by decide +kernel
theorem dX9_takeOrder_30 : decode cX9_takeOrder 30 = .ok (.iload 4, 2) := by decide +kernel
theorem dX9_takeOrder_32 : decode cX9_takeOrder 32 = .ok (.iconst 1, 1) := by decide +kernel
theorem dX9_takeOrder_33 : decode cX9_takeOrder 33 = .ok (.bipush 20, 2) := by decide +kernel
theorem dX9_takeOrder_35 : decode cX9_takeOrder 35 = .ok (.invokestatic 58, 3) := by decide +kernel
theorem dX9_takeOrder_38 : decode cX9_takeOrder 38 = .ok (.ifCond .eq 26, 3) := by decide +kernel
theorem dX9_takeOrder_41 : decode cX9_takeOrder 41 = .ok (.iload 5, 2) := by decide +kernel
theorem dX9_takeOrder_43 : decode cX9_takeOrder 43 = .ok (.iconst 0, 1) := by decide +kernel
theorem dX9_takeOrder_44 : decode cX9_takeOrder 44 = .ok (.sipush 201, 3) := by decide +kernel
theorem dX9_takeOrder_47 : decode cX9_takeOrder 47 = .ok (.invokestatic 58, 3) := by decide +kernel
theorem dX9_takeOrder_50 : decode cX9_takeOrder 50 = .ok (.ifCond .eq 14, 3) := by decide +kernel
theorem dX9_takeOrder_53 : decode cX9_takeOrder 53 = .ok (.iload 6, 2) := by decide +kernel
theorem dX9_takeOrder_55 : decode cX9_takeOrder 55 = .ok (.iconst 0, 1) := by decide +kernel
theorem dX9_takeOrder_56 : decode cX9_takeOrder 56 = .ok (.ldc 156, 2) := by decide +kernel
theorem dX9_takeOrder_58 : decode cX9_takeOrder 58 = .ok (.invokestatic 58, 3) := by decide +kernel
theorem dX9_takeOrder_61 : decode cX9_takeOrder 61 = .ok (.ifCond .ne 6, 3) := by decide +kernel
theorem dX9_takeOrder_64 : decode cX9_takeOrder 64 = .ok (.bipush (-2), 2) := by decide +kernel
theorem dX9_takeOrder_66 : decode cX9_takeOrder 66 = .ok (.ireturn, 1) := by decide +kernel
theorem dX9_takeOrder_67 : decode cX9_takeOrder 67 = .ok (.aload_n 0, 1) := by decide +kernel
theorem dX9_takeOrder_68 : decode cX9_takeOrder 68 = .ok (.getfield 28, 3) := by decide +kernel
theorem dX9_takeOrder_71 : decode cX9_takeOrder 71 = .ok (.invokevirtual 157, 3) := by decide +kernel
theorem dX9_takeOrder_74 : decode cX9_takeOrder 74 = .ok (.ifCond .eq 6, 3) := by decide +kernel
theorem dX9_takeOrder_77 : decode cX9_takeOrder 77 = .ok (.bipush (-4), 2) := by decide +kernel
theorem dX9_takeOrder_79 : decode cX9_takeOrder 79 = .ok (.ireturn, 1) := by decide +kernel
theorem dX9_takeOrder_80 : decode cX9_takeOrder 80 = .ok (.aload_n 0, 1) := by decide +kernel
theorem dX9_takeOrder_81 : decode cX9_takeOrder 81 = .ok (.getfield 28, 3) := by decide +kernel
theorem dX9_takeOrder_84 : decode cX9_takeOrder 84 = .ok (.getfield 158, 3) := by decide +kernel
theorem dX9_takeOrder_87 : decode cX9_takeOrder 87 = .ok (.aload_n 0, 1) := by decide +kernel
theorem dX9_takeOrder_88 : decode cX9_takeOrder 88 = .ok (.getfield 28, 3) := by decide +kernel
theorem dX9_takeOrder_91 : decode cX9_takeOrder 91 = .ok (.getfield 162, 3) := by decide +kernel
theorem dX9_takeOrder_94 : decode cX9_takeOrder 94 = .ok (.aaload, 1) := by decide +kernel
theorem dX9_takeOrder_95 : decode cX9_takeOrder 95 = .ok (.astore 7, 2) := by decide +kernel
theorem dX9_takeOrder_97 : decode cX9_takeOrder 97 = .ok (.aload 7, 2) := by decide +kernel
theorem dX9_takeOrder_99 : decode cX9_takeOrder 99 = .ok (.iload_n 1, 1) := by decide +kernel
theorem dX9_takeOrder_100 : decode cX9_takeOrder 100 = .ok (.putfield 165, 3) := by decide +kernel
theorem dX9_takeOrder_103 : decode cX9_takeOrder 103 = .ok (.aload 7, 2) := by decide +kernel
theorem dX9_takeOrder_105 : decode cX9_takeOrder 105 = .ok (.iload_n 2, 1) := by decide +kernel
theorem dX9_takeOrder_106 : decode cX9_takeOrder 106 = .ok (.putfield 170, 3) := by decide +kernel
theorem dX9_takeOrder_109 : decode cX9_takeOrder 109 = .ok (.aload 7, 2) := by decide +kernel
theorem dX9_takeOrder_111 : decode cX9_takeOrder 111 = .ok (.iload_n 3, 1) := by decide +kernel
theorem dX9_takeOrder_112 : decode cX9_takeOrder 112 = .ok (.putfield 173, 3) := by decide +kernel
theorem dX9_takeOrder_115 : decode cX9_takeOrder 115 = .ok (.aload 7, 2) := by decide +kernel
theorem dX9_takeOrder_117 : decode cX9_takeOrder 117 = .ok (.iload 4, 2) := by decide +kernel
theorem dX9_takeOrder_119 : decode cX9_takeOrder 119 = .ok (.putfield 174, 3) := by decide +kernel
theorem dX9_takeOrder_122 : decode cX9_takeOrder 122 = .ok (.aload 7, 2) := by decide +kernel
theorem dX9_takeOrder_124 : decode cX9_takeOrder 124 = .ok (.iload 5, 2) := by decide +kernel
theorem dX9_takeOrder_126 : decode cX9_takeOrder 126 = .ok (.iconst 2, 1) := by decide +kernel
theorem dX9_takeOrder_127 : decode cX9_takeOrder 127 = .ok (.irem, 1) := by decide +kernel
theorem dX9_takeOrder_128 : decode cX9_takeOrder 128 = .ok (.iconst 1, 1) := by decide +kernel
theorem dX9_takeOrder_129 : decode cX9_takeOrder 129 = .ok (.if_icmp .ne 7, 3) := by decide +kernel
theorem dX9_takeOrder_132 : decode cX9_takeOrder 132 = .ok (.iconst 1, 1) := by decide +kernel
theorem dX9_takeOrder_133 : decode cX9_takeOrder 133 = .ok (.goto 4, 3) := by decide +kernel
theorem dX9_takeOrder_136 : decode cX9_takeOrder 136 = .ok (.iconst 0, 1) := by decide +kernel
theorem dX9_takeOrder_137 : decode cX9_takeOrder 137 = .ok (.putfield 177, 3) := by decide +kernel
theorem dX9_takeOrder_140 : decode cX9_takeOrder 140 = .ok (.aload 7, 2) := by decide +kernel
theorem dX9_takeOrder_142 : decode cX9_takeOrder 142 = .ok (.aload_n 0, 1) := by decide +kernel
theorem dX9_takeOrder_143 : decode cX9_takeOrder 143 = .ok (.getfield 42, 3) := by decide +kernel
theorem dX9_takeOrder_146 : decode cX9_takeOrder 146 = .ok (.iload 5, 2) := by decide +kernel
theorem dX9_takeOrder_148 : decode cX9_takeOrder 148 = .ok (.iconst 2, 1) := by decide +kernel
theorem dX9_takeOrder_149 : decode cX9_takeOrder 149 = .ok (.idiv, 1) := by decide +kernel
theorem dX9_takeOrder_150 : decode cX9_takeOrder 150 = .ok (.iadd, 1) := by decide +kernel
theorem dX9_takeOrder_151 : decode cX9_takeOrder 151 = .ok (.putfield 181, 3) := by decide +kernel
theorem dX9_takeOrder_154 : decode cX9_takeOrder 154 = .ok (.aload 7, 2) := by decide +kernel
theorem dX9_takeOrder_156 : decode cX9_takeOrder 156 = .ok (.iload 6, 2) := by decide +kernel
theorem dX9_takeOrder_158 : decode cX9_takeOrder 158 = .ok (.putfield 184, 3) := by decide +kernel
theorem dX9_takeOrder_161 : decode cX9_takeOrder 161 = .ok (.aload_n 0, 1) := by decide +kernel
theorem dX9_takeOrder_162 : decode cX9_takeOrder 162 = .ok (.getfield 28, 3) := by decide +kernel
theorem dX9_takeOrder_165 : decode cX9_takeOrder 165 = .ok (.dup, 1) := by decide +kernel
theorem dX9_takeOrder_166 : decode cX9_takeOrder 166 = .ok (.getfield 162, 3) := by decide +kernel
theorem dX9_takeOrder_169 : decode cX9_takeOrder 169 = .ok (.iconst 1, 1) := by decide +kernel
theorem dX9_takeOrder_170 : decode cX9_takeOrder 170 = .ok (.iadd, 1) := by decide +kernel
theorem dX9_takeOrder_171 : decode cX9_takeOrder 171 = .ok (.putfield 162, 3) := by decide +kernel
theorem dX9_takeOrder_174 : decode cX9_takeOrder 174 = .ok (.aload_n 0, 1) := by decide +kernel
theorem dX9_takeOrder_175 : decode cX9_takeOrder 175 = .ok (.getfield 28, 3) := by decide +kernel
theorem dX9_takeOrder_178 : decode cX9_takeOrder 178 = .ok (.getfield 162, 3) := by decide +kernel
theorem dX9_takeOrder_181 : decode cX9_takeOrder 181 = .ok (.iconst 1, 1) := by decide +kernel
theorem dX9_takeOrder_182 : decode cX9_takeOrder 182 = .ok (.isub, 1) := by decide +kernel
theorem dX9_takeOrder_183 : decode cX9_takeOrder 183 = .ok (.ireturn, 1) := by decide +kernel
theorem dX9_fillOrder_0 : decode cX9_fillOrder 0 = .ok (.aload_n 0, 1) := by decide +kernel
theorem dX9_fillOrder_1 : decode cX9_fillOrder 1 = .ok (.getfield 28, 3) := by decide +kernel
theorem dX9_fillOrder_4 : decode cX9_fillOrder 4 = .ok (.iload_n 1, 1) := by decide +kernel
theorem dX9_fillOrder_5 : decode cX9_fillOrder 5 = .ok (.invokevirtual 187, 3) := by decide +kernel
theorem dX9_fillOrder_8 : decode cX9_fillOrder 8 = .ok (.ifCond .ne 5, 3) := by decide +kernel
theorem dX9_fillOrder_11 : decode cX9_fillOrder 11 = .ok (.iconst (-1), 1) := by decide +kernel
theorem dX9_fillOrder_12 : decode cX9_fillOrder 12 = .ok (.ireturn, 1) := by decide +kernel
theorem dX9_fillOrder_13 : decode cX9_fillOrder 13 = .ok (.aload_n 0, 1) := by decide +kernel
theorem dX9_fillOrder_14 : decode cX9_fillOrder 14 = .ok (.getfield 28, 3) := by decide +kernel
theorem dX9_fillOrder_17 : decode cX9_fillOrder 17 = .ok (.getfield 158, 3) := by decide +kernel
theorem dX9_fillOrder_20 : decode cX9_fillOrder 20 = .ok (.iload_n 1, 1) := by decide +kernel
theorem dX9_fillOrder_21 : decode cX9_fillOrder 21 = .ok (.aaload, 1) := by decide +kernel
theorem dX9_fillOrder_22 : decode cX9_fillOrder 22 = .ok (.astore_n 2, 1) := by decide +kernel
theorem dX9_fillOrder_23 : decode cX9_fillOrder 23 = .ok (.aload_n 0, 1) := by decide +kernel
theorem dX9_fillOrder_24 : decode cX9_fillOrder 24 = .ok (.getfield 21, 3) := by decide +kernel
theorem dX9_fillOrder_27 : decode cX9_fillOrder 27 = .ok (.aload_n 2, 1) := by decide +kernel
theorem dX9_fillOrder_28 : decode cX9_fillOrder 28 = .ok (.aload_n 0, 1) := by decide +kernel
theorem dX9_fillOrder_29 : decode cX9_fillOrder 29 = .ok (.getfield 12, 3) := by decide +kernel
theorem dX9_fillOrder_32 : decode cX9_fillOrder 32 = .ok (.invokevirtual 188, 3) := by decide +kernel
theorem dX9_fillOrder_35 : decode cX9_fillOrder 35 = .ok (.istore_n 3, 1) := by decide +kernel
theorem dX9_fillOrder_36 : decode cX9_fillOrder 36 = .ok (.iload_n 3, 1) := by decide +kernel
theorem dX9_fillOrder_37 : decode cX9_fillOrder 37 = .ok (.ifCond .ne 6, 3) := by decide +kernel
theorem dX9_fillOrder_40 : decode cX9_fillOrder 40 = .ok (.bipush (-5), 2) := by decide +kernel
theorem dX9_fillOrder_42 : decode cX9_fillOrder 42 = .ok (.ireturn, 1) := by decide +kernel
theorem dX9_fillOrder_43 : decode cX9_fillOrder 43 = .ok (.aload_n 0, 1) := by decide +kernel
theorem dX9_fillOrder_44 : decode cX9_fillOrder 44 = .ok (.dup, 1) := by decide +kernel
theorem dX9_fillOrder_45 : decode cX9_fillOrder 45 = .ok (.getfield 49, 3) := by decide +kernel
theorem dX9_fillOrder_48 : decode cX9_fillOrder 48 = .ok (.iload_n 3, 1) := by decide +kernel
theorem dX9_fillOrder_49 : decode cX9_fillOrder 49 = .ok (.iadd, 1) := by decide +kernel
theorem dX9_fillOrder_50 : decode cX9_fillOrder 50 = .ok (.putfield 49, 3) := by decide +kernel
theorem dX9_fillOrder_53 : decode cX9_fillOrder 53 = .ok (.aload_n 0, 1) := by decide +kernel
theorem dX9_fillOrder_54 : decode cX9_fillOrder 54 = .ok (.dup, 1) := by decide +kernel
theorem dX9_fillOrder_55 : decode cX9_fillOrder 55 = .ok (.getfield 52, 3) := by decide +kernel
theorem dX9_fillOrder_58 : decode cX9_fillOrder 58 = .ok (.iload_n 3, 1) := by decide +kernel
theorem dX9_fillOrder_59 : decode cX9_fillOrder 59 = .ok (.aload_n 2, 1) := by decide +kernel
theorem dX9_fillOrder_60 : decode cX9_fillOrder 60 = .ok (.getfield 184, 3) := by decide +kernel
theorem dX9_fillOrder_63 : decode cX9_fillOrder 63 = .ok (.imul, 1) := by decide +kernel
theorem dX9_fillOrder_64 : decode cX9_fillOrder 64 = .ok (.iadd, 1) := by decide +kernel
theorem dX9_fillOrder_65 : decode cX9_fillOrder 65 = .ok (.putfield 52, 3) := by decide +kernel
theorem dX9_fillOrder_68 : decode cX9_fillOrder 68 = .ok (.aload_n 2, 1) := by decide +kernel
theorem dX9_fillOrder_69 : decode cX9_fillOrder 69 = .ok (.dup, 1) := by decide +kernel
theorem dX9_fillOrder_70 : decode cX9_fillOrder 70 = .ok (.getfield 174, 3) := by decide +kernel
theorem dX9_fillOrder_73 : decode cX9_fillOrder 73 = .ok (.iload_n 3, 1) := by decide +kernel
theorem dX9_fillOrder_74 : decode cX9_fillOrder 74 = .ok (.isub, 1) := by decide +kernel
theorem dX9_fillOrder_75 : decode cX9_fillOrder 75 = .ok (.putfield 174, 3) := by decide +kernel
theorem dX9_fillOrder_78 : decode cX9_fillOrder 78 = .ok (.aload_n 2, 1) := by decide +kernel
theorem dX9_fillOrder_79 : decode cX9_fillOrder 79 = .ok (.getfield 174, 3) := by decide +kernel
theorem dX9_fillOrder_82 : decode cX9_fillOrder 82 = .ok (.ifCond .ne 11, 3) := by decide +kernel
theorem dX9_fillOrder_85 : decode cX9_fillOrder 85 = .ok (.aload_n 0, 1) := by decide +kernel
theorem dX9_fillOrder_86 : decode cX9_fillOrder 86 = .ok (.getfield 28, 3) := by decide +kernel
theorem dX9_fillOrder_89 : decode cX9_fillOrder 89 = .ok (.iload_n 1, 1) := by decide +kernel
theorem dX9_fillOrder_90 : decode cX9_fillOrder 90 = .ok (.invokevirtual 192, 3) := by decide +kernel
theorem dX9_fillOrder_93 : decode cX9_fillOrder 93 = .ok (.iload_n 3, 1) := by decide +kernel
theorem dX9_fillOrder_94 : decode cX9_fillOrder 94 = .ok (.ireturn, 1) := by decide +kernel
theorem dX9_dropOrder_0 : decode cX9_dropOrder 0 = .ok (.aload_n 0, 1) := by decide +kernel
theorem dX9_dropOrder_1 : decode cX9_dropOrder 1 = .ok (.getfield 28, 3) := by decide +kernel
theorem dX9_dropOrder_4 : decode cX9_dropOrder 4 = .ok (.iload_n 1, 1) := by decide +kernel
theorem dX9_dropOrder_5 : decode cX9_dropOrder 5 = .ok (.invokevirtual 187, 3) := by decide +kernel
theorem dX9_dropOrder_8 : decode cX9_dropOrder 8 = .ok (.ifCond .ne 5, 3) := by decide +kernel
theorem dX9_dropOrder_11 : decode cX9_dropOrder 11 = .ok (.iconst (-1), 1) := by decide +kernel
theorem dX9_dropOrder_12 : decode cX9_dropOrder 12 = .ok (.ireturn, 1) := by decide +kernel
theorem dX9_dropOrder_13 : decode cX9_dropOrder 13 = .ok (.aload_n 0, 1) := by decide +kernel
theorem dX9_dropOrder_14 : decode cX9_dropOrder 14 = .ok (.getfield 12, 3) := by decide +kernel
theorem dX9_dropOrder_17 : decode cX9_dropOrder 17 = .ok (.getfield 69, 3) := by decide +kernel
theorem dX9_dropOrder_20 : decode cX9_dropOrder 20 = .ok (.bipush 9, 2) := by decide +kernel
theorem dX9_dropOrder_22 : decode cX9_dropOrder 22 = .ok (.iaload, 1) := by decide +kernel
theorem dX9_dropOrder_23 : decode cX9_dropOrder 23 = .ok (.aload_n 0, 1) := by decide +kernel
theorem dX9_dropOrder_24 : decode cX9_dropOrder 24 = .ok (.getfield 28, 3) := by decide +kernel
theorem dX9_dropOrder_27 : decode cX9_dropOrder 27 = .ok (.getfield 158, 3) := by decide +kernel
theorem dX9_dropOrder_30 : decode cX9_dropOrder 30 = .ok (.iload_n 1, 1) := by decide +kernel
theorem dX9_dropOrder_31 : decode cX9_dropOrder 31 = .ok (.aaload, 1) := by decide +kernel
theorem dX9_dropOrder_32 : decode cX9_dropOrder 32 = .ok (.getfield 174, 3) := by decide +kernel
theorem dX9_dropOrder_35 : decode cX9_dropOrder 35 = .ok (.imul, 1) := by decide +kernel
theorem dX9_dropOrder_36 : decode cX9_dropOrder 36 = .ok (.istore_n 2, 1) := by decide +kernel
theorem dX9_dropOrder_37 : decode cX9_dropOrder 37 = .ok (.aload_n 0, 1) := by decide +kernel
theorem dX9_dropOrder_38 : decode cX9_dropOrder 38 = .ok (.dup, 1) := by decide +kernel
theorem dX9_dropOrder_39 : decode cX9_dropOrder 39 = .ok (.getfield 55, 3) := by decide +kernel
theorem dX9_dropOrder_42 : decode cX9_dropOrder 42 = .ok (.iload_n 2, 1) := by decide +kernel
theorem dX9_dropOrder_43 : decode cX9_dropOrder 43 = .ok (.iadd, 1) := by decide +kernel
theorem dX9_dropOrder_44 : decode cX9_dropOrder 44 = .ok (.putfield 55, 3) := by decide +kernel
theorem dX9_dropOrder_47 : decode cX9_dropOrder 47 = .ok (.aload_n 0, 1) := by decide +kernel
theorem dX9_dropOrder_48 : decode cX9_dropOrder 48 = .ok (.getfield 28, 3) := by decide +kernel
theorem dX9_dropOrder_51 : decode cX9_dropOrder 51 = .ok (.iload_n 1, 1) := by decide +kernel
theorem dX9_dropOrder_52 : decode cX9_dropOrder 52 = .ok (.invokevirtual 192, 3) := by decide +kernel
theorem dX9_dropOrder_55 : decode cX9_dropOrder 55 = .ok (.iload_n 2, 1) := by decide +kernel
theorem dX9_dropOrder_56 : decode cX9_dropOrder 56 = .ok (.ireturn, 1) := by decide +kernel
theorem dX9_passDays_0 : decode cX9_passDays 0 = .ok (.iload_n 1, 1) := by decide +kernel
theorem dX9_passDays_1 : decode cX9_passDays 1 = .ok (.iconst 1, 1) := by decide +kernel
theorem dX9_passDays_2 : decode cX9_passDays 2 = .ok (.bipush 60, 2) := by decide +kernel
theorem dX9_passDays_4 : decode cX9_passDays 4 = .ok (.invokestatic 58, 3) := by decide +kernel
theorem dX9_passDays_7 : decode cX9_passDays 7 = .ok (.ifCond .ne 6, 3) := by decide +kernel
theorem dX9_passDays_10 : decode cX9_passDays 10 = .ok (.bipush (-2), 2) := by decide +kernel
theorem dX9_passDays_12 : decode cX9_passDays 12 = .ok (.ireturn, 1) := by decide +kernel
theorem dX9_passDays_13 : decode cX9_passDays 13 = .ok (.aload_n 0, 1) := by decide +kernel
theorem dX9_passDays_14 : decode cX9_passDays 14 = .ok (.getfield 42, 3) := by decide +kernel
theorem dX9_passDays_17 : decode cX9_passDays 17 = .ok (.iload_n 1, 1) := by decide +kernel
theorem dX9_passDays_18 : decode cX9_passDays 18 = .ok (.iadd, 1) := by decide +kernel
theorem dX9_passDays_19 : decode cX9_passDays 19 = .ok (.sipush 3000, 3) := by decide +kernel
theorem dX9_passDays_22 : decode cX9_passDays 22 = .ok (.if_icmp .le 6, 3) := by decide +kernel
theorem dX9_passDays_25 : decode cX9_passDays 25 = .ok (.bipush (-5), 2) := by decide +kernel
theorem dX9_passDays_27 : decode cX9_passDays 27 = .ok (.ireturn, 1) := by decide +kernel
theorem dX9_passDays_28 : decode cX9_passDays 28 = .ok (.aload_n 0, 1) := by decide +kernel
theorem dX9_passDays_29 : decode cX9_passDays 29 = .ok (.dup, 1) := by decide +kernel
theorem dX9_passDays_30 : decode cX9_passDays 30 = .ok (.getfield 55, 3) := by decide +kernel
theorem dX9_passDays_33 : decode cX9_passDays 33 = .ok (.aload_n 0, 1) := by decide +kernel
theorem dX9_passDays_34 : decode cX9_passDays 34 = .ok (.iload_n 1, 1) := by decide +kernel
theorem dX9_passDays_35 : decode cX9_passDays 35 = .ok (.invokevirtual 196, 3) := by decide +kernel
theorem dX9_passDays_38 : decode cX9_passDays 38 = .ok (.iadd, 1) := by decide +kernel
theorem dX9_passDays_39 : decode cX9_passDays 39 = .ok (.putfield 55, 3) := by decide +kernel
theorem dX9_passDays_42 : decode cX9_passDays 42 = .ok (.aload_n 0, 1) := by decide +kernel
theorem dX9_passDays_43 : decode cX9_passDays 43 = .ok (.dup, 1) := by decide +kernel
theorem dX9_passDays_44 : decode cX9_passDays 44 = .ok (.getfield 42, 3) := by decide +kernel
theorem dX9_passDays_47 : decode cX9_passDays 47 = .ok (.iload_n 1, 1) := by decide +kernel
theorem dX9_passDays_48 : decode cX9_passDays 48 = .ok (.iadd, 1) := by decide +kernel
theorem dX9_passDays_49 : decode cX9_passDays 49 = .ok (.putfield 42, 3) := by decide +kernel
theorem dX9_passDays_52 : decode cX9_passDays 52 = .ok (.aload_n 0, 1) := by decide +kernel
theorem dX9_passDays_53 : decode cX9_passDays 53 = .ok (.iconst 0, 1) := by decide +kernel
theorem dX9_passDays_54 : decode cX9_passDays 54 = .ok (.putfield 46, 3) := by decide +kernel
theorem dX9_passDays_57 : decode cX9_passDays 57 = .ok (.aload_n 0, 1) := by decide +kernel
theorem dX9_passDays_58 : decode cX9_passDays 58 = .ok (.getfield 42, 3) := by decide +kernel
theorem dX9_passDays_61 : decode cX9_passDays 61 = .ok (.ireturn, 1) := by decide +kernel
theorem dX9_finesOver_0 : decode cX9_finesOver 0 = .ok (.aload_n 0, 1) := by decide +kernel
theorem dX9_finesOver_1 : decode cX9_finesOver 1 = .ok (.getfield 12, 3) := by decide +kernel
theorem dX9_finesOver_4 : decode cX9_finesOver 4 = .ok (.getfield 69, 3) := by decide +kernel
theorem dX9_finesOver_7 : decode cX9_finesOver 7 = .ok (.bipush 9, 2) := by decide +kernel
theorem dX9_finesOver_9 : decode cX9_finesOver 9 = .ok (.iaload, 1) := by decide +kernel
theorem dX9_finesOver_10 : decode cX9_finesOver 10 = .ok (.aload_n 0, 1) := by decide +kernel
theorem dX9_finesOver_11 : decode cX9_finesOver 11 = .ok (.getfield 28, 3) := by decide +kernel
theorem dX9_finesOver_14 : decode cX9_finesOver 14 = .ok (.aload_n 0, 1) := by decide +kernel
theorem dX9_finesOver_15 : decode cX9_finesOver 15 = .ok (.getfield 42, 3) := by decide +kernel
theorem dX9_finesOver_18 : decode cX9_finesOver 18 = .ok (.iload_n 1, 1) := by decide +kernel
theorem dX9_finesOver_19 : decode cX9_finesOver 19 = .ok (.invokevirtual 199, 3) := by decide +kernel
theorem dX9_finesOver_22 : decode cX9_finesOver 22 = .ok (.imul, 1) := by decide +kernel
theorem dX9_finesOver_23 : decode cX9_finesOver 23 = .ok (.ireturn, 1) := by decide +kernel
theorem dX9_aboutPiece_0 : decode cX9_aboutPiece 0 = .ok (.aload_n 0, 1) := by decide +kernel
theorem dX9_aboutPiece_1 : decode cX9_aboutPiece 1 = .ok (.getfield 21, 3) := by decide +kernel
theorem dX9_aboutPiece_4 : decode cX9_aboutPiece 4 = .ok (.iload_n 1, 1) := by decide +kernel
theorem dX9_aboutPiece_5 : decode cX9_aboutPiece 5 = .ok (.invokevirtual 128, 3) := by decide +kernel
theorem dX9_aboutPiece_8 : decode cX9_aboutPiece 8 = .ok (.ifCond .ne 5, 3) := by decide +kernel
theorem dX9_aboutPiece_11 : decode cX9_aboutPiece 11 = .ok (.iconst (-1), 1) := by decide +kernel
theorem dX9_aboutPiece_12 : decode cX9_aboutPiece 12 = .ok (.ireturn, 1) := by decide +kernel
theorem dX9_aboutPiece_13 : decode cX9_aboutPiece 13 = .ok (.aload_n 0, 1) := by decide +kernel
theorem dX9_aboutPiece_14 : decode cX9_aboutPiece 14 = .ok (.getfield 21, 3) := by decide +kernel
theorem dX9_aboutPiece_17 : decode cX9_aboutPiece 17 = .ok (.getfield 131, 3) := by decide +kernel
theorem dX9_aboutPiece_20 : decode cX9_aboutPiece 20 = .ok (.iload_n 1, 1) := by decide +kernel
theorem dX9_aboutPiece_21 : decode cX9_aboutPiece 21 = .ok (.aaload, 1) := by decide +kernel
theorem dX9_aboutPiece_22 : decode cX9_aboutPiece 22 = .ok (.astore_n 3, 1) := by decide +kernel
theorem dX9_aboutPiece_23 : decode cX9_aboutPiece 23 = .ok (.iload_n 2, 1) := by decide +kernel
theorem dX9_aboutPiece_24 : decode cX9_aboutPiece 24 = .ok (.tableswitch 92 0 7 #[48, 53, 58, 63, 68, 73, 78, 83], 48) := by decide +kernel
theorem dX9_aboutPiece_72 : decode cX9_aboutPiece 72 = .ok (.aload_n 3, 1) := by decide +kernel
theorem dX9_aboutPiece_73 : decode cX9_aboutPiece 73 = .ok (.getfield 202, 3) := by decide +kernel
theorem dX9_aboutPiece_76 : decode cX9_aboutPiece 76 = .ok (.ireturn, 1) := by decide +kernel
theorem dX9_aboutPiece_77 : decode cX9_aboutPiece 77 = .ok (.aload_n 3, 1) := by decide +kernel
theorem dX9_aboutPiece_78 : decode cX9_aboutPiece 78 = .ok (.getfield 203, 3) := by decide +kernel
theorem dX9_aboutPiece_81 : decode cX9_aboutPiece 81 = .ok (.ireturn, 1) := by decide +kernel
theorem dX9_aboutPiece_82 : decode cX9_aboutPiece 82 = .ok (.aload_n 3, 1) := by decide +kernel
theorem dX9_aboutPiece_83 : decode cX9_aboutPiece 83 = .ok (.getfield 206, 3) := by decide +kernel
theorem dX9_aboutPiece_86 : decode cX9_aboutPiece 86 = .ok (.ireturn, 1) := by decide +kernel
theorem dX9_aboutPiece_87 : decode cX9_aboutPiece 87 = .ok (.aload_n 3, 1) := by decide +kernel
theorem dX9_aboutPiece_88 : decode cX9_aboutPiece 88 = .ok (.getfield 141, 3) := by decide +kernel
theorem dX9_aboutPiece_91 : decode cX9_aboutPiece 91 = .ok (.ireturn, 1) := by decide +kernel
theorem dX9_aboutPiece_92 : decode cX9_aboutPiece 92 = .ok (.aload_n 3, 1) := by decide +kernel
theorem dX9_aboutPiece_93 : decode cX9_aboutPiece 93 = .ok (.getfield 209, 3) := by decide +kernel
theorem dX9_aboutPiece_96 : decode cX9_aboutPiece 96 = .ok (.ireturn, 1) := by decide +kernel
theorem dX9_aboutPiece_97 : decode cX9_aboutPiece 97 = .ok (.aload_n 3, 1) := by decide +kernel
theorem dX9_aboutPiece_98 : decode cX9_aboutPiece 98 = .ok (.getfield 212, 3) := by decide +kernel
theorem dX9_aboutPiece_101 : decode cX9_aboutPiece 101 = .ok (.ireturn, 1) := by decide +kernel
theorem dX9_aboutPiece_102 : decode cX9_aboutPiece 102 = .ok (.aload_n 3, 1) := by decide +kernel
theorem dX9_aboutPiece_103 : decode cX9_aboutPiece 103 = .ok (.getfield 215, 3) := by decide +kernel
theorem dX9_aboutPiece_106 : decode cX9_aboutPiece 106 = .ok (.ireturn, 1) := by decide +kernel
theorem dX9_aboutPiece_107 : decode cX9_aboutPiece 107 = .ok (.aload_n 0, 1) := by decide +kernel
theorem dX9_aboutPiece_108 : decode cX9_aboutPiece 108 = .ok (.getfield 12, 3) := by decide +kernel
theorem dX9_aboutPiece_111 : decode cX9_aboutPiece 111 = .ok (.aload_n 3, 1) := by decide +kernel
theorem dX9_aboutPiece_112 : decode cX9_aboutPiece 112 = .ok (.invokevirtual 147, 3) := by decide +kernel
theorem dX9_aboutPiece_115 : decode cX9_aboutPiece 115 = .ok (.ireturn, 1) := by decide +kernel
theorem dX9_aboutPiece_116 : decode cX9_aboutPiece 116 = .ok (.bipush (-2), 2) := by decide +kernel
theorem dX9_aboutPiece_118 : decode cX9_aboutPiece 118 = .ok (.ireturn, 1) := by decide +kernel
theorem dX9_aboutOrder_0 : decode cX9_aboutOrder 0 = .ok (.aload_n 0, 1) := by decide +kernel
theorem dX9_aboutOrder_1 : decode cX9_aboutOrder 1 = .ok (.getfield 28, 3) := by decide +kernel
theorem dX9_aboutOrder_4 : decode cX9_aboutOrder 4 = .ok (.iload_n 1, 1) := by decide +kernel
theorem dX9_aboutOrder_5 : decode cX9_aboutOrder 5 = .ok (.invokevirtual 187, 3) := by decide +kernel
theorem dX9_aboutOrder_8 : decode cX9_aboutOrder 8 = .ok (.ifCond .ne 5, 3) := by decide +kernel
theorem dX9_aboutOrder_11 : decode cX9_aboutOrder 11 = .ok (.iconst (-1), 1) := by decide +kernel
theorem dX9_aboutOrder_12 : decode cX9_aboutOrder 12 = .ok (.ireturn, 1) := by decide +kernel
theorem dX9_aboutOrder_13 : decode cX9_aboutOrder 13 = .ok (.aload_n 0, 1) := by decide +kernel
theorem dX9_aboutOrder_14 : decode cX9_aboutOrder 14 = .ok (.getfield 28, 3) := by decide +kernel
theorem dX9_aboutOrder_17 : decode cX9_aboutOrder 17 = .ok (.getfield 158, 3) := by decide +kernel
theorem dX9_aboutOrder_20 : decode cX9_aboutOrder 20 = .ok (.iload_n 1, 1) := by decide +kernel
theorem dX9_aboutOrder_21 : decode cX9_aboutOrder 21 = .ok (.aaload, 1) := by decide +kernel
theorem dX9_aboutOrder_22 : decode cX9_aboutOrder 22 = .ok (.astore_n 3, 1) := by decide +kernel
theorem dX9_aboutOrder_23 : decode cX9_aboutOrder 23 = .ok (.iload_n 2, 1) := by decide +kernel
theorem dX9_aboutOrder_24 : decode cX9_aboutOrder 24 = .ok (.tableswitch 104 0 7 #[48, 53, 58, 63, 68, 81, 86, 91], 48) := by decide +kernel
theorem dX9_aboutOrder_72 : decode cX9_aboutOrder 72 = .ok (.aload_n 3, 1) := by decide +kernel
theorem dX9_aboutOrder_73 : decode cX9_aboutOrder 73 = .ok (.getfield 165, 3) := by decide +kernel
theorem dX9_aboutOrder_76 : decode cX9_aboutOrder 76 = .ok (.ireturn, 1) := by decide +kernel
theorem dX9_aboutOrder_77 : decode cX9_aboutOrder 77 = .ok (.aload_n 3, 1) := by decide +kernel
theorem dX9_aboutOrder_78 : decode cX9_aboutOrder 78 = .ok (.getfield 170, 3) := by decide +kernel
theorem dX9_aboutOrder_81 : decode cX9_aboutOrder 81 = .ok (.ireturn, 1) := by decide +kernel
theorem dX9_aboutOrder_82 : decode cX9_aboutOrder 82 = .ok (.aload_n 3, 1) := by decide +kernel
theorem dX9_aboutOrder_83 : decode cX9_aboutOrder 83 = .ok (.getfield 173, 3) := by decide +kernel
theorem dX9_aboutOrder_86 : decode cX9_aboutOrder 86 = .ok (.ireturn, 1) := by decide +kernel
theorem dX9_aboutOrder_87 : decode cX9_aboutOrder 87 = .ok (.aload_n 3, 1) := by decide +kernel
theorem dX9_aboutOrder_88 : decode cX9_aboutOrder 88 = .ok (.getfield 174, 3) := by decide +kernel
theorem dX9_aboutOrder_91 : decode cX9_aboutOrder 91 = .ok (.ireturn, 1) := by decide +kernel
theorem dX9_aboutOrder_92 : decode cX9_aboutOrder 92 = .ok (.aload_n 3, 1) := by decide +kernel
theorem dX9_aboutOrder_93 : decode cX9_aboutOrder 93 = .ok (.getfield 177, 3) := by decide +kernel
theorem dX9_aboutOrder_96 : decode cX9_aboutOrder 96 = .ok (.ifCond .eq 7, 3) := by decide +kernel
theorem dX9_aboutOrder_99 : decode cX9_aboutOrder 99 = .ok (.iconst 1, 1) := by decide +kernel
theorem dX9_aboutOrder_100 : decode cX9_aboutOrder 100 = .ok (.goto 4, 3) := by decide +kernel
theorem dX9_aboutOrder_103 : decode cX9_aboutOrder 103 = .ok (.iconst 0, 1) := by decide +kernel
theorem dX9_aboutOrder_104 : decode cX9_aboutOrder 104 = .ok (.ireturn, 1) := by decide +kernel
theorem dX9_aboutOrder_105 : decode cX9_aboutOrder 105 = .ok (.aload_n 3, 1) := by decide +kernel
theorem dX9_aboutOrder_106 : decode cX9_aboutOrder 106 = .ok (.getfield 181, 3) := by decide +kernel
theorem dX9_aboutOrder_109 : decode cX9_aboutOrder 109 = .ok (.ireturn, 1) := by decide +kernel
theorem dX9_aboutOrder_110 : decode cX9_aboutOrder 110 = .ok (.aload_n 3, 1) := by decide +kernel
theorem dX9_aboutOrder_111 : decode cX9_aboutOrder 111 = .ok (.getfield 184, 3) := by decide +kernel
theorem dX9_aboutOrder_114 : decode cX9_aboutOrder 114 = .ok (.ireturn, 1) := by decide +kernel
theorem dX9_aboutOrder_115 : decode cX9_aboutOrder 115 = .ok (.aload_n 0, 1) := by decide +kernel
theorem dX9_aboutOrder_116 : decode cX9_aboutOrder 116 = .ok (.getfield 21, 3) := by decide +kernel
theorem dX9_aboutOrder_119 : decode cX9_aboutOrder 119 = .ok (.aload_n 3, 1) := by decide +kernel
theorem dX9_aboutOrder_120 : decode cX9_aboutOrder 120 = .ok (.aload_n 0, 1) := by decide +kernel
theorem dX9_aboutOrder_121 : decode cX9_aboutOrder 121 = .ok (.getfield 12, 3) := by decide +kernel
theorem dX9_aboutOrder_124 : decode cX9_aboutOrder 124 = .ok (.invokevirtual 218, 3) := by decide +kernel
theorem dX9_aboutOrder_127 : decode cX9_aboutOrder 127 = .ok (.ireturn, 1) := by decide +kernel
theorem dX9_aboutOrder_128 : decode cX9_aboutOrder 128 = .ok (.bipush (-2), 2) := by decide +kernel
theorem dX9_aboutOrder_130 : decode cX9_aboutOrder 130 = .ok (.ireturn, 1) := by decide +kernel
theorem dX9_aboutAll_0 : decode cX9_aboutAll 0 = .ok (.iload_n 1, 1) := by decide +kernel
theorem dX9_aboutAll_1 : decode cX9_aboutAll 1 = .ok (.tableswitch 84 0 6 #[43, 48, 56, 64, 69, 74, 79], 43) := by decide +kernel
theorem dX9_aboutAll_44 : decode cX9_aboutAll 44 = .ok (.aload_n 0, 1) := by decide +kernel
theorem dX9_aboutAll_45 : decode cX9_aboutAll 45 = .ok (.getfield 42, 3) := by decide +kernel
theorem dX9_aboutAll_48 : decode cX9_aboutAll 48 = .ok (.ireturn, 1) := by decide +kernel
theorem dX9_aboutAll_49 : decode cX9_aboutAll 49 = .ok (.aload_n 0, 1) := by decide +kernel
theorem dX9_aboutAll_50 : decode cX9_aboutAll 50 = .ok (.getfield 21, 3) := by decide +kernel
theorem dX9_aboutAll_53 : decode cX9_aboutAll 53 = .ok (.getfield 221, 3) := by decide +kernel
theorem dX9_aboutAll_56 : decode cX9_aboutAll 56 = .ok (.ireturn, 1) := by decide +kernel
theorem dX9_aboutAll_57 : decode cX9_aboutAll 57 = .ok (.aload_n 0, 1) := by decide +kernel
theorem dX9_aboutAll_58 : decode cX9_aboutAll 58 = .ok (.getfield 28, 3) := by decide +kernel
theorem dX9_aboutAll_61 : decode cX9_aboutAll 61 = .ok (.getfield 162, 3) := by decide +kernel
theorem dX9_aboutAll_64 : decode cX9_aboutAll 64 = .ok (.ireturn, 1) := by decide +kernel
theorem dX9_aboutAll_65 : decode cX9_aboutAll 65 = .ok (.aload_n 0, 1) := by decide +kernel
theorem dX9_aboutAll_66 : decode cX9_aboutAll 66 = .ok (.invokevirtual 119, 3) := by decide +kernel
theorem dX9_aboutAll_69 : decode cX9_aboutAll 69 = .ok (.ireturn, 1) := by decide +kernel
theorem dX9_aboutAll_70 : decode cX9_aboutAll 70 = .ok (.aload_n 0, 1) := by decide +kernel
theorem dX9_aboutAll_71 : decode cX9_aboutAll 71 = .ok (.getfield 49, 3) := by decide +kernel
theorem dX9_aboutAll_74 : decode cX9_aboutAll 74 = .ok (.ireturn, 1) := by decide +kernel
theorem dX9_aboutAll_75 : decode cX9_aboutAll 75 = .ok (.aload_n 0, 1) := by decide +kernel
theorem dX9_aboutAll_76 : decode cX9_aboutAll 76 = .ok (.getfield 52, 3) := by decide +kernel
theorem dX9_aboutAll_79 : decode cX9_aboutAll 79 = .ok (.ireturn, 1) := by decide +kernel
theorem dX9_aboutAll_80 : decode cX9_aboutAll 80 = .ok (.aload_n 0, 1) := by decide +kernel
theorem dX9_aboutAll_81 : decode cX9_aboutAll 81 = .ok (.getfield 55, 3) := by decide +kernel
theorem dX9_aboutAll_84 : decode cX9_aboutAll 84 = .ok (.ireturn, 1) := by decide +kernel
theorem dX9_aboutAll_85 : decode cX9_aboutAll 85 = .ok (.aload_n 0, 1) := by decide +kernel
theorem dX9_aboutAll_86 : decode cX9_aboutAll 86 = .ok (.iload_n 1, 1) := by decide +kernel
theorem dX9_aboutAll_87 : decode cX9_aboutAll 87 = .ok (.invokevirtual 222, 3) := by decide +kernel
theorem dX9_aboutAll_90 : decode cX9_aboutAll 90 = .ok (.ireturn, 1) := by decide +kernel
theorem dX9_aboutRules_0 : decode cX9_aboutRules 0 = .ok (.iload_n 1, 1) := by decide +kernel
theorem dX9_aboutRules_1 : decode cX9_aboutRules 1 = .ok (.bipush 9, 2) := by decide +kernel
theorem dX9_aboutRules_3 : decode cX9_aboutRules 3 = .ok (.bipush 18, 2) := by decide +kernel
theorem dX9_aboutRules_5 : decode cX9_aboutRules 5 = .ok (.invokestatic 58, 3) := by decide +kernel
theorem dX9_aboutRules_8 : decode cX9_aboutRules 8 = .ok (.ifCond .eq 16, 3) := by decide +kernel
theorem dX9_aboutRules_11 : decode cX9_aboutRules 11 = .ok (.aload_n 0, 1) := by decide +kernel
theorem dX9_aboutRules_12 : decode cX9_aboutRules 12 = .ok (.getfield 12, 3) := by decide +kernel
theorem dX9_aboutRules_15 : decode cX9_aboutRules 15 = .ok (.getfield 69, 3) := by decide +kernel
theorem dX9_aboutRules_18 : decode cX9_aboutRules 18 = .ok (.iload_n 1, 1) := by decide +kernel
theorem dX9_aboutRules_19 : decode cX9_aboutRules 19 = .ok (.bipush 9, 2) := by decide +kernel
theorem dX9_aboutRules_21 : decode cX9_aboutRules 21 = .ok (.isub, 1) := by decide +kernel
theorem dX9_aboutRules_22 : decode cX9_aboutRules 22 = .ok (.iaload, 1) := by decide +kernel
theorem dX9_aboutRules_23 : decode cX9_aboutRules 23 = .ok (.ireturn, 1) := by decide +kernel
theorem dX9_aboutRules_24 : decode cX9_aboutRules 24 = .ok (.iload_n 1, 1) := by decide +kernel
theorem dX9_aboutRules_25 : decode cX9_aboutRules 25 = .ok (.bipush 19, 2) := by decide +kernel
theorem dX9_aboutRules_27 : decode cX9_aboutRules 27 = .ok (.bipush 21, 2) := by decide +kernel
theorem dX9_aboutRules_29 : decode cX9_aboutRules 29 = .ok (.invokestatic 58, 3) := by decide +kernel
theorem dX9_aboutRules_32 : decode cX9_aboutRules 32 = .ok (.ifCond .eq 16, 3) := by decide +kernel
theorem dX9_aboutRules_35 : decode cX9_aboutRules 35 = .ok (.aload_n 0, 1) := by decide +kernel
theorem dX9_aboutRules_36 : decode cX9_aboutRules 36 = .ok (.getfield 12, 3) := by decide +kernel
theorem dX9_aboutRules_39 : decode cX9_aboutRules 39 = .ok (.getfield 76, 3) := by decide +kernel
theorem dX9_aboutRules_42 : decode cX9_aboutRules 42 = .ok (.iload_n 1, 1) := by decide +kernel
theorem dX9_aboutRules_43 : decode cX9_aboutRules 43 = .ok (.bipush 19, 2) := by decide +kernel
theorem dX9_aboutRules_45 : decode cX9_aboutRules 45 = .ok (.isub, 1) := by decide +kernel
theorem dX9_aboutRules_46 : decode cX9_aboutRules 46 = .ok (.iaload, 1) := by decide +kernel
theorem dX9_aboutRules_47 : decode cX9_aboutRules 47 = .ok (.ireturn, 1) := by decide +kernel
theorem dX9_aboutRules_48 : decode cX9_aboutRules 48 = .ok (.iload_n 1, 1) := by decide +kernel
theorem dX9_aboutRules_49 : decode cX9_aboutRules 49 = .ok (.bipush 22, 2) := by decide +kernel
theorem dX9_aboutRules_51 : decode cX9_aboutRules 51 = .ok (.bipush 24, 2) := by decide +kernel
theorem dX9_aboutRules_53 : decode cX9_aboutRules 53 = .ok (.invokestatic 58, 3) := by decide +kernel
theorem dX9_aboutRules_56 : decode cX9_aboutRules 56 = .ok (.ifCond .eq 18, 3) := by decide +kernel
theorem dX9_aboutRules_59 : decode cX9_aboutRules 59 = .ok (.aload_n 0, 1) := by decide +kernel
theorem dX9_aboutRules_60 : decode cX9_aboutRules 60 = .ok (.getfield 12, 3) := by decide +kernel
theorem dX9_aboutRules_63 : decode cX9_aboutRules 63 = .ok (.getfield 79, 3) := by decide +kernel
theorem dX9_aboutRules_66 : decode cX9_aboutRules 66 = .ok (.iload_n 1, 1) := by decide +kernel
theorem dX9_aboutRules_67 : decode cX9_aboutRules 67 = .ok (.bipush 22, 2) := by decide +kernel
theorem dX9_aboutRules_69 : decode cX9_aboutRules 69 = .ok (.isub, 1) := by decide +kernel
theorem dX9_aboutRules_70 : decode cX9_aboutRules 70 = .ok (.iaload, 1) := by decide +kernel
theorem dX9_aboutRules_71 : decode cX9_aboutRules 71 = .ok (.goto 5, 3) := by decide +kernel
theorem dX9_aboutRules_74 : decode cX9_aboutRules 74 = .ok (.bipush (-2), 2) := by decide +kernel
theorem dX9_aboutRules_76 : decode cX9_aboutRules 76 = .ok (.ireturn, 1) := by decide +kernel
theorem dX10_init_0 : decode cX10_init 0 = .ok (.aload_n 0, 1) := by decide +kernel
theorem dX10_init_1 : decode cX10_init 1 = .ok (.invokespecial 1, 3) := by decide +kernel
theorem dX10_init_4 : decode cX10_init 4 = .ok (.aload_n 0, 1) := by decide +kernel
theorem dX10_init_5 : decode cX10_init 5 = .ok (.new 7, 3) := by decide +kernel
theorem dX10_init_8 : decode cX10_init 8 = .ok (.dup, 1) := by decide +kernel
theorem dX10_init_9 : decode cX10_init 9 = .ok (.invokespecial 9, 3) := by decide +kernel
theorem dX10_init_12 : decode cX10_init 12 = .ok (.putfield 10, 3) := by decide +kernel
theorem dX10_init_15 : decode cX10_init 15 = .ok (.aload_n 0, 1) := by decide +kernel
theorem dX10_init_16 : decode cX10_init 16 = .ok (.new 16, 3) := by decide +kernel
theorem dX10_init_19 : decode cX10_init 19 = .ok (.dup, 1) := by decide +kernel
theorem dX10_init_20 : decode cX10_init 20 = .ok (.invokespecial 18, 3) := by decide +kernel
theorem dX10_init_23 : decode cX10_init 23 = .ok (.putfield 19, 3) := by decide +kernel
theorem dX10_init_26 : decode cX10_init 26 = .ok (.aload_n 0, 1) := by decide +kernel
theorem dX10_init_27 : decode cX10_init 27 = .ok (.iconst 2, 1) := by decide +kernel
theorem dX10_init_28 : decode cX10_init 28 = .ok (.anewarray 7, 3) := by decide +kernel
theorem dX10_init_31 : decode cX10_init 31 = .ok (.putfield 23, 3) := by decide +kernel
theorem dX10_init_34 : decode cX10_init 34 = .ok (.aload_n 0, 1) := by decide +kernel
theorem dX10_init_35 : decode cX10_init 35 = .ok (.iconst 2, 1) := by decide +kernel
theorem dX10_init_36 : decode cX10_init 36 = .ok (.newarray .boolean, 2) := by decide +kernel
theorem dX10_init_38 : decode cX10_init 38 = .ok (.putfield 27, 3) := by decide +kernel
theorem dX10_init_41 : decode cX10_init 41 = .ok (.aload_n 0, 1) := by decide +kernel
theorem dX10_init_42 : decode cX10_init 42 = .ok (.new 31, 3) := by decide +kernel
theorem dX10_init_45 : decode cX10_init 45 = .ok (.dup, 1) := by decide +kernel
theorem dX10_init_46 : decode cX10_init 46 = .ok (.invokespecial 33, 3) := by decide +kernel
theorem dX10_init_49 : decode cX10_init 49 = .ok (.putfield 34, 3) := by decide +kernel
theorem dX10_init_52 : decode cX10_init 52 = .ok (.aload_n 0, 1) := by decide +kernel
theorem dX10_init_53 : decode cX10_init 53 = .ok (.aload_n 0, 1) := by decide +kernel
theorem dX10_init_54 : decode cX10_init 54 = .ok (.getfield 34, 3) := by decide +kernel
theorem dX10_init_57 : decode cX10_init 57 = .ok (.getfield 38, 3) := by decide +kernel
theorem dX10_init_60 : decode cX10_init 60 = .ok (.putfield 42, 3) := by decide +kernel
theorem dX10_init_63 : decode cX10_init 63 = .ok (.aload_n 0, 1) := by decide +kernel
theorem dX10_init_64 : decode cX10_init 64 = .ok (.new 43, 3) := by decide +kernel
theorem dX10_init_67 : decode cX10_init 67 = .ok (.dup, 1) := by decide +kernel
theorem dX10_init_68 : decode cX10_init 68 = .ok (.invokespecial 45, 3) := by decide +kernel
theorem dX10_init_71 : decode cX10_init 71 = .ok (.putfield 46, 3) := by decide +kernel
theorem dX10_init_74 : decode cX10_init 74 = .ok (.iconst 0, 1) := by decide +kernel
theorem dX10_init_75 : decode cX10_init 75 = .ok (.istore_n 1, 1) := by decide +kernel
theorem dX10_init_76 : decode cX10_init 76 = .ok (.iload_n 1, 1) := by decide +kernel
theorem dX10_init_77 : decode cX10_init 77 = .ok (.iconst 2, 1) := by decide +kernel
theorem dX10_init_78 : decode cX10_init 78 = .ok (.if_icmp .ge 22, 3) := by decide +kernel
theorem dX10_init_81 : decode cX10_init 81 = .ok (.aload_n 0, 1) := by decide +kernel
theorem dX10_init_82 : decode cX10_init 82 = .ok (.getfield 23, 3) := by decide +kernel
theorem dX10_init_85 : decode cX10_init 85 = .ok (.iload_n 1, 1) := by decide +kernel
theorem dX10_init_86 : decode cX10_init 86 = .ok (.new 7, 3) := by decide +kernel
theorem dX10_init_89 : decode cX10_init 89 = .ok (.dup, 1) := by decide +kernel
theorem dX10_init_90 : decode cX10_init 90 = .ok (.invokespecial 9, 3) := by decide +kernel
theorem dX10_init_93 : decode cX10_init 93 = .ok (.aastore, 1) := by decide +kernel
theorem dX10_init_94 : decode cX10_init 94 = .ok (.iinc 1 1, 3) := by decide +kernel
theorem dX10_init_97 : decode cX10_init 97 = .ok (.goto (-21), 3) := by decide +kernel
theorem dX10_init_100 : decode cX10_init 100 = .ok (.return_, 1) := by decide +kernel
theorem dX10_set_0 : decode cX10_set 0 = .ok (.aload_n 0, 1) := by decide +kernel
theorem dX10_set_1 : decode cX10_set 1 = .ok (.getfield 19, 3) := by decide +kernel
theorem dX10_set_4 : decode cX10_set 4 = .ok (.aload_n 0, 1) := by decide +kernel
theorem dX10_set_5 : decode cX10_set 5 = .ok (.getfield 10, 3) := by decide +kernel
theorem dX10_set_8 : decode cX10_set 8 = .ok (.invokevirtual 50, 3) := by decide +kernel
theorem dX10_set_11 : decode cX10_set 11 = .ok (.aload_n 0, 1) := by decide +kernel
theorem dX10_set_12 : decode cX10_set 12 = .ok (.getfield 19, 3) := by decide +kernel
theorem dX10_set_15 : decode cX10_set 15 = .ok (.aload_n 0, 1) := by decide +kernel
theorem dX10_set_16 : decode cX10_set 16 = .ok (.getfield 10, 3) := by decide +kernel
theorem dX10_set_19 : decode cX10_set 19 = .ok (.iload_n 1, 1) := by decide +kernel
theorem dX10_set_20 : decode cX10_set 20 = .ok (.iload_n 2, 1) := by decide +kernel
theorem dX10_set_21 : decode cX10_set 21 = .ok (.invokevirtual 54, 3) := by decide +kernel
theorem dX10_set_24 : decode cX10_set 24 = .ok (.invokevirtual 58, 3) := by decide +kernel
theorem dX10_set_27 : decode cX10_set 27 = .ok (.ireturn, 1) := by decide +kernel
theorem dX10_fibre_0 : decode cX10_fibre 0 = .ok (.aload_n 0, 1) := by decide +kernel
theorem dX10_fibre_1 : decode cX10_fibre 1 = .ok (.getfield 19, 3) := by decide +kernel
theorem dX10_fibre_4 : decode cX10_fibre 4 = .ok (.aload_n 0, 1) := by decide +kernel
theorem dX10_fibre_5 : decode cX10_fibre 5 = .ok (.getfield 10, 3) := by decide +kernel
theorem dX10_fibre_8 : decode cX10_fibre 8 = .ok (.invokevirtual 50, 3) := by decide +kernel
theorem dX10_fibre_11 : decode cX10_fibre 11 = .ok (.aload_n 0, 1) := by decide +kernel
theorem dX10_fibre_12 : decode cX10_fibre 12 = .ok (.getfield 19, 3) := by decide +kernel
theorem dX10_fibre_15 : decode cX10_fibre 15 = .ok (.aload_n 0, 1) := by decide +kernel
theorem dX10_fibre_16 : decode cX10_fibre 16 = .ok (.getfield 10, 3) := by decide +kernel
theorem dX10_fibre_19 : decode cX10_fibre 19 = .ok (.iload_n 1, 1) := by decide +kernel
theorem dX10_fibre_20 : decode cX10_fibre 20 = .ok (.iload_n 2, 1) := by decide +kernel
theorem dX10_fibre_21 : decode cX10_fibre 21 = .ok (.iload_n 3, 1) := by decide +kernel
theorem dX10_fibre_22 : decode cX10_fibre 22 = .ok (.invokevirtual 62, 3) := by decide +kernel
theorem dX10_fibre_25 : decode cX10_fibre 25 = .ok (.invokevirtual 58, 3) := by decide +kernel
theorem dX10_fibre_28 : decode cX10_fibre 28 = .ok (.ireturn, 1) := by decide +kernel
theorem dX10_spin_0 : decode cX10_spin 0 = .ok (.aload_n 0, 1) := by decide +kernel
theorem dX10_spin_1 : decode cX10_spin 1 = .ok (.getfield 19, 3) := by decide +kernel
theorem dX10_spin_4 : decode cX10_spin 4 = .ok (.aload_n 0, 1) := by decide +kernel
theorem dX10_spin_5 : decode cX10_spin 5 = .ok (.getfield 10, 3) := by decide +kernel
theorem dX10_spin_8 : decode cX10_spin 8 = .ok (.invokevirtual 50, 3) := by decide +kernel
theorem dX10_spin_11 : decode cX10_spin 11 = .ok (.aload_n 0, 1) := by decide +kernel
theorem dX10_spin_12 : decode cX10_spin 12 = .ok (.getfield 19, 3) := by decide +kernel
theorem dX10_spin_15 : decode cX10_spin 15 = .ok (.aload_n 0, 1) := by decide +kernel
theorem dX10_spin_16 : decode cX10_spin 16 = .ok (.getfield 10, 3) := by decide +kernel
theorem dX10_spin_19 : decode cX10_spin 19 = .ok (.iload_n 1, 1) := by decide +kernel
theorem dX10_spin_20 : decode cX10_spin 20 = .ok (.iload_n 2, 1) := by decide +kernel
theorem dX10_spin_21 : decode cX10_spin 21 = .ok (.invokevirtual 66, 3) := by decide +kernel
theorem dX10_spin_24 : decode cX10_spin 24 = .ok (.invokevirtual 58, 3) := by decide +kernel
theorem dX10_spin_27 : decode cX10_spin 27 = .ok (.ireturn, 1) := by decide +kernel
theorem dX10_lay_0 : decode cX10_lay 0 = .ok (.aload_n 0, 1) := by decide +kernel
theorem dX10_lay_1 : decode cX10_lay 1 = .ok (.getfield 19, 3) := by decide +kernel
theorem dX10_lay_4 : decode cX10_lay 4 = .ok (.aload_n 0, 1) := by decide +kernel
theorem dX10_lay_5 : decode cX10_lay 5 = .ok (.getfield 10, 3) := by decide +kernel
theorem dX10_lay_8 : decode cX10_lay 8 = .ok (.invokevirtual 50, 3) := by decide +kernel
theorem dX10_lay_11 : decode cX10_lay 11 = .ok (.aload_n 0, 1) := by decide +kernel
theorem dX10_lay_12 : decode cX10_lay 12 = .ok (.getfield 19, 3) := by decide +kernel
theorem dX10_lay_15 : decode cX10_lay 15 = .ok (.aload_n 0, 1) := by decide +kernel
theorem dX10_lay_16 : decode cX10_lay 16 = .ok (.getfield 10, 3) := by decide +kernel
theorem dX10_lay_19 : decode cX10_lay 19 = .ok (.iload_n 1, 1) := by decide +kernel
theorem dX10_lay_20 : decode cX10_lay 20 = .ok (.iload_n 2, 1) := by decide +kernel
theorem dX10_lay_21 : decode cX10_lay 21 = .ok (.iload_n 3, 1) := by decide +kernel
theorem dX10_lay_22 : decode cX10_lay 22 = .ok (.iload 4, 2) := by decide +kernel
theorem dX10_lay_24 : decode cX10_lay 24 = .ok (.invokevirtual 69, 3) := by decide +kernel
theorem dX10_lay_27 : decode cX10_lay 27 = .ok (.invokevirtual 58, 3) := by decide +kernel
theorem dX10_lay_30 : decode cX10_lay 30 = .ok (.ireturn, 1) := by decide +kernel
theorem dX10_join_0 : decode cX10_join 0 = .ok (.aload_n 0, 1) := by decide +kernel
theorem dX10_join_1 : decode cX10_join 1 = .ok (.getfield 19, 3) := by decide +kernel
theorem dX10_join_4 : decode cX10_join 4 = .ok (.aload_n 0, 1) := by decide +kernel
theorem dX10_join_5 : decode cX10_join 5 = .ok (.getfield 10, 3) := by decide +kernel
theorem dX10_join_8 : decode cX10_join 8 = .ok (.invokevirtual 50, 3) := by decide +kernel
theorem dX10_join_11 : decode cX10_join 11 = .ok (.aload_n 0, 1) := by decide +kernel
theorem dX10_join_12 : decode cX10_join 12 = .ok (.getfield 19, 3) := by decide +kernel
theorem dX10_join_15 : decode cX10_join 15 = .ok (.aload_n 0, 1) := by decide +kernel
theorem dX10_join_16 : decode cX10_join 16 = .ok (.getfield 10, 3) := by decide +kernel
theorem dX10_join_19 : decode cX10_join 19 = .ok (.iload_n 1, 1) := by decide +kernel
theorem dX10_join_20 : decode cX10_join 20 = .ok (.iload_n 2, 1) := by decide +kernel
theorem dX10_join_21 : decode cX10_join 21 = .ok (.invokevirtual 73, 3) := by decide +kernel
theorem dX10_join_24 : decode cX10_join 24 = .ok (.invokevirtual 58, 3) := by decide +kernel
theorem dX10_join_27 : decode cX10_join 27 = .ok (.ireturn, 1) := by decide +kernel
theorem dX10_test_0 : decode cX10_test 0 = .ok (.aload_n 0, 1) := by decide +kernel
theorem dX10_test_1 : decode cX10_test 1 = .ok (.getfield 19, 3) := by decide +kernel
theorem dX10_test_4 : decode cX10_test 4 = .ok (.aload_n 0, 1) := by decide +kernel
theorem dX10_test_5 : decode cX10_test 5 = .ok (.getfield 10, 3) := by decide +kernel
theorem dX10_test_8 : decode cX10_test 8 = .ok (.invokevirtual 50, 3) := by decide +kernel
theorem dX10_test_11 : decode cX10_test 11 = .ok (.aload_n 0, 1) := by decide +kernel
theorem dX10_test_12 : decode cX10_test 12 = .ok (.getfield 19, 3) := by decide +kernel
theorem dX10_test_15 : decode cX10_test 15 = .ok (.aload_n 0, 1) := by decide +kernel
theorem dX10_test_16 : decode cX10_test 16 = .ok (.getfield 10, 3) := by decide +kernel
theorem dX10_test_19 : decode cX10_test 19 = .ok (.iload_n 1, 1) := by decide +kernel
theorem dX10_test_20 : decode cX10_test 20 = .ok (.invokevirtual 76, 3) := by decide +kernel
theorem dX10_test_23 : decode cX10_test 23 = .ok (.invokevirtual 58, 3) := by decide +kernel
theorem dX10_test_26 : decode cX10_test 26 = .ok (.ireturn, 1) := by decide +kernel
theorem dX10_order_0 : decode cX10_order 0 = .ok (.aload_n 0, 1) := by decide +kernel
theorem dX10_order_1 : decode cX10_order 1 = .ok (.getfield 19, 3) := by decide +kernel
theorem dX10_order_4 : decode cX10_order 4 = .ok (.aload_n 0, 1) := by decide +kernel
theorem dX10_order_5 : decode cX10_order 5 = .ok (.getfield 10, 3) := by decide +kernel
theorem dX10_order_8 : decode cX10_order 8 = .ok (.invokevirtual 50, 3) := by decide +kernel
theorem dX10_order_11 : decode cX10_order 11 = .ok (.aload_n 0, 1) := by decide +kernel
theorem dX10_order_12 : decode cX10_order 12 = .ok (.getfield 19, 3) := by decide +kernel
theorem dX10_order_15 : decode cX10_order 15 = .ok (.aload_n 0, 1) := by decide +kernel
theorem dX10_order_16 : decode cX10_order 16 = .ok (.getfield 10, 3) := by decide +kernel
theorem dX10_order_19 : decode cX10_order 19 = .ok (.iload_n 1, 1) := by decide +kernel
theorem dX10_order_20 : decode cX10_order 20 = .ok (.iload_n 2, 1) := by decide +kernel
theorem dX10_order_21 : decode cX10_order 21 = .ok (.iload_n 3, 1) := by decide +kernel
theorem dX10_order_22 : decode cX10_order 22 = .ok (.iload 4, 2) := by decide +kernel
theorem dX10_order_24 : decode cX10_order 24 = .ok (.iload 5, 2) := by decide +kernel
theorem dX10_order_26 : decode cX10_order 26 = .ok (.iload 6, 2) := by decide +kernel
theorem dX10_order_28 : decode cX10_order 28 = .ok (.invokevirtual 79, 3) := by decide +kernel
theorem dX10_order_31 : decode cX10_order 31 = .ok (.invokevirtual 58, 3) := by decide +kernel
theorem dX10_order_34 : decode cX10_order 34 = .ok (.ireturn, 1) := by decide +kernel
theorem dX10_fill_0 : decode cX10_fill 0 = .ok (.aload_n 0, 1) := by decide +kernel
theorem dX10_fill_1 : decode cX10_fill 1 = .ok (.getfield 19, 3) := by decide +kernel
theorem dX10_fill_4 : decode cX10_fill 4 = .ok (.aload_n 0, 1) := by decide +kernel
theorem dX10_fill_5 : decode cX10_fill 5 = .ok (.getfield 10, 3) := by decide +kernel
theorem dX10_fill_8 : decode cX10_fill 8 = .ok (.invokevirtual 50, 3) := by decide +kernel
theorem dX10_fill_11 : decode cX10_fill 11 = .ok (.aload_n 0, 1) := by decide +kernel
theorem dX10_fill_12 : decode cX10_fill 12 = .ok (.getfield 19, 3) := by decide +kernel
theorem dX10_fill_15 : decode cX10_fill 15 = .ok (.aload_n 0, 1) := by decide +kernel
theorem dX10_fill_16 : decode cX10_fill 16 = .ok (.getfield 10, 3) := by decide +kernel
theorem dX10_fill_19 : decode cX10_fill 19 = .ok (.iload_n 1, 1) := by decide +kernel
theorem dX10_fill_20 : decode cX10_fill 20 = .ok (.invokevirtual 83, 3) := by decide +kernel
theorem dX10_fill_23 : decode cX10_fill 23 = .ok (.invokevirtual 58, 3) := by decide +kernel
theorem dX10_fill_26 : decode cX10_fill 26 = .ok (.ireturn, 1) := by decide +kernel
theorem dX10_drop_0 : decode cX10_drop 0 = .ok (.aload_n 0, 1) := by decide +kernel
theorem dX10_drop_1 : decode cX10_drop 1 = .ok (.getfield 19, 3) := by decide +kernel
theorem dX10_drop_4 : decode cX10_drop 4 = .ok (.aload_n 0, 1) := by decide +kernel
theorem dX10_drop_5 : decode cX10_drop 5 = .ok (.getfield 10, 3) := by decide +kernel
theorem dX10_drop_8 : decode cX10_drop 8 = .ok (.invokevirtual 50, 3) := by decide +kernel
theorem dX10_drop_11 : decode cX10_drop 11 = .ok (.aload_n 0, 1) := by decide +kernel
theorem dX10_drop_12 : decode cX10_drop 12 = .ok (.getfield 19, 3) := by decide +kernel
theorem dX10_drop_15 : decode cX10_drop 15 = .ok (.aload_n 0, 1) := by decide +kernel
theorem dX10_drop_16 : decode cX10_drop 16 = .ok (.getfield 10, 3) := by decide +kernel
theorem dX10_drop_19 : decode cX10_drop 19 = .ok (.iload_n 1, 1) := by decide +kernel
theorem dX10_drop_20 : decode cX10_drop 20 = .ok (.invokevirtual 86, 3) := by decide +kernel
theorem dX10_drop_23 : decode cX10_drop 23 = .ok (.invokevirtual 58, 3) := by decide +kernel
theorem dX10_drop_26 : decode cX10_drop 26 = .ok (.ireturn, 1) := by decide +kernel
theorem dX10_pass_0 : decode cX10_pass 0 = .ok (.aload_n 0, 1) := by decide +kernel
theorem dX10_pass_1 : decode cX10_pass 1 = .ok (.getfield 19, 3) := by decide +kernel
theorem dX10_pass_4 : decode cX10_pass 4 = .ok (.aload_n 0, 1) := by decide +kernel
theorem dX10_pass_5 : decode cX10_pass 5 = .ok (.getfield 10, 3) := by decide +kernel
theorem dX10_pass_8 : decode cX10_pass 8 = .ok (.invokevirtual 50, 3) := by decide +kernel
theorem dX10_pass_11 : decode cX10_pass 11 = .ok (.aload_n 0, 1) := by decide +kernel
theorem dX10_pass_12 : decode cX10_pass 12 = .ok (.getfield 19, 3) := by decide +kernel
theorem dX10_pass_15 : decode cX10_pass 15 = .ok (.aload_n 0, 1) := by decide +kernel
theorem dX10_pass_16 : decode cX10_pass 16 = .ok (.getfield 10, 3) := by decide +kernel
theorem dX10_pass_19 : decode cX10_pass 19 = .ok (.iload_n 1, 1) := by decide +kernel
theorem dX10_pass_20 : decode cX10_pass 20 = .ok (.invokevirtual 89, 3) := by decide +kernel
theorem dX10_pass_23 : decode cX10_pass 23 = .ok (.invokevirtual 58, 3) := by decide +kernel
theorem dX10_pass_26 : decode cX10_pass 26 = .ok (.ireturn, 1) := by decide +kernel
theorem dX10_piece_0 : decode cX10_piece 0 = .ok (.aload_n 0, 1) := by decide +kernel
theorem dX10_piece_1 : decode cX10_piece 1 = .ok (.getfield 10, 3) := by decide +kernel
theorem dX10_piece_4 : decode cX10_piece 4 = .ok (.iload_n 1, 1) := by decide +kernel
theorem dX10_piece_5 : decode cX10_piece 5 = .ok (.iload_n 2, 1) := by decide +kernel
theorem dX10_piece_6 : decode cX10_piece 6 = .ok (.invokevirtual 92, 3) := by decide +kernel
theorem dX10_piece_9 : decode cX10_piece 9 = .ok (.ireturn, 1) := by decide +kernel
theorem dX10_ofOrder_0 : decode cX10_ofOrder 0 = .ok (.aload_n 0, 1) := by decide +kernel
theorem dX10_ofOrder_1 : decode cX10_ofOrder 1 = .ok (.getfield 10, 3) := by decide +kernel
theorem dX10_ofOrder_4 : decode cX10_ofOrder 4 = .ok (.iload_n 1, 1) := by decide +kernel
theorem dX10_ofOrder_5 : decode cX10_ofOrder 5 = .ok (.iload_n 2, 1) := by decide +kernel
theorem dX10_ofOrder_6 : decode cX10_ofOrder 6 = .ok (.invokevirtual 95, 3) := by decide +kernel
theorem dX10_ofOrder_9 : decode cX10_ofOrder 9 = .ok (.ireturn, 1) := by decide +kernel
theorem dX10_count_0 : decode cX10_count 0 = .ok (.iload_n 1, 1) := by decide +kernel
theorem dX10_count_1 : decode cX10_count 1 = .ok (.lookupswitch 43 #[(7, 27), (8, 35)], 27) := by decide +kernel
theorem dX10_count_28 : decode cX10_count 28 = .ok (.aload_n 0, 1) := by decide +kernel
theorem dX10_count_29 : decode cX10_count 29 = .ok (.getfield 42, 3) := by decide +kernel
theorem dX10_count_32 : decode cX10_count 32 = .ok (.getfield 98, 3) := by decide +kernel
theorem dX10_count_35 : decode cX10_count 35 = .ok (.ireturn, 1) := by decide +kernel
theorem dX10_count_36 : decode cX10_count 36 = .ok (.aload_n 0, 1) := by decide +kernel
theorem dX10_count_37 : decode cX10_count 37 = .ok (.getfield 19, 3) := by decide +kernel
theorem dX10_count_40 : decode cX10_count 40 = .ok (.getfield 104, 3) := by decide +kernel
theorem dX10_count_43 : decode cX10_count 43 = .ok (.ireturn, 1) := by decide +kernel
theorem dX10_count_44 : decode cX10_count 44 = .ok (.aload_n 0, 1) := by decide +kernel
theorem dX10_count_45 : decode cX10_count 45 = .ok (.getfield 10, 3) := by decide +kernel
theorem dX10_count_48 : decode cX10_count 48 = .ok (.iload_n 1, 1) := by decide +kernel
theorem dX10_count_49 : decode cX10_count 49 = .ok (.invokevirtual 107, 3) := by decide +kernel
theorem dX10_count_52 : decode cX10_count 52 = .ok (.ireturn, 1) := by decide +kernel
theorem dX10_account_0 : decode cX10_account 0 = .ok (.iload_n 1, 1) := by decide +kernel
theorem dX10_account_1 : decode cX10_account 1 = .ok (.invokestatic 110, 3) := by decide +kernel
theorem dX10_account_4 : decode cX10_account 4 = .ok (.ifCond .ne 5, 3) := by decide +kernel
theorem dX10_account_7 : decode cX10_account 7 = .ok (.iconst (-1), 1) := by decide +kernel
theorem dX10_account_8 : decode cX10_account 8 = .ok (.ireturn, 1) := by decide +kernel
theorem dX10_account_9 : decode cX10_account 9 = .ok (.iload_n 2, 1) := by decide +kernel
theorem dX10_account_10 : decode cX10_account 10 = .ok (.iconst 0, 1) := by decide +kernel
theorem dX10_account_11 : decode cX10_account 11 = .ok (.iconst 5, 1) := by decide +kernel
theorem dX10_account_12 : decode cX10_account 12 = .ok (.invokestatic 114, 3) := by decide +kernel
theorem dX10_account_15 : decode cX10_account 15 = .ok (.ifCond .eq 20, 3) := by decide +kernel
theorem dX10_account_18 : decode cX10_account 18 = .ok (.aload_n 0, 1) := by decide +kernel
theorem dX10_account_19 : decode cX10_account 19 = .ok (.getfield 10, 3) := by decide +kernel
theorem dX10_account_22 : decode cX10_account 22 = .ok (.getfield 118, 3) := by decide +kernel
theorem dX10_account_25 : decode cX10_account 25 = .ok (.getfield 122, 3) := by decide +kernel
theorem dX10_account_28 : decode cX10_account 28 = .ok (.iload_n 1, 1) := by decide +kernel
theorem dX10_account_29 : decode cX10_account 29 = .ok (.aaload, 1) := by decide +kernel
theorem dX10_account_30 : decode cX10_account 30 = .ok (.iload_n 2, 1) := by decide +kernel
theorem dX10_account_31 : decode cX10_account 31 = .ok (.iaload, 1) := by decide +kernel
theorem dX10_account_32 : decode cX10_account 32 = .ok (.goto 5, 3) := by decide +kernel
theorem dX10_account_35 : decode cX10_account 35 = .ok (.bipush (-2), 2) := by decide +kernel
theorem dX10_account_37 : decode cX10_account 37 = .ok (.ireturn, 1) := by decide +kernel
theorem dX10_takes_0 : decode cX10_takes 0 = .ok (.iload_n 1, 1) := by decide +kernel
theorem dX10_takes_1 : decode cX10_takes 1 = .ok (.invokestatic 110, 3) := by decide +kernel
theorem dX10_takes_4 : decode cX10_takes 4 = .ok (.ifCond .ne 5, 3) := by decide +kernel
theorem dX10_takes_7 : decode cX10_takes 7 = .ok (.iconst (-1), 1) := by decide +kernel
theorem dX10_takes_8 : decode cX10_takes 8 = .ok (.ireturn, 1) := by decide +kernel
theorem dX10_takes_9 : decode cX10_takes 9 = .ok (.iload_n 2, 1) := by decide +kernel
theorem dX10_takes_10 : decode cX10_takes 10 = .ok (.iload_n 3, 1) := by decide +kernel
theorem dX10_takes_11 : decode cX10_takes 11 = .ok (.invokestatic 128, 3) := by decide +kernel
theorem dX10_takes_14 : decode cX10_takes 14 = .ok (.ifCond .eq 15, 3) := by decide +kernel
theorem dX10_takes_17 : decode cX10_takes 17 = .ok (.iload 4, 2) := by decide +kernel
theorem dX10_takes_19 : decode cX10_takes 19 = .ok (.iconst 1, 1) := by decide +kernel
theorem dX10_takes_20 : decode cX10_takes 20 = .ok (.sipush 2000, 3) := by decide +kernel
theorem dX10_takes_23 : decode cX10_takes 23 = .ok (.invokestatic 114, 3) := by decide +kernel
theorem dX10_takes_26 : decode cX10_takes 26 = .ok (.ifCond .ne 6, 3) := by decide +kernel
theorem dX10_takes_29 : decode cX10_takes 29 = .ok (.bipush (-2), 2) := by decide +kernel
theorem dX10_takes_31 : decode cX10_takes 31 = .ok (.ireturn, 1) := by decide +kernel
theorem dX10_takes_32 : decode cX10_takes 32 = .ok (.aload_n 0, 1) := by decide +kernel
theorem dX10_takes_33 : decode cX10_takes 33 = .ok (.getfield 10, 3) := by decide +kernel
theorem dX10_takes_36 : decode cX10_takes 36 = .ok (.getfield 132, 3) := by decide +kernel
theorem dX10_takes_39 : decode cX10_takes 39 = .ok (.iload_n 1, 1) := by decide +kernel
theorem dX10_takes_40 : decode cX10_takes 40 = .ok (.iload_n 2, 1) := by decide +kernel
theorem dX10_takes_41 : decode cX10_takes 41 = .ok (.iload_n 3, 1) := by decide +kernel
theorem dX10_takes_42 : decode cX10_takes 42 = .ok (.iload 4, 2) := by decide +kernel
theorem dX10_takes_44 : decode cX10_takes 44 = .ok (.iload 5, 2) := by decide +kernel
theorem dX10_takes_46 : decode cX10_takes 46 = .ok (.invokevirtual 136, 3) := by decide +kernel
theorem dX10_takes_49 : decode cX10_takes 49 = .ok (.ireturn, 1) := by decide +kernel
theorem dX10_longest_0 : decode cX10_longest 0 = .ok (.iload_n 1, 1) := by decide +kernel
theorem dX10_longest_1 : decode cX10_longest 1 = .ok (.invokestatic 110, 3) := by decide +kernel
theorem dX10_longest_4 : decode cX10_longest 4 = .ok (.ifCond .ne 5, 3) := by decide +kernel
theorem dX10_longest_7 : decode cX10_longest 7 = .ok (.iconst (-1), 1) := by decide +kernel
theorem dX10_longest_8 : decode cX10_longest 8 = .ok (.ireturn, 1) := by decide +kernel
theorem dX10_longest_9 : decode cX10_longest 9 = .ok (.iload_n 2, 1) := by decide +kernel
theorem dX10_longest_10 : decode cX10_longest 10 = .ok (.iload_n 3, 1) := by decide +kernel
theorem dX10_longest_11 : decode cX10_longest 11 = .ok (.invokestatic 128, 3) := by decide +kernel
theorem dX10_longest_14 : decode cX10_longest 14 = .ok (.ifCond .eq 16, 3) := by decide +kernel
theorem dX10_longest_17 : decode cX10_longest 17 = .ok (.aload_n 0, 1) := by decide +kernel
theorem dX10_longest_18 : decode cX10_longest 18 = .ok (.getfield 10, 3) := by decide +kernel
theorem dX10_longest_21 : decode cX10_longest 21 = .ok (.iload_n 1, 1) := by decide +kernel
theorem dX10_longest_22 : decode cX10_longest 22 = .ok (.iload_n 2, 1) := by decide +kernel
theorem dX10_longest_23 : decode cX10_longest 23 = .ok (.iload_n 3, 1) := by decide +kernel
theorem dX10_longest_24 : decode cX10_longest 24 = .ok (.invokevirtual 142, 3) := by decide +kernel
theorem dX10_longest_27 : decode cX10_longest 27 = .ok (.goto 5, 3) := by decide +kernel
theorem dX10_longest_30 : decode cX10_longest 30 = .ok (.bipush (-2), 2) := by decide +kernel
theorem dX10_longest_32 : decode cX10_longest 32 = .ok (.ireturn, 1) := by decide +kernel
theorem dX10_leastYarns_0 : decode cX10_leastYarns 0 = .ok (.iload_n 1, 1) := by decide +kernel
theorem dX10_leastYarns_1 : decode cX10_leastYarns 1 = .ok (.invokestatic 110, 3) := by decide +kernel
theorem dX10_leastYarns_4 : decode cX10_leastYarns 4 = .ok (.ifCond .ne 5, 3) := by decide +kernel
theorem dX10_leastYarns_7 : decode cX10_leastYarns 7 = .ok (.iconst (-1), 1) := by decide +kernel
theorem dX10_leastYarns_8 : decode cX10_leastYarns 8 = .ok (.ireturn, 1) := by decide +kernel
theorem dX10_leastYarns_9 : decode cX10_leastYarns 9 = .ok (.iload_n 2, 1) := by decide +kernel
theorem dX10_leastYarns_10 : decode cX10_leastYarns 10 = .ok (.iconst 1, 1) := by decide +kernel
theorem dX10_leastYarns_11 : decode cX10_leastYarns 11 = .ok (.invokestatic 128, 3) := by decide +kernel
theorem dX10_leastYarns_14 : decode cX10_leastYarns 14 = .ok (.ifCond .eq 13, 3) := by decide +kernel
theorem dX10_leastYarns_17 : decode cX10_leastYarns 17 = .ok (.iload_n 3, 1) := by decide +kernel
theorem dX10_leastYarns_18 : decode cX10_leastYarns 18 = .ok (.iconst 1, 1) := by decide +kernel
theorem dX10_leastYarns_19 : decode cX10_leastYarns 19 = .ok (.ldc 145, 2) := by decide +kernel
theorem dX10_leastYarns_21 : decode cX10_leastYarns 21 = .ok (.invokestatic 114, 3) := by decide +kernel
theorem dX10_leastYarns_24 : decode cX10_leastYarns 24 = .ok (.ifCond .ne 6, 3) := by decide +kernel
theorem dX10_leastYarns_27 : decode cX10_leastYarns 27 = .ok (.bipush (-2), 2) := by decide +kernel
theorem dX10_leastYarns_29 : decode cX10_leastYarns 29 = .ok (.ireturn, 1) := by decide +kernel
theorem dX10_leastYarns_30 : decode cX10_leastYarns 30 = .ok (.aload_n 0, 1) := by decide +kernel
theorem dX10_leastYarns_31 : decode cX10_leastYarns 31 = .ok (.getfield 10, 3) := by decide +kernel
theorem dX10_leastYarns_34 : decode cX10_leastYarns 34 = .ok (.getfield 132, 3) := by decide +kernel
theorem dX10_leastYarns_37 : decode cX10_leastYarns 37 = .ok (.iload_n 1, 1) := by decide +kernel
theorem dX10_leastYarns_38 : decode cX10_leastYarns 38 = .ok (.iload_n 2, 1) := by decide +kernel
theorem dX10_leastYarns_39 : decode cX10_leastYarns 39 = .ok (.iload_n 3, 1) := by decide +kernel
theorem dX10_leastYarns_40 : decode cX10_leastYarns 40 = .ok (.invokevirtual 146, 3) := by decide +kernel
theorem dX10_leastYarns_43 : decode cX10_leastYarns 43 = .ok (.ireturn, 1) := by decide +kernel
theorem dX10_wouldFill_0 : decode cX10_wouldFill 0 = .ok (.aload_n 0, 1) := by decide +kernel
theorem dX10_wouldFill_1 : decode cX10_wouldFill 1 = .ok (.getfield 10, 3) := by decide +kernel
theorem dX10_wouldFill_4 : decode cX10_wouldFill 4 = .ok (.getfield 149, 3) := by decide +kernel
theorem dX10_wouldFill_7 : decode cX10_wouldFill 7 = .ok (.iload_n 1, 1) := by decide +kernel
theorem dX10_wouldFill_8 : decode cX10_wouldFill 8 = .ok (.invokevirtual 153, 3) := by decide +kernel
theorem dX10_wouldFill_11 : decode cX10_wouldFill 11 = .ok (.ifCond .ne 5, 3) := by decide +kernel
theorem dX10_wouldFill_14 : decode cX10_wouldFill 14 = .ok (.iconst (-1), 1) := by decide +kernel
theorem dX10_wouldFill_15 : decode cX10_wouldFill 15 = .ok (.ireturn, 1) := by decide +kernel
theorem dX10_wouldFill_16 : decode cX10_wouldFill 16 = .ok (.aload_n 0, 1) := by decide +kernel
theorem dX10_wouldFill_17 : decode cX10_wouldFill 17 = .ok (.getfield 46, 3) := by decide +kernel
theorem dX10_wouldFill_20 : decode cX10_wouldFill 20 = .ok (.aload_n 0, 1) := by decide +kernel
theorem dX10_wouldFill_21 : decode cX10_wouldFill 21 = .ok (.getfield 10, 3) := by decide +kernel
theorem dX10_wouldFill_24 : decode cX10_wouldFill 24 = .ok (.iload_n 1, 1) := by decide +kernel
theorem dX10_wouldFill_25 : decode cX10_wouldFill 25 = .ok (.iload_n 2, 1) := by decide +kernel
theorem dX10_wouldFill_26 : decode cX10_wouldFill 26 = .ok (.invokevirtual 158, 3) := by decide +kernel
theorem dX10_wouldFill_29 : decode cX10_wouldFill 29 = .ok (.ireturn, 1) := by decide +kernel
theorem dX10_finesIn_0 : decode cX10_finesIn 0 = .ok (.iload_n 1, 1) := by decide +kernel
theorem dX10_finesIn_1 : decode cX10_finesIn 1 = .ok (.iconst 1, 1) := by decide +kernel
theorem dX10_finesIn_2 : decode cX10_finesIn 2 = .ok (.sipush 200, 3) := by decide +kernel
theorem dX10_finesIn_5 : decode cX10_finesIn 5 = .ok (.invokestatic 114, 3) := by decide +kernel
theorem dX10_finesIn_8 : decode cX10_finesIn 8 = .ok (.ifCond .eq 14, 3) := by decide +kernel
theorem dX10_finesIn_11 : decode cX10_finesIn 11 = .ok (.aload_n 0, 1) := by decide +kernel
theorem dX10_finesIn_12 : decode cX10_finesIn 12 = .ok (.getfield 10, 3) := by decide +kernel
theorem dX10_finesIn_15 : decode cX10_finesIn 15 = .ok (.iload_n 1, 1) := by decide +kernel
theorem dX10_finesIn_16 : decode cX10_finesIn 16 = .ok (.invokevirtual 179, 3) := by decide +kernel
theorem dX10_finesIn_19 : decode cX10_finesIn 19 = .ok (.goto 5, 3) := by decide +kernel
theorem dX10_finesIn_22 : decode cX10_finesIn 22 = .ok (.bipush (-2), 2) := by decide +kernel
theorem dX10_finesIn_24 : decode cX10_finesIn 24 = .ok (.ireturn, 1) := by decide +kernel
theorem dX10_inRange_0 : decode cX10_inRange 0 = .ok (.iload_n 0, 1) := by decide +kernel
theorem dX10_inRange_1 : decode cX10_inRange 1 = .ok (.iload_n 1, 1) := by decide +kernel
theorem dX10_inRange_2 : decode cX10_inRange 2 = .ok (.if_icmp .lt 12, 3) := by decide +kernel
theorem dX10_inRange_5 : decode cX10_inRange 5 = .ok (.iload_n 0, 1) := by decide +kernel
theorem dX10_inRange_6 : decode cX10_inRange 6 = .ok (.iload_n 2, 1) := by decide +kernel
theorem dX10_inRange_7 : decode cX10_inRange 7 = .ok (.if_icmp .gt 7, 3) := by decide +kernel
theorem dX10_inRange_10 : decode cX10_inRange 10 = .ok (.iconst 1, 1) := by decide +kernel
theorem dX10_inRange_11 : decode cX10_inRange 11 = .ok (.goto 4, 3) := by decide +kernel
theorem dX10_inRange_14 : decode cX10_inRange 14 = .ok (.iconst 0, 1) := by decide +kernel
theorem dX10_inRange_15 : decode cX10_inRange 15 = .ok (.ireturn, 1) := by decide +kernel
theorem dX10_isFibre_0 : decode cX10_isFibre 0 = .ok (.iload_n 0, 1) := by decide +kernel
theorem dX10_isFibre_1 : decode cX10_isFibre 1 = .ok (.iconst 0, 1) := by decide +kernel
theorem dX10_isFibre_2 : decode cX10_isFibre 2 = .ok (.iconst 2, 1) := by decide +kernel
theorem dX10_isFibre_3 : decode cX10_isFibre 3 = .ok (.invokestatic 114, 3) := by decide +kernel
theorem dX10_isFibre_6 : decode cX10_isFibre 6 = .ok (.ireturn, 1) := by decide +kernel
theorem dX10_isMake_0 : decode cX10_isMake 0 = .ok (.iload_n 0, 1) := by decide +kernel
theorem dX10_isMake_1 : decode cX10_isMake 1 = .ok (.iconst 3, 1) := by decide +kernel
theorem dX10_isMake_2 : decode cX10_isMake 2 = .ok (.iconst 4, 1) := by decide +kernel
theorem dX10_isMake_3 : decode cX10_isMake 3 = .ok (.invokestatic 114, 3) := by decide +kernel
theorem dX10_isMake_6 : decode cX10_isMake 6 = .ok (.ifCond .eq 17, 3) := by decide +kernel
theorem dX10_isMake_9 : decode cX10_isMake 9 = .ok (.iload_n 1, 1) := by decide +kernel
theorem dX10_isMake_10 : decode cX10_isMake 10 = .ok (.iconst 1, 1) := by decide +kernel
theorem dX10_isMake_11 : decode cX10_isMake 11 = .ok (.bipush 40, 2) := by decide +kernel
theorem dX10_isMake_13 : decode cX10_isMake 13 = .ok (.invokestatic 114, 3) := by decide +kernel
theorem dX10_isMake_16 : decode cX10_isMake 16 = .ok (.ifCond .eq 7, 3) := by decide +kernel
theorem dX10_isMake_19 : decode cX10_isMake 19 = .ok (.iconst 1, 1) := by decide +kernel
theorem dX10_isMake_20 : decode cX10_isMake 20 = .ok (.goto 4, 3) := by decide +kernel
theorem dX10_isMake_23 : decode cX10_isMake 23 = .ok (.iconst 0, 1) := by decide +kernel
theorem dX10_isMake_24 : decode cX10_isMake 24 = .ok (.ireturn, 1) := by decide +kernel
