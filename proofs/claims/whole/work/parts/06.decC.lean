theorem dX0_init_0 : decode cX0_init 0 = .ok (.aload_n 0, 1) := by decide +kernel
theorem dX0_init_1 : decode cX0_init 1 = .ok (.invokespecial 3, 3) := by decide +kernel
theorem dX0_init_4 : decode cX0_init 4 = .ok (.aload_n 0, 1) := by decide +kernel
theorem dX0_init_5 : decode cX0_init 5 = .ok (.bipush 6, 2) := by decide +kernel
theorem dX0_init_7 : decode cX0_init 7 = .ok (.anewarray 9, 3) := by decide +kernel
theorem dX0_init_10 : decode cX0_init 10 = .ok (.putfield 11, 3) := by decide +kernel
theorem dX0_init_13 : decode cX0_init 13 = .ok (.aload_n 0, 1) := by decide +kernel
theorem dX0_init_14 : decode cX0_init 14 = .ok (.iconst 0, 1) := by decide +kernel
theorem dX0_init_15 : decode cX0_init 15 = .ok (.putfield 17, 3) := by decide +kernel
theorem dX0_init_18 : decode cX0_init 18 = .ok (.aload_n 0, 1) := by decide +kernel
theorem dX0_init_19 : decode cX0_init 19 = .ok (.iconst 0, 1) := by decide +kernel
theorem dX0_init_20 : decode cX0_init 20 = .ok (.putfield 21, 3) := by decide +kernel
theorem dX0_init_23 : decode cX0_init 23 = .ok (.iconst 0, 1) := by decide +kernel
theorem dX0_init_24 : decode cX0_init 24 = .ok (.istore_n 1, 1) := by decide +kernel
theorem dX0_init_25 : decode cX0_init 25 = .ok (.iload_n 1, 1) := by decide +kernel
theorem dX0_init_26 : decode cX0_init 26 = .ok (.bipush 6, 2) := by decide +kernel
theorem dX0_init_28 : decode cX0_init 28 = .ok (.if_icmp .ge 22, 3) := by decide +kernel
theorem dX0_init_31 : decode cX0_init 31 = .ok (.aload_n 0, 1) := by decide +kernel
theorem dX0_init_32 : decode cX0_init 32 = .ok (.getfield 11, 3) := by decide +kernel
theorem dX0_init_35 : decode cX0_init 35 = .ok (.iload_n 1, 1) := by decide +kernel
theorem dX0_init_36 : decode cX0_init 36 = .ok (.new 9, 3) := by decide +kernel
theorem dX0_init_39 : decode cX0_init 39 = .ok (.dup, 1) := by decide +kernel
theorem dX0_init_40 : decode cX0_init 40 = .ok (.invokespecial 24, 3) := by decide +kernel
theorem dX0_init_43 : decode cX0_init 43 = .ok (.aastore, 1) := by decide +kernel
theorem dX0_init_44 : decode cX0_init 44 = .ok (.iinc 1 1, 3) := by decide +kernel
theorem dX0_init_47 : decode cX0_init 47 = .ok (.goto (-22), 3) := by decide +kernel
theorem dX0_init_50 : decode cX0_init 50 = .ok (.return_, 1) := by decide +kernel
theorem dX0_size_0 : decode cX0_size 0 = .ok (.aload_n 0, 1) := by decide +kernel
theorem dX0_size_1 : decode cX0_size 1 = .ok (.getfield 21, 3) := by decide +kernel
theorem dX0_size_4 : decode cX0_size 4 = .ok (.ireturn, 1) := by decide +kernel
theorem dX0_sheetAt_0 : decode cX0_sheetAt 0 = .ok (.aload_n 0, 1) := by decide +kernel
theorem dX0_sheetAt_1 : decode cX0_sheetAt 1 = .ok (.getfield 11, 3) := by decide +kernel
theorem dX0_sheetAt_4 : decode cX0_sheetAt 4 = .ok (.aload_n 0, 1) := by decide +kernel
theorem dX0_sheetAt_5 : decode cX0_sheetAt 5 = .ok (.getfield 17, 3) := by decide +kernel
theorem dX0_sheetAt_8 : decode cX0_sheetAt 8 = .ok (.iload_n 1, 1) := by decide +kernel
theorem dX0_sheetAt_9 : decode cX0_sheetAt 9 = .ok (.iadd, 1) := by decide +kernel
theorem dX0_sheetAt_10 : decode cX0_sheetAt 10 = .ok (.bipush 6, 2) := by decide +kernel
theorem dX0_sheetAt_12 : decode cX0_sheetAt 12 = .ok (.invokestatic 25, 3) := by decide +kernel
theorem dX0_sheetAt_15 : decode cX0_sheetAt 15 = .ok (.aaload, 1) := by decide +kernel
theorem dX0_sheetAt_16 : decode cX0_sheetAt 16 = .ok (.areturn, 1) := by decide +kernel
theorem dX0_keep_0 : decode cX0_keep 0 = .ok (.aload_n 0, 1) := by decide +kernel
theorem dX0_keep_1 : decode cX0_keep 1 = .ok (.aload_n 0, 1) := by decide +kernel
theorem dX0_keep_2 : decode cX0_keep 2 = .ok (.getfield 21, 3) := by decide +kernel
theorem dX0_keep_5 : decode cX0_keep 5 = .ok (.invokevirtual 31, 3) := by decide +kernel
theorem dX0_keep_8 : decode cX0_keep 8 = .ok (.astore_n 2, 1) := by decide +kernel
theorem dX0_keep_9 : decode cX0_keep 9 = .ok (.aload_n 2, 1) := by decide +kernel
theorem dX0_keep_10 : decode cX0_keep 10 = .ok (.ifnull 8, 3) := by decide +kernel
theorem dX0_keep_13 : decode cX0_keep 13 = .ok (.aload_n 2, 1) := by decide +kernel
theorem dX0_keep_14 : decode cX0_keep 14 = .ok (.aload_n 1, 1) := by decide +kernel
theorem dX0_keep_15 : decode cX0_keep 15 = .ok (.invokevirtual 35, 3) := by decide +kernel
theorem dX0_keep_18 : decode cX0_keep 18 = .ok (.aload_n 0, 1) := by decide +kernel
theorem dX0_keep_19 : decode cX0_keep 19 = .ok (.getfield 21, 3) := by decide +kernel
theorem dX0_keep_22 : decode cX0_keep 22 = .ok (.bipush 6, 2) := by decide +kernel
theorem dX0_keep_24 : decode cX0_keep 24 = .ok (.if_icmp .ge 16, 3) := by decide +kernel
theorem dX0_keep_27 : decode cX0_keep 27 = .ok (.aload_n 0, 1) := by decide +kernel
theorem dX0_keep_28 : decode cX0_keep 28 = .ok (.dup, 1) := by decide +kernel
theorem dX0_keep_29 : decode cX0_keep 29 = .ok (.getfield 21, 3) := by decide +kernel
theorem dX0_keep_32 : decode cX0_keep 32 = .ok (.iconst 1, 1) := by decide +kernel
theorem dX0_keep_33 : decode cX0_keep 33 = .ok (.iadd, 1) := by decide +kernel
theorem dX0_keep_34 : decode cX0_keep 34 = .ok (.putfield 21, 3) := by decide +kernel
theorem dX0_keep_37 : decode cX0_keep 37 = .ok (.goto 18, 3) := by decide +kernel
theorem dX0_keep_40 : decode cX0_keep 40 = .ok (.aload_n 0, 1) := by decide +kernel
theorem dX0_keep_41 : decode cX0_keep 41 = .ok (.aload_n 0, 1) := by decide +kernel
theorem dX0_keep_42 : decode cX0_keep 42 = .ok (.getfield 17, 3) := by decide +kernel
theorem dX0_keep_45 : decode cX0_keep 45 = .ok (.iconst 1, 1) := by decide +kernel
theorem dX0_keep_46 : decode cX0_keep 46 = .ok (.iadd, 1) := by decide +kernel
theorem dX0_keep_47 : decode cX0_keep 47 = .ok (.bipush 6, 2) := by decide +kernel
theorem dX0_keep_49 : decode cX0_keep 49 = .ok (.invokestatic 25, 3) := by decide +kernel
theorem dX0_keep_52 : decode cX0_keep 52 = .ok (.putfield 17, 3) := by decide +kernel
theorem dX0_keep_55 : decode cX0_keep 55 = .ok (.return_, 1) := by decide +kernel
theorem dX0_takeBack_0 : decode cX0_takeBack 0 = .ok (.aload_n 0, 1) := by decide +kernel
theorem dX0_takeBack_1 : decode cX0_takeBack 1 = .ok (.getfield 21, 3) := by decide +kernel
theorem dX0_takeBack_4 : decode cX0_takeBack 4 = .ok (.ifCond .le 31, 3) := by decide +kernel
theorem dX0_takeBack_7 : decode cX0_takeBack 7 = .ok (.aload_n 0, 1) := by decide +kernel
theorem dX0_takeBack_8 : decode cX0_takeBack 8 = .ok (.dup, 1) := by decide +kernel
theorem dX0_takeBack_9 : decode cX0_takeBack 9 = .ok (.getfield 21, 3) := by decide +kernel
theorem dX0_takeBack_12 : decode cX0_takeBack 12 = .ok (.iconst 1, 1) := by decide +kernel
theorem dX0_takeBack_13 : decode cX0_takeBack 13 = .ok (.isub, 1) := by decide +kernel
theorem dX0_takeBack_14 : decode cX0_takeBack 14 = .ok (.putfield 21, 3) := by decide +kernel
theorem dX0_takeBack_17 : decode cX0_takeBack 17 = .ok (.aload_n 0, 1) := by decide +kernel
theorem dX0_takeBack_18 : decode cX0_takeBack 18 = .ok (.aload_n 0, 1) := by decide +kernel
theorem dX0_takeBack_19 : decode cX0_takeBack 19 = .ok (.getfield 21, 3) := by decide +kernel
theorem dX0_takeBack_22 : decode cX0_takeBack 22 = .ok (.invokevirtual 31, 3) := by decide +kernel
theorem dX0_takeBack_25 : decode cX0_takeBack 25 = .ok (.astore_n 2, 1) := by decide +kernel
theorem dX0_takeBack_26 : decode cX0_takeBack 26 = .ok (.aload_n 2, 1) := by decide +kernel
theorem dX0_takeBack_27 : decode cX0_takeBack 27 = .ok (.ifnull 8, 3) := by decide +kernel
theorem dX0_takeBack_30 : decode cX0_takeBack 30 = .ok (.aload_n 1, 1) := by decide +kernel
theorem dX0_takeBack_31 : decode cX0_takeBack 31 = .ok (.aload_n 2, 1) := by decide +kernel
theorem dX0_takeBack_32 : decode cX0_takeBack 32 = .ok (.invokevirtual 35, 3) := by decide +kernel
theorem dX0_takeBack_35 : decode cX0_takeBack 35 = .ok (.return_, 1) := by decide +kernel
theorem dX2_init_0 : decode cX2_init 0 = .ok (.aload_n 0, 1) := by decide +kernel
theorem dX2_init_1 : decode cX2_init 1 = .ok (.invokespecial 3, 3) := by decide +kernel
theorem dX2_init_4 : decode cX2_init 4 = .ok (.aload_n 0, 1) := by decide +kernel
theorem dX2_init_5 : decode cX2_init 5 = .ok (.bipush 45, 2) := by decide +kernel
theorem dX2_init_7 : decode cX2_init 7 = .ok (.newarray .int, 2) := by decide +kernel
theorem dX2_init_9 : decode cX2_init 9 = .ok (.putfield 9, 3) := by decide +kernel
theorem dX2_init_12 : decode cX2_init 12 = .ok (.aload_n 0, 1) := by decide +kernel
theorem dX2_init_13 : decode cX2_init 13 = .ok (.iconst 0, 1) := by decide +kernel
theorem dX2_init_14 : decode cX2_init 14 = .ok (.putfield 15, 3) := by decide +kernel
theorem dX2_init_17 : decode cX2_init 17 = .ok (.return_, 1) := by decide +kernel
theorem dX2_size_0 : decode cX2_size 0 = .ok (.aload_n 0, 1) := by decide +kernel
theorem dX2_size_1 : decode cX2_size 1 = .ok (.getfield 15, 3) := by decide +kernel
theorem dX2_size_4 : decode cX2_size 4 = .ok (.ireturn, 1) := by decide +kernel
theorem dX2_at_0 : decode cX2_at 0 = .ok (.iload_n 1, 1) := by decide +kernel
theorem dX2_at_1 : decode cX2_at 1 = .ok (.ifCond .lt 20, 3) := by decide +kernel
theorem dX2_at_4 : decode cX2_at 4 = .ok (.iload_n 1, 1) := by decide +kernel
theorem dX2_at_5 : decode cX2_at 5 = .ok (.aload_n 0, 1) := by decide +kernel
theorem dX2_at_6 : decode cX2_at 6 = .ok (.getfield 15, 3) := by decide +kernel
theorem dX2_at_9 : decode cX2_at 9 = .ok (.if_icmp .ge 12, 3) := by decide +kernel
theorem dX2_at_12 : decode cX2_at 12 = .ok (.aload_n 0, 1) := by decide +kernel
theorem dX2_at_13 : decode cX2_at 13 = .ok (.getfield 9, 3) := by decide +kernel
theorem dX2_at_16 : decode cX2_at 16 = .ok (.iload_n 1, 1) := by decide +kernel
theorem dX2_at_17 : decode cX2_at 17 = .ok (.iaload, 1) := by decide +kernel
theorem dX2_at_18 : decode cX2_at 18 = .ok (.goto 4, 3) := by decide +kernel
theorem dX2_at_21 : decode cX2_at 21 = .ok (.iconst (-1), 1) := by decide +kernel
theorem dX2_at_22 : decode cX2_at 22 = .ok (.ireturn, 1) := by decide +kernel
theorem dX2_add_0 : decode cX2_add 0 = .ok (.aload_n 0, 1) := by decide +kernel
theorem dX2_add_1 : decode cX2_add 1 = .ok (.getfield 15, 3) := by decide +kernel
theorem dX2_add_4 : decode cX2_add 4 = .ok (.ifCond .lt 32, 3) := by decide +kernel
theorem dX2_add_7 : decode cX2_add 7 = .ok (.aload_n 0, 1) := by decide +kernel
theorem dX2_add_8 : decode cX2_add 8 = .ok (.getfield 15, 3) := by decide +kernel
theorem dX2_add_11 : decode cX2_add 11 = .ok (.bipush 45, 2) := by decide +kernel
theorem dX2_add_13 : decode cX2_add 13 = .ok (.if_icmp .ge 23, 3) := by decide +kernel
theorem dX2_add_16 : decode cX2_add 16 = .ok (.aload_n 0, 1) := by decide +kernel
theorem dX2_add_17 : decode cX2_add 17 = .ok (.getfield 9, 3) := by decide +kernel
theorem dX2_add_20 : decode cX2_add 20 = .ok (.aload_n 0, 1) := by decide +kernel
theorem dX2_add_21 : decode cX2_add 21 = .ok (.getfield 15, 3) := by decide +kernel
theorem dX2_add_24 : decode cX2_add 24 = .ok (.iload_n 1, 1) := by decide +kernel
theorem dX2_add_25 : decode cX2_add 25 = .ok (.iastore, 1) := by decide +kernel
theorem dX2_add_26 : decode cX2_add 26 = .ok (.aload_n 0, 1) := by decide +kernel
theorem dX2_add_27 : decode cX2_add 27 = .ok (.dup, 1) := by decide +kernel
theorem dX2_add_28 : decode cX2_add 28 = .ok (.getfield 15, 3) := by decide +kernel
theorem dX2_add_31 : decode cX2_add 31 = .ok (.iconst 1, 1) := by decide +kernel
theorem dX2_add_32 : decode cX2_add 32 = .ok (.iadd, 1) := by decide +kernel
theorem dX2_add_33 : decode cX2_add 33 = .ok (.putfield 15, 3) := by decide +kernel
theorem dX2_add_36 : decode cX2_add 36 = .ok (.return_, 1) := by decide +kernel
theorem dX2_put_0 : decode cX2_put 0 = .ok (.aload_n 0, 1) := by decide +kernel
theorem dX2_put_1 : decode cX2_put 1 = .ok (.iload_n 1, 1) := by decide +kernel
theorem dX2_put_2 : decode cX2_put 2 = .ok (.invokevirtual 19, 3) := by decide +kernel
theorem dX2_put_5 : decode cX2_put 5 = .ok (.istore_n 3, 1) := by decide +kernel
theorem dX2_put_6 : decode cX2_put 6 = .ok (.iload_n 1, 1) := by decide +kernel
theorem dX2_put_7 : decode cX2_put 7 = .ok (.ifCond .lt 18, 3) := by decide +kernel
theorem dX2_put_10 : decode cX2_put 10 = .ok (.iload_n 1, 1) := by decide +kernel
theorem dX2_put_11 : decode cX2_put 11 = .ok (.aload_n 0, 1) := by decide +kernel
theorem dX2_put_12 : decode cX2_put 12 = .ok (.getfield 15, 3) := by decide +kernel
theorem dX2_put_15 : decode cX2_put 15 = .ok (.if_icmp .ge 10, 3) := by decide +kernel
theorem dX2_put_18 : decode cX2_put 18 = .ok (.aload_n 0, 1) := by decide +kernel
theorem dX2_put_19 : decode cX2_put 19 = .ok (.getfield 9, 3) := by decide +kernel
theorem dX2_put_22 : decode cX2_put 22 = .ok (.iload_n 1, 1) := by decide +kernel
theorem dX2_put_23 : decode cX2_put 23 = .ok (.iload_n 2, 1) := by decide +kernel
theorem dX2_put_24 : decode cX2_put 24 = .ok (.iastore, 1) := by decide +kernel
theorem dX2_put_25 : decode cX2_put 25 = .ok (.iload_n 3, 1) := by decide +kernel
theorem dX2_put_26 : decode cX2_put 26 = .ok (.ireturn, 1) := by decide +kernel
theorem dX2_clear_0 : decode cX2_clear 0 = .ok (.aload_n 0, 1) := by decide +kernel
theorem dX2_clear_1 : decode cX2_clear 1 = .ok (.iconst 0, 1) := by decide +kernel
theorem dX2_clear_2 : decode cX2_clear 2 = .ok (.putfield 15, 3) := by decide +kernel
theorem dX2_clear_5 : decode cX2_clear 5 = .ok (.return_, 1) := by decide +kernel
theorem dX2_cutTo_0 : decode cX2_cutTo 0 = .ok (.aload_n 0, 1) := by decide +kernel
theorem dX2_cutTo_1 : decode cX2_cutTo 1 = .ok (.iload_n 1, 1) := by decide +kernel
theorem dX2_cutTo_2 : decode cX2_cutTo 2 = .ok (.ifCond .ge 7, 3) := by decide +kernel
theorem dX2_cutTo_5 : decode cX2_cutTo 5 = .ok (.iconst 0, 1) := by decide +kernel
theorem dX2_cutTo_6 : decode cX2_cutTo 6 = .ok (.goto 19, 3) := by decide +kernel
theorem dX2_cutTo_9 : decode cX2_cutTo 9 = .ok (.iload_n 1, 1) := by decide +kernel
theorem dX2_cutTo_10 : decode cX2_cutTo 10 = .ok (.aload_n 0, 1) := by decide +kernel
theorem dX2_cutTo_11 : decode cX2_cutTo 11 = .ok (.getfield 15, 3) := by decide +kernel
theorem dX2_cutTo_14 : decode cX2_cutTo 14 = .ok (.if_icmp .ge 7, 3) := by decide +kernel
theorem dX2_cutTo_17 : decode cX2_cutTo 17 = .ok (.iload_n 1, 1) := by decide +kernel
theorem dX2_cutTo_18 : decode cX2_cutTo 18 = .ok (.goto 7, 3) := by decide +kernel
theorem dX2_cutTo_21 : decode cX2_cutTo 21 = .ok (.aload_n 0, 1) := by decide +kernel
theorem dX2_cutTo_22 : decode cX2_cutTo 22 = .ok (.getfield 15, 3) := by decide +kernel
theorem dX2_cutTo_25 : decode cX2_cutTo 25 = .ok (.putfield 15, 3) := by decide +kernel
theorem dX2_cutTo_28 : decode cX2_cutTo 28 = .ok (.return_, 1) := by decide +kernel
theorem dX2_copyFrom_0 : decode cX2_copyFrom 0 = .ok (.aload_n 0, 1) := by decide +kernel
theorem dX2_copyFrom_1 : decode cX2_copyFrom 1 = .ok (.iconst 0, 1) := by decide +kernel
theorem dX2_copyFrom_2 : decode cX2_copyFrom 2 = .ok (.putfield 15, 3) := by decide +kernel
theorem dX2_copyFrom_5 : decode cX2_copyFrom 5 = .ok (.iconst 0, 1) := by decide +kernel
theorem dX2_copyFrom_6 : decode cX2_copyFrom 6 = .ok (.istore_n 2, 1) := by decide +kernel
theorem dX2_copyFrom_7 : decode cX2_copyFrom 7 = .ok (.iload_n 2, 1) := by decide +kernel
theorem dX2_copyFrom_8 : decode cX2_copyFrom 8 = .ok (.aload_n 1, 1) := by decide +kernel
theorem dX2_copyFrom_9 : decode cX2_copyFrom 9 = .ok (.getfield 15, 3) := by decide +kernel
theorem dX2_copyFrom_12 : decode cX2_copyFrom 12 = .ok (.if_icmp .ge 18, 3) := by decide +kernel
theorem dX2_copyFrom_15 : decode cX2_copyFrom 15 = .ok (.aload_n 0, 1) := by decide +kernel
theorem dX2_copyFrom_16 : decode cX2_copyFrom 16 = .ok (.aload_n 1, 1) := by decide +kernel
theorem dX2_copyFrom_17 : decode cX2_copyFrom 17 = .ok (.iload_n 2, 1) := by decide +kernel
theorem dX2_copyFrom_18 : decode cX2_copyFrom 18 = .ok (.invokevirtual 19, 3) := by decide +kernel
theorem dX2_copyFrom_21 : decode cX2_copyFrom 21 = .ok (.invokevirtual 23, 3) := by decide +kernel
theorem dX2_copyFrom_24 : decode cX2_copyFrom 24 = .ok (.iinc 2 1, 3) := by decide +kernel
theorem dX2_copyFrom_27 : decode cX2_copyFrom 27 = .ok (.goto (-20), 3) := by decide +kernel
theorem dX2_copyFrom_30 : decode cX2_copyFrom 30 = .ok (.return_, 1) := by decide +kernel
theorem dX3_init_0 : decode cX3_init 0 = .ok (.aload_n 0, 1) := by decide +kernel
theorem dX3_init_1 : decode cX3_init 1 = .ok (.invokespecial 3, 3) := by decide +kernel
theorem dX3_init_4 : decode cX3_init 4 = .ok (.aload_n 0, 1) := by decide +kernel
theorem dX3_init_5 : decode cX3_init 5 = .ok (.sipush 180, 3) := by decide +kernel
theorem dX3_init_8 : decode cX3_init 8 = .ok (.newarray .char, 2) := by decide +kernel
theorem dX3_init_10 : decode cX3_init 10 = .ok (.putfield 9, 3) := by decide +kernel
theorem dX3_init_13 : decode cX3_init 13 = .ok (.aload_n 0, 1) := by decide +kernel
theorem dX3_init_14 : decode cX3_init 14 = .ok (.iconst 0, 1) := by decide +kernel
theorem dX3_init_15 : decode cX3_init 15 = .ok (.putfield 15, 3) := by decide +kernel
theorem dX3_init_18 : decode cX3_init 18 = .ok (.return_, 1) := by decide +kernel
theorem dX3_size_0 : decode cX3_size 0 = .ok (.aload_n 0, 1) := by decide +kernel
theorem dX3_size_1 : decode cX3_size 1 = .ok (.getfield 15, 3) := by decide +kernel
theorem dX3_size_4 : decode cX3_size 4 = .ok (.ireturn, 1) := by decide +kernel
theorem dX3_at_0 : decode cX3_at 0 = .ok (.iload_n 1, 1) := by decide +kernel
theorem dX3_at_1 : decode cX3_at 1 = .ok (.ifCond .lt 27, 3) := by decide +kernel
theorem dX3_at_4 : decode cX3_at 4 = .ok (.iload_n 1, 1) := by decide +kernel
theorem dX3_at_5 : decode cX3_at 5 = .ok (.aload_n 0, 1) := by decide +kernel
theorem dX3_at_6 : decode cX3_at 6 = .ok (.getfield 15, 3) := by decide +kernel
theorem dX3_at_9 : decode cX3_at 9 = .ok (.if_icmp .ge 19, 3) := by decide +kernel
theorem dX3_at_12 : decode cX3_at 12 = .ok (.iload_n 1, 1) := by decide +kernel
theorem dX3_at_13 : decode cX3_at 13 = .ok (.sipush 180, 3) := by decide +kernel
theorem dX3_at_16 : decode cX3_at 16 = .ok (.if_icmp .ge 12, 3) := by decide +kernel
theorem dX3_at_19 : decode cX3_at 19 = .ok (.aload_n 0, 1) := by decide +kernel
theorem dX3_at_20 : decode cX3_at 20 = .ok (.getfield 9, 3) := by decide +kernel
theorem dX3_at_23 : decode cX3_at 23 = .ok (.iload_n 1, 1) := by decide +kernel
theorem dX3_at_24 : decode cX3_at 24 = .ok (.caload, 1) := by decide +kernel
theorem dX3_at_25 : decode cX3_at 25 = .ok (.goto 4, 3) := by decide +kernel
theorem dX3_at_28 : decode cX3_at 28 = .ok (.iconst 0, 1) := by decide +kernel
theorem dX3_at_29 : decode cX3_at 29 = .ok (.ireturn, 1) := by decide +kernel
theorem dX3_clear_0 : decode cX3_clear 0 = .ok (.aload_n 0, 1) := by decide +kernel
theorem dX3_clear_1 : decode cX3_clear 1 = .ok (.iconst 0, 1) := by decide +kernel
theorem dX3_clear_2 : decode cX3_clear 2 = .ok (.putfield 15, 3) := by decide +kernel
theorem dX3_clear_5 : decode cX3_clear 5 = .ok (.return_, 1) := by decide +kernel
theorem dX3_put_0 : decode cX3_put 0 = .ok (.aload_n 0, 1) := by decide +kernel
theorem dX3_put_1 : decode cX3_put 1 = .ok (.getfield 15, 3) := by decide +kernel
theorem dX3_put_4 : decode cX3_put 4 = .ok (.ifCond .lt 33, 3) := by decide +kernel
theorem dX3_put_7 : decode cX3_put 7 = .ok (.aload_n 0, 1) := by decide +kernel
theorem dX3_put_8 : decode cX3_put 8 = .ok (.getfield 15, 3) := by decide +kernel
theorem dX3_put_11 : decode cX3_put 11 = .ok (.sipush 180, 3) := by decide +kernel
theorem dX3_put_14 : decode cX3_put 14 = .ok (.if_icmp .ge 23, 3) := by decide +kernel
theorem dX3_put_17 : decode cX3_put 17 = .ok (.aload_n 0, 1) := by decide +kernel
theorem dX3_put_18 : decode cX3_put 18 = .ok (.getfield 9, 3) := by decide +kernel
theorem dX3_put_21 : decode cX3_put 21 = .ok (.aload_n 0, 1) := by decide +kernel
theorem dX3_put_22 : decode cX3_put 22 = .ok (.getfield 15, 3) := by decide +kernel
theorem dX3_put_25 : decode cX3_put 25 = .ok (.iload_n 1, 1) := by decide +kernel
theorem dX3_put_26 : decode cX3_put 26 = .ok (.castore, 1) := by decide +kernel
theorem dX3_put_27 : decode cX3_put 27 = .ok (.aload_n 0, 1) := by decide +kernel
theorem dX3_put_28 : decode cX3_put 28 = .ok (.dup, 1) := by decide +kernel
theorem dX3_put_29 : decode cX3_put 29 = .ok (.getfield 15, 3) := by decide +kernel
theorem dX3_put_32 : decode cX3_put 32 = .ok (.iconst 1, 1) := by decide +kernel
theorem dX3_put_33 : decode cX3_put 33 = .ok (.iadd, 1) := by decide +kernel
theorem dX3_put_34 : decode cX3_put 34 = .ok (.putfield 15, 3) := by decide +kernel
theorem dX3_put_37 : decode cX3_put 37 = .ok (.return_, 1) := by decide +kernel
theorem dX3_putWord_0 : decode cX3_putWord 0 = .ok (.iconst 0, 1) := by decide +kernel
theorem dX3_putWord_1 : decode cX3_putWord 1 = .ok (.istore_n 2, 1) := by decide +kernel
theorem dX3_putWord_2 : decode cX3_putWord 2 = .ok (.iload_n 2, 1) := by decide +kernel
theorem dX3_putWord_3 : decode cX3_putWord 3 = .ok (.aload_n 1, 1) := by decide +kernel
theorem dX3_putWord_4 : decode cX3_putWord 4 = .ok (.invokevirtual 19, 3) := by decide +kernel
theorem dX3_putWord_7 : decode cX3_putWord 7 = .ok (.if_icmp .ge 18, 3) := by decide +kernel
theorem dX3_putWord_10 : decode cX3_putWord 10 = .ok (.aload_n 0, 1) := by decide +kernel
theorem dX3_putWord_11 : decode cX3_putWord 11 = .ok (.aload_n 1, 1) := by decide +kernel
theorem dX3_putWord_12 : decode cX3_putWord 12 = .ok (.iload_n 2, 1) := by decide +kernel
theorem dX3_putWord_13 : decode cX3_putWord 13 = .ok (.invokevirtual 25, 3) := by decide +kernel
theorem dX3_putWord_16 : decode cX3_putWord 16 = .ok (.invokevirtual 29, 3) := by decide +kernel
theorem dX3_putWord_19 : decode cX3_putWord 19 = .ok (.iinc 2 1, 3) := by decide +kernel
theorem dX3_putWord_22 : decode cX3_putWord 22 = .ok (.goto (-20), 3) := by decide +kernel
theorem dX3_putWord_25 : decode cX3_putWord 25 = .ok (.return_, 1) := by decide +kernel
theorem dX3_putNumber_0 : decode cX3_putNumber 0 = .ok (.iload_n 1, 1) := by decide +kernel
theorem dX3_putNumber_1 : decode cX3_putNumber 1 = .ok (.bipush 10, 2) := by decide +kernel
theorem dX3_putNumber_3 : decode cX3_putNumber 3 = .ok (.if_icmp .lt 18, 3) := by decide +kernel
theorem dX3_putNumber_6 : decode cX3_putNumber 6 = .ok (.aload_n 0, 1) := by decide +kernel
theorem dX3_putNumber_7 : decode cX3_putNumber 7 = .ok (.bipush 48, 2) := by decide +kernel
theorem dX3_putNumber_9 : decode cX3_putNumber 9 = .ok (.iload_n 1, 1) := by decide +kernel
theorem dX3_putNumber_10 : decode cX3_putNumber 10 = .ok (.bipush 10, 2) := by decide +kernel
theorem dX3_putNumber_12 : decode cX3_putNumber 12 = .ok (.idiv, 1) := by decide +kernel
theorem dX3_putNumber_13 : decode cX3_putNumber 13 = .ok (.bipush 10, 2) := by decide +kernel
theorem dX3_putNumber_15 : decode cX3_putNumber 15 = .ok (.irem, 1) := by decide +kernel
theorem dX3_putNumber_16 : decode cX3_putNumber 16 = .ok (.iadd, 1) := by decide +kernel
theorem dX3_putNumber_17 : decode cX3_putNumber 17 = .ok (.i2c, 1) := by decide +kernel
theorem dX3_putNumber_18 : decode cX3_putNumber 18 = .ok (.invokevirtual 29, 3) := by decide +kernel
theorem dX3_putNumber_21 : decode cX3_putNumber 21 = .ok (.aload_n 0, 1) := by decide +kernel
theorem dX3_putNumber_22 : decode cX3_putNumber 22 = .ok (.bipush 48, 2) := by decide +kernel
theorem dX3_putNumber_24 : decode cX3_putNumber 24 = .ok (.iload_n 1, 1) := by decide +kernel
theorem dX3_putNumber_25 : decode cX3_putNumber 25 = .ok (.bipush 10, 2) := by decide +kernel
theorem dX3_putNumber_27 : decode cX3_putNumber 27 = .ok (.invokestatic 33, 3) := by decide +kernel
theorem dX3_putNumber_30 : decode cX3_putNumber 30 = .ok (.iadd, 1) := by decide +kernel
theorem dX3_putNumber_31 : decode cX3_putNumber 31 = .ok (.i2c, 1) := by decide +kernel
theorem dX3_putNumber_32 : decode cX3_putNumber 32 = .ok (.invokevirtual 29, 3) := by decide +kernel
theorem dX3_putNumber_35 : decode cX3_putNumber 35 = .ok (.return_, 1) := by decide +kernel
theorem dX3_putLine_0 : decode cX3_putLine 0 = .ok (.iconst 0, 1) := by decide +kernel
theorem dX3_putLine_1 : decode cX3_putLine 1 = .ok (.istore_n 2, 1) := by decide +kernel
theorem dX3_putLine_2 : decode cX3_putLine 2 = .ok (.iload_n 2, 1) := by decide +kernel
theorem dX3_putLine_3 : decode cX3_putLine 3 = .ok (.aload_n 1, 1) := by decide +kernel
theorem dX3_putLine_4 : decode cX3_putLine 4 = .ok (.invokevirtual 39, 3) := by decide +kernel
theorem dX3_putLine_7 : decode cX3_putLine 7 = .ok (.if_icmp .ge 28, 3) := by decide +kernel
theorem dX3_putLine_10 : decode cX3_putLine 10 = .ok (.iload_n 2, 1) := by decide +kernel
theorem dX3_putLine_11 : decode cX3_putLine 11 = .ok (.ifCond .le 9, 3) := by decide +kernel
theorem dX3_putLine_14 : decode cX3_putLine 14 = .ok (.aload_n 0, 1) := by decide +kernel
theorem dX3_putLine_15 : decode cX3_putLine 15 = .ok (.bipush 44, 2) := by decide +kernel
theorem dX3_putLine_17 : decode cX3_putLine 17 = .ok (.invokevirtual 29, 3) := by decide +kernel
theorem dX3_putLine_20 : decode cX3_putLine 20 = .ok (.aload_n 0, 1) := by decide +kernel
theorem dX3_putLine_21 : decode cX3_putLine 21 = .ok (.aload_n 1, 1) := by decide +kernel
theorem dX3_putLine_22 : decode cX3_putLine 22 = .ok (.iload_n 2, 1) := by decide +kernel
theorem dX3_putLine_23 : decode cX3_putLine 23 = .ok (.invokevirtual 43, 3) := by decide +kernel
theorem dX3_putLine_26 : decode cX3_putLine 26 = .ok (.invokevirtual 47, 3) := by decide +kernel
theorem dX3_putLine_29 : decode cX3_putLine 29 = .ok (.iinc 2 1, 3) := by decide +kernel
theorem dX3_putLine_32 : decode cX3_putLine 32 = .ok (.goto (-30), 3) := by decide +kernel
theorem dX3_putLine_35 : decode cX3_putLine 35 = .ok (.return_, 1) := by decide +kernel
theorem dX3_putNote_0 : decode cX3_putNote 0 = .ok (.iload_n 1, 1) := by decide +kernel
theorem dX3_putNote_1 : decode cX3_putNote 1 = .ok (.iconst (-1), 1) := by decide +kernel
theorem dX3_putNote_2 : decode cX3_putNote 2 = .ok (.if_icmp .ne 10, 3) := by decide +kernel
theorem dX3_putNote_5 : decode cX3_putNote 5 = .ok (.aload_n 0, 1) := by decide +kernel
theorem dX3_putNote_6 : decode cX3_putNote 6 = .ok (.bipush 45, 2) := by decide +kernel
theorem dX3_putNote_8 : decode cX3_putNote 8 = .ok (.invokevirtual 29, 3) := by decide +kernel
theorem dX3_putNote_11 : decode cX3_putNote 11 = .ok (.return_, 1) := by decide +kernel
theorem dX3_putNote_12 : decode cX3_putNote 12 = .ok (.iload_n 1, 1) := by decide +kernel
theorem dX3_putNote_13 : decode cX3_putNote 13 = .ok (.invokestatic 51, 3) := by decide +kernel
theorem dX3_putNote_16 : decode cX3_putNote 16 = .ok (.istore_n 2, 1) := by decide +kernel
theorem dX3_putNote_17 : decode cX3_putNote 17 = .ok (.aload_n 0, 1) := by decide +kernel
theorem dX3_putNote_18 : decode cX3_putNote 18 = .ok (.ldc 54, 2) := by decide +kernel
theorem dX3_putNote_20 : decode cX3_putNote 20 = .ok (.iload_n 2, 1) := by decide +kernel
theorem dX3_putNote_21 : decode cX3_putNote 21 = .ok (.bipush 7, 2) := by decide +kernel
theorem dX3_putNote_23 : decode cX3_putNote 23 = .ok (.invokestatic 33, 3) := by decide +kernel
theorem dX3_putNote_26 : decode cX3_putNote 26 = .ok (.invokevirtual 25, 3) := by decide +kernel
theorem dX3_putNote_29 : decode cX3_putNote 29 = .ok (.invokevirtual 29, 3) := by decide +kernel
theorem dX3_putNote_32 : decode cX3_putNote 32 = .ok (.iload_n 1, 1) := by decide +kernel
theorem dX3_putNote_33 : decode cX3_putNote 33 = .ok (.invokestatic 56, 3) := by decide +kernel
theorem dX3_putNote_36 : decode cX3_putNote 36 = .ok (.ifCond .eq 21, 3) := by decide +kernel
theorem dX3_putNote_39 : decode cX3_putNote 39 = .ok (.aload_n 0, 1) := by decide +kernel
theorem dX3_putNote_40 : decode cX3_putNote 40 = .ok (.iload_n 1, 1) := by decide +kernel
theorem dX3_putNote_41 : decode cX3_putNote 41 = .ok (.invokestatic 56, 3) := by decide +kernel
theorem dX3_putNote_44 : decode cX3_putNote 44 = .ok (.ifCond .le 8, 3) := by decide +kernel
theorem dX3_putNote_47 : decode cX3_putNote 47 = .ok (.bipush 35, 2) := by decide +kernel
theorem dX3_putNote_49 : decode cX3_putNote 49 = .ok (.goto 5, 3) := by decide +kernel
theorem dX3_putNote_52 : decode cX3_putNote 52 = .ok (.bipush 98, 2) := by decide +kernel
theorem dX3_putNote_54 : decode cX3_putNote 54 = .ok (.invokevirtual 29, 3) := by decide +kernel
theorem dX3_putNote_57 : decode cX3_putNote 57 = .ok (.aload_n 0, 1) := by decide +kernel
theorem dX3_putNote_58 : decode cX3_putNote 58 = .ok (.bipush 48, 2) := by decide +kernel
theorem dX3_putNote_60 : decode cX3_putNote 60 = .ok (.iload_n 2, 1) := by decide +kernel
theorem dX3_putNote_61 : decode cX3_putNote 61 = .ok (.bipush 7, 2) := by decide +kernel
theorem dX3_putNote_63 : decode cX3_putNote 63 = .ok (.idiv, 1) := by decide +kernel
theorem dX3_putNote_64 : decode cX3_putNote 64 = .ok (.iadd, 1) := by decide +kernel
theorem dX3_putNote_65 : decode cX3_putNote 65 = .ok (.i2c, 1) := by decide +kernel
theorem dX3_putNote_66 : decode cX3_putNote 66 = .ok (.invokevirtual 29, 3) := by decide +kernel
theorem dX3_putNote_69 : decode cX3_putNote 69 = .ok (.return_, 1) := by decide +kernel
theorem dX4_init_0 : decode cX4_init 0 = .ok (.aload_n 0, 1) := by decide +kernel
theorem dX4_init_1 : decode cX4_init 1 = .ok (.invokespecial 3, 3) := by decide +kernel
theorem dX4_init_4 : decode cX4_init 4 = .ok (.aload_n 0, 1) := by decide +kernel
theorem dX4_init_5 : decode cX4_init 5 = .ok (.new 9, 3) := by decide +kernel
theorem dX4_init_8 : decode cX4_init 8 = .ok (.dup, 1) := by decide +kernel
theorem dX4_init_9 : decode cX4_init 9 = .ok (.invokespecial 11, 3) := by decide +kernel
theorem dX4_init_12 : decode cX4_init 12 = .ok (.putfield 12, 3) := by decide +kernel
theorem dX4_init_15 : decode cX4_init 15 = .ok (.aload_n 0, 1) := by decide +kernel
theorem dX4_init_16 : decode cX4_init 16 = .ok (.new 18, 3) := by decide +kernel
theorem dX4_init_19 : decode cX4_init 19 = .ok (.dup, 1) := by decide +kernel
theorem dX4_init_20 : decode cX4_init 20 = .ok (.invokespecial 20, 3) := by decide +kernel
theorem dX4_init_23 : decode cX4_init 23 = .ok (.putfield 21, 3) := by decide +kernel
theorem dX4_init_26 : decode cX4_init 26 = .ok (.aload_n 0, 1) := by decide +kernel
theorem dX4_init_27 : decode cX4_init 27 = .ok (.bipush 17, 2) := by decide +kernel
theorem dX4_init_29 : decode cX4_init 29 = .ok (.newarray .int, 2) := by decide +kernel
theorem dX4_init_31 : decode cX4_init 31 = .ok (.putfield 25, 3) := by decide +kernel
theorem dX4_init_34 : decode cX4_init 34 = .ok (.aload_n 0, 1) := by decide +kernel
theorem dX4_init_35 : decode cX4_init 35 = .ok (.iconst 0, 1) := by decide +kernel
theorem dX4_init_36 : decode cX4_init 36 = .ok (.putfield 29, 3) := by decide +kernel
theorem dX4_init_39 : decode cX4_init 39 = .ok (.aload_n 0, 1) := by decide +kernel
theorem dX4_init_40 : decode cX4_init 40 = .ok (.iconst 0, 1) := by decide +kernel
theorem dX4_init_41 : decode cX4_init 41 = .ok (.putfield 33, 3) := by decide +kernel
theorem dX4_init_44 : decode cX4_init 44 = .ok (.return_, 1) := by decide +kernel
theorem dX4_line_0 : decode cX4_line 0 = .ok (.aload_n 0, 1) := by decide +kernel
theorem dX4_line_1 : decode cX4_line 1 = .ok (.getfield 21, 3) := by decide +kernel
theorem dX4_line_4 : decode cX4_line 4 = .ok (.areturn, 1) := by decide +kernel
theorem dX4_names_0 : decode cX4_names 0 = .ok (.aload_n 0, 1) := by decide +kernel
theorem dX4_names_1 : decode cX4_names 1 = .ok (.getfield 29, 3) := by decide +kernel
theorem dX4_names_4 : decode cX4_names 4 = .ok (.ireturn, 1) := by decide +kernel
theorem dX4_weightFor_0 : decode cX4_weightFor 0 = .ok (.iload_n 1, 1) := by decide +kernel
theorem dX4_weightFor_1 : decode cX4_weightFor 1 = .ok (.iconst 1, 1) := by decide +kernel
theorem dX4_weightFor_2 : decode cX4_weightFor 2 = .ok (.if_icmp .lt 18, 3) := by decide +kernel
theorem dX4_weightFor_5 : decode cX4_weightFor 5 = .ok (.iload_n 1, 1) := by decide +kernel
theorem dX4_weightFor_6 : decode cX4_weightFor 6 = .ok (.bipush 16, 2) := by decide +kernel
theorem dX4_weightFor_8 : decode cX4_weightFor 8 = .ok (.if_icmp .gt 12, 3) := by decide +kernel
theorem dX4_weightFor_11 : decode cX4_weightFor 11 = .ok (.aload_n 0, 1) := by decide +kernel
theorem dX4_weightFor_12 : decode cX4_weightFor 12 = .ok (.getfield 25, 3) := by decide +kernel
theorem dX4_weightFor_15 : decode cX4_weightFor 15 = .ok (.iload_n 1, 1) := by decide +kernel
theorem dX4_weightFor_16 : decode cX4_weightFor 16 = .ok (.iaload, 1) := by decide +kernel
theorem dX4_weightFor_17 : decode cX4_weightFor 17 = .ok (.goto 4, 3) := by decide +kernel
theorem dX4_weightFor_20 : decode cX4_weightFor 20 = .ok (.iconst (-1), 1) := by decide +kernel
theorem dX4_weightFor_21 : decode cX4_weightFor 21 = .ok (.ireturn, 1) := by decide +kernel
theorem dX4_readLine_0 : decode cX4_readLine 0 = .ok (.aload_n 0, 1) := by decide +kernel
theorem dX4_readLine_1 : decode cX4_readLine 1 = .ok (.iconst 0, 1) := by decide +kernel
theorem dX4_readLine_2 : decode cX4_readLine 2 = .ok (.putfield 33, 3) := by decide +kernel
theorem dX4_readLine_5 : decode cX4_readLine 5 = .ok (.aload_n 0, 1) := by decide +kernel
theorem dX4_readLine_6 : decode cX4_readLine 6 = .ok (.getfield 21, 3) := by decide +kernel
theorem dX4_readLine_9 : decode cX4_readLine 9 = .ok (.invokevirtual 36, 3) := by decide +kernel
theorem dX4_readLine_12 : decode cX4_readLine 12 = .ok (.iload_n 1, 1) := by decide +kernel
theorem dX4_readLine_13 : decode cX4_readLine 13 = .ok (.ifCond .eq 32, 3) := by decide +kernel
theorem dX4_readLine_16 : decode cX4_readLine 16 = .ok (.aload_n 0, 1) := by decide +kernel
theorem dX4_readLine_17 : decode cX4_readLine 17 = .ok (.getfield 12, 3) := by decide +kernel
theorem dX4_readLine_20 : decode cX4_readLine 20 = .ok (.iconst 0, 1) := by decide +kernel
theorem dX4_readLine_21 : decode cX4_readLine 21 = .ok (.invokevirtual 39, 3) := by decide +kernel
theorem dX4_readLine_24 : decode cX4_readLine 24 = .ok (.bipush 45, 2) := by decide +kernel
theorem dX4_readLine_26 : decode cX4_readLine 26 = .ok (.if_icmp .ne 19, 3) := by decide +kernel
theorem dX4_readLine_29 : decode cX4_readLine 29 = .ok (.aload_n 0, 1) := by decide +kernel
theorem dX4_readLine_30 : decode cX4_readLine 30 = .ok (.getfield 21, 3) := by decide +kernel
theorem dX4_readLine_33 : decode cX4_readLine 33 = .ok (.iconst (-1), 1) := by decide +kernel
theorem dX4_readLine_34 : decode cX4_readLine 34 = .ok (.invokevirtual 43, 3) := by decide +kernel
theorem dX4_readLine_37 : decode cX4_readLine 37 = .ok (.aload_n 0, 1) := by decide +kernel
theorem dX4_readLine_38 : decode cX4_readLine 38 = .ok (.iconst 1, 1) := by decide +kernel
theorem dX4_readLine_39 : decode cX4_readLine 39 = .ok (.putfield 33, 3) := by decide +kernel
theorem dX4_readLine_42 : decode cX4_readLine 42 = .ok (.goto 15, 3) := by decide +kernel
theorem dX4_readLine_45 : decode cX4_readLine 45 = .ok (.aload_n 0, 1) := by decide +kernel
theorem dX4_readLine_46 : decode cX4_readLine 46 = .ok (.invokevirtual 47, 3) := by decide +kernel
theorem dX4_readLine_49 : decode cX4_readLine 49 = .ok (.ifCond .ne 8, 3) := by decide +kernel
theorem dX4_readLine_52 : decode cX4_readLine 52 = .ok (.aload_n 0, 1) := by decide +kernel
theorem dX4_readLine_53 : decode cX4_readLine 53 = .ok (.getfield 33, 3) := by decide +kernel
theorem dX4_readLine_56 : decode cX4_readLine 56 = .ok (.ireturn, 1) := by decide +kernel
theorem dX4_readLine_57 : decode cX4_readLine 57 = .ok (.iconst 0, 1) := by decide +kernel
theorem dX4_readLine_58 : decode cX4_readLine 58 = .ok (.istore 4, 2) := by decide +kernel
theorem dX4_readLine_60 : decode cX4_readLine 60 = .ok (.iload 4, 2) := by decide +kernel
theorem dX4_readLine_62 : decode cX4_readLine 62 = .ok (.bipush 45, 2) := by decide +kernel
theorem dX4_readLine_64 : decode cX4_readLine 64 = .ok (.if_icmp .ge 77, 3) := by decide +kernel
theorem dX4_readLine_67 : decode cX4_readLine 67 = .ok (.aload_n 0, 1) := by decide +kernel
theorem dX4_readLine_68 : decode cX4_readLine 68 = .ok (.getfield 33, 3) := by decide +kernel
theorem dX4_readLine_71 : decode cX4_readLine 71 = .ok (.aload_n 0, 1) := by decide +kernel
theorem dX4_readLine_72 : decode cX4_readLine 72 = .ok (.getfield 12, 3) := by decide +kernel
theorem dX4_readLine_75 : decode cX4_readLine 75 = .ok (.invokevirtual 51, 3) := by decide +kernel
theorem dX4_readLine_78 : decode cX4_readLine 78 = .ok (.if_icmp .ge 63, 3) := by decide +kernel
theorem dX4_readLine_81 : decode cX4_readLine 81 = .ok (.aload_n 0, 1) := by decide +kernel
theorem dX4_readLine_82 : decode cX4_readLine 82 = .ok (.getfield 12, 3) := by decide +kernel
theorem dX4_readLine_85 : decode cX4_readLine 85 = .ok (.aload_n 0, 1) := by decide +kernel
theorem dX4_readLine_86 : decode cX4_readLine 86 = .ok (.getfield 33, 3) := by decide +kernel
theorem dX4_readLine_89 : decode cX4_readLine 89 = .ok (.invokevirtual 39, 3) := by decide +kernel
theorem dX4_readLine_92 : decode cX4_readLine 92 = .ok (.bipush 44, 2) := by decide +kernel
theorem dX4_readLine_94 : decode cX4_readLine 94 = .ok (.if_icmp .ne 14, 3) := by decide +kernel
theorem dX4_readLine_97 : decode cX4_readLine 97 = .ok (.aload_n 0, 1) := by decide +kernel
theorem dX4_readLine_98 : decode cX4_readLine 98 = .ok (.getfield 21, 3) := by decide +kernel
theorem dX4_readLine_101 : decode cX4_readLine 101 = .ok (.invokevirtual 55, 3) := by decide +kernel
theorem dX4_readLine_104 : decode cX4_readLine 104 = .ok (.iload_n 3, 1) := by decide +kernel
theorem dX4_readLine_105 : decode cX4_readLine 105 = .ok (.if_icmp .lt 8, 3) := by decide +kernel
theorem dX4_readLine_108 : decode cX4_readLine 108 = .ok (.aload_n 0, 1) := by decide +kernel
theorem dX4_readLine_109 : decode cX4_readLine 109 = .ok (.getfield 33, 3) := by decide +kernel
theorem dX4_readLine_112 : decode cX4_readLine 112 = .ok (.ireturn, 1) := by decide +kernel
theorem dX4_readLine_113 : decode cX4_readLine 113 = .ok (.aload_n 0, 1) := by decide +kernel
theorem dX4_readLine_114 : decode cX4_readLine 114 = .ok (.dup, 1) := by decide +kernel
theorem dX4_readLine_115 : decode cX4_readLine 115 = .ok (.getfield 33, 3) := by decide +kernel
theorem dX4_readLine_118 : decode cX4_readLine 118 = .ok (.iconst 1, 1) := by decide +kernel
theorem dX4_readLine_119 : decode cX4_readLine 119 = .ok (.iadd, 1) := by decide +kernel
theorem dX4_readLine_120 : decode cX4_readLine 120 = .ok (.putfield 33, 3) := by decide +kernel
theorem dX4_readLine_123 : decode cX4_readLine 123 = .ok (.aload_n 0, 1) := by decide +kernel
theorem dX4_readLine_124 : decode cX4_readLine 124 = .ok (.invokevirtual 47, 3) := by decide +kernel
theorem dX4_readLine_127 : decode cX4_readLine 127 = .ok (.ifCond .ne 8, 3) := by decide +kernel
theorem dX4_readLine_130 : decode cX4_readLine 130 = .ok (.aload_n 0, 1) := by decide +kernel
theorem dX4_readLine_131 : decode cX4_readLine 131 = .ok (.getfield 33, 3) := by decide +kernel
theorem dX4_readLine_134 : decode cX4_readLine 134 = .ok (.ireturn, 1) := by decide +kernel
theorem dX4_readLine_135 : decode cX4_readLine 135 = .ok (.iinc 4 1, 3) := by decide +kernel
theorem dX4_readLine_138 : decode cX4_readLine 138 = .ok (.goto (-78), 3) := by decide +kernel
theorem dX4_readLine_141 : decode cX4_readLine 141 = .ok (.aload_n 0, 1) := by decide +kernel
theorem dX4_readLine_142 : decode cX4_readLine 142 = .ok (.getfield 33, 3) := by decide +kernel
theorem dX4_readLine_145 : decode cX4_readLine 145 = .ok (.aload_n 0, 1) := by decide +kernel
theorem dX4_readLine_146 : decode cX4_readLine 146 = .ok (.getfield 12, 3) := by decide +kernel
theorem dX4_readLine_149 : decode cX4_readLine 149 = .ok (.invokevirtual 51, 3) := by decide +kernel
theorem dX4_readLine_152 : decode cX4_readLine 152 = .ok (.if_icmp .ne 18, 3) := by decide +kernel
theorem dX4_readLine_155 : decode cX4_readLine 155 = .ok (.aload_n 0, 1) := by decide +kernel
theorem dX4_readLine_156 : decode cX4_readLine 156 = .ok (.getfield 21, 3) := by decide +kernel
theorem dX4_readLine_159 : decode cX4_readLine 159 = .ok (.invokevirtual 55, 3) := by decide +kernel
theorem dX4_readLine_162 : decode cX4_readLine 162 = .ok (.iload_n 2, 1) := by decide +kernel
theorem dX4_readLine_163 : decode cX4_readLine 163 = .ok (.if_icmp .lt 7, 3) := by decide +kernel
theorem dX4_readLine_166 : decode cX4_readLine 166 = .ok (.iconst (-1), 1) := by decide +kernel
theorem dX4_readLine_167 : decode cX4_readLine 167 = .ok (.goto 7, 3) := by decide +kernel
theorem dX4_readLine_170 : decode cX4_readLine 170 = .ok (.aload_n 0, 1) := by decide +kernel
theorem dX4_readLine_171 : decode cX4_readLine 171 = .ok (.getfield 33, 3) := by decide +kernel
theorem dX4_readLine_174 : decode cX4_readLine 174 = .ok (.ireturn, 1) := by decide +kernel
theorem dX4_readNote_0 : decode cX4_readNote 0 = .ok (.ldc 56, 2) := by decide +kernel
theorem dX4_readNote_2 : decode cX4_readNote 2 = .ok (.aload_n 0, 1) := by decide +kernel
theorem dX4_readNote_3 : decode cX4_readNote 3 = .ok (.getfield 12, 3) := by decide +kernel
theorem dX4_readNote_6 : decode cX4_readNote 6 = .ok (.aload_n 0, 1) := by decide +kernel
theorem dX4_readNote_7 : decode cX4_readNote 7 = .ok (.getfield 33, 3) := by decide +kernel
theorem dX4_readNote_10 : decode cX4_readNote 10 = .ok (.invokevirtual 39, 3) := by decide +kernel
theorem dX4_readNote_13 : decode cX4_readNote 13 = .ok (.invokevirtual 58, 3) := by decide +kernel
theorem dX4_readNote_16 : decode cX4_readNote 16 = .ok (.istore_n 1, 1) := by decide +kernel
theorem dX4_readNote_17 : decode cX4_readNote 17 = .ok (.iload_n 1, 1) := by decide +kernel
theorem dX4_readNote_18 : decode cX4_readNote 18 = .ok (.ifCond .ge 5, 3) := by decide +kernel
theorem dX4_readNote_21 : decode cX4_readNote 21 = .ok (.iconst 0, 1) := by decide +kernel
theorem dX4_readNote_22 : decode cX4_readNote 22 = .ok (.ireturn, 1) := by decide +kernel
theorem dX4_readNote_23 : decode cX4_readNote 23 = .ok (.aload_n 0, 1) := by decide +kernel
theorem dX4_readNote_24 : decode cX4_readNote 24 = .ok (.dup, 1) := by decide +kernel
theorem dX4_readNote_25 : decode cX4_readNote 25 = .ok (.getfield 33, 3) := by decide +kernel
theorem dX4_readNote_28 : decode cX4_readNote 28 = .ok (.iconst 1, 1) := by decide +kernel
theorem dX4_readNote_29 : decode cX4_readNote 29 = .ok (.iadd, 1) := by decide +kernel
theorem dX4_readNote_30 : decode cX4_readNote 30 = .ok (.putfield 33, 3) := by decide +kernel
theorem dX4_readNote_33 : decode cX4_readNote 33 = .ok (.aload_n 0, 1) := by decide +kernel
theorem dX4_readNote_34 : decode cX4_readNote 34 = .ok (.getfield 12, 3) := by decide +kernel
theorem dX4_readNote_37 : decode cX4_readNote 37 = .ok (.aload_n 0, 1) := by decide +kernel
theorem dX4_readNote_38 : decode cX4_readNote 38 = .ok (.getfield 33, 3) := by decide +kernel
theorem dX4_readNote_41 : decode cX4_readNote 41 = .ok (.invokevirtual 39, 3) := by decide +kernel
theorem dX4_readNote_44 : decode cX4_readNote 44 = .ok (.bipush 35, 2) := by decide +kernel
theorem dX4_readNote_46 : decode cX4_readNote 46 = .ok (.if_icmp .ne 7, 3) := by decide +kernel
theorem dX4_readNote_49 : decode cX4_readNote 49 = .ok (.iconst 1, 1) := by decide +kernel
theorem dX4_readNote_50 : decode cX4_readNote 50 = .ok (.goto 24, 3) := by decide +kernel
theorem dX4_readNote_53 : decode cX4_readNote 53 = .ok (.aload_n 0, 1) := by decide +kernel
theorem dX4_readNote_54 : decode cX4_readNote 54 = .ok (.getfield 12, 3) := by decide +kernel
theorem dX4_readNote_57 : decode cX4_readNote 57 = .ok (.aload_n 0, 1) := by decide +kernel
theorem dX4_readNote_58 : decode cX4_readNote 58 = .ok (.getfield 33, 3) := by decide +kernel
theorem dX4_readNote_61 : decode cX4_readNote 61 = .ok (.invokevirtual 39, 3) := by decide +kernel
theorem dX4_readNote_64 : decode cX4_readNote 64 = .ok (.bipush 98, 2) := by decide +kernel
theorem dX4_readNote_66 : decode cX4_readNote 66 = .ok (.if_icmp .ne 7, 3) := by decide +kernel
theorem dX4_readNote_69 : decode cX4_readNote 69 = .ok (.iconst (-1), 1) := by decide +kernel
theorem dX4_readNote_70 : decode cX4_readNote 70 = .ok (.goto 4, 3) := by decide +kernel
theorem dX4_readNote_73 : decode cX4_readNote 73 = .ok (.iconst 0, 1) := by decide +kernel
theorem dX4_readNote_74 : decode cX4_readNote 74 = .ok (.istore_n 2, 1) := by decide +kernel
theorem dX4_readNote_75 : decode cX4_readNote 75 = .ok (.iload_n 2, 1) := by decide +kernel
theorem dX4_readNote_76 : decode cX4_readNote 76 = .ok (.ifCond .eq 13, 3) := by decide +kernel
theorem dX4_readNote_79 : decode cX4_readNote 79 = .ok (.aload_n 0, 1) := by decide +kernel
theorem dX4_readNote_80 : decode cX4_readNote 80 = .ok (.dup, 1) := by decide +kernel
theorem dX4_readNote_81 : decode cX4_readNote 81 = .ok (.getfield 33, 3) := by decide +kernel
theorem dX4_readNote_84 : decode cX4_readNote 84 = .ok (.iconst 1, 1) := by decide +kernel
theorem dX4_readNote_85 : decode cX4_readNote 85 = .ok (.iadd, 1) := by decide +kernel
theorem dX4_readNote_86 : decode cX4_readNote 86 = .ok (.putfield 33, 3) := by decide +kernel
theorem dX4_readNote_89 : decode cX4_readNote 89 = .ok (.aload_n 0, 1) := by decide +kernel
theorem dX4_readNote_90 : decode cX4_readNote 90 = .ok (.getfield 12, 3) := by decide +kernel
theorem dX4_readNote_93 : decode cX4_readNote 93 = .ok (.aload_n 0, 1) := by decide +kernel
theorem dX4_readNote_94 : decode cX4_readNote 94 = .ok (.getfield 33, 3) := by decide +kernel
theorem dX4_readNote_97 : decode cX4_readNote 97 = .ok (.invokevirtual 39, 3) := by decide +kernel
theorem dX4_readNote_100 : decode cX4_readNote 100 = .ok (.bipush 48, 2) := by decide +kernel
theorem dX4_readNote_102 : decode cX4_readNote 102 = .ok (.isub, 1) := by decide +kernel
theorem dX4_readNote_103 : decode cX4_readNote 103 = .ok (.istore_n 3, 1) := by decide +kernel
theorem dX4_readNote_104 : decode cX4_readNote 104 = .ok (.iload_n 3, 1) := by decide +kernel
theorem dX4_readNote_105 : decode cX4_readNote 105 = .ok (.iconst 2, 1) := by decide +kernel
theorem dX4_readNote_106 : decode cX4_readNote 106 = .ok (.if_icmp .lt 9, 3) := by decide +kernel
theorem dX4_readNote_109 : decode cX4_readNote 109 = .ok (.iload_n 3, 1) := by decide +kernel
theorem dX4_readNote_110 : decode cX4_readNote 110 = .ok (.bipush 6, 2) := by decide +kernel
theorem dX4_readNote_112 : decode cX4_readNote 112 = .ok (.if_icmp .le 5, 3) := by decide +kernel
theorem dX4_readNote_115 : decode cX4_readNote 115 = .ok (.iconst 0, 1) := by decide +kernel
theorem dX4_readNote_116 : decode cX4_readNote 116 = .ok (.ireturn, 1) := by decide +kernel
theorem dX4_readNote_117 : decode cX4_readNote 117 = .ok (.aload_n 0, 1) := by decide +kernel
theorem dX4_readNote_118 : decode cX4_readNote 118 = .ok (.dup, 1) := by decide +kernel
theorem dX4_readNote_119 : decode cX4_readNote 119 = .ok (.getfield 33, 3) := by decide +kernel
theorem dX4_readNote_122 : decode cX4_readNote 122 = .ok (.iconst 1, 1) := by decide +kernel
theorem dX4_readNote_123 : decode cX4_readNote 123 = .ok (.iadd, 1) := by decide +kernel
theorem dX4_readNote_124 : decode cX4_readNote 124 = .ok (.putfield 33, 3) := by decide +kernel
theorem dX4_readNote_127 : decode cX4_readNote 127 = .ok (.aload_n 0, 1) := by decide +kernel
theorem dX4_readNote_128 : decode cX4_readNote 128 = .ok (.getfield 21, 3) := by decide +kernel
theorem dX4_readNote_131 : decode cX4_readNote 131 = .ok (.iconst 3, 1) := by decide +kernel
theorem dX4_readNote_132 : decode cX4_readNote 132 = .ok (.bipush 7, 2) := by decide +kernel
theorem dX4_readNote_134 : decode cX4_readNote 134 = .ok (.iload_n 3, 1) := by decide +kernel
theorem dX4_readNote_135 : decode cX4_readNote 135 = .ok (.imul, 1) := by decide +kernel
theorem dX4_readNote_136 : decode cX4_readNote 136 = .ok (.iload_n 1, 1) := by decide +kernel
theorem dX4_readNote_137 : decode cX4_readNote 137 = .ok (.iadd, 1) := by decide +kernel
theorem dX4_readNote_138 : decode cX4_readNote 138 = .ok (.imul, 1) := by decide +kernel
theorem dX4_readNote_139 : decode cX4_readNote 139 = .ok (.iload_n 2, 1) := by decide +kernel
theorem dX4_readNote_140 : decode cX4_readNote 140 = .ok (.iadd, 1) := by decide +kernel
theorem dX4_readNote_141 : decode cX4_readNote 141 = .ok (.iconst 1, 1) := by decide +kernel
theorem dX4_readNote_142 : decode cX4_readNote 142 = .ok (.iadd, 1) := by decide +kernel
theorem dX4_readNote_143 : decode cX4_readNote 143 = .ok (.invokevirtual 43, 3) := by decide +kernel
theorem dX4_readNote_146 : decode cX4_readNote 146 = .ok (.iconst 1, 1) := by decide +kernel
theorem dX4_readNote_147 : decode cX4_readNote 147 = .ok (.ireturn, 1) := by decide +kernel
theorem dX4_readWeights_0 : decode cX4_readWeights 0 = .ok (.aload_n 0, 1) := by decide +kernel
theorem dX4_readWeights_1 : decode cX4_readWeights 1 = .ok (.iconst 0, 1) := by decide +kernel
theorem dX4_readWeights_2 : decode cX4_readWeights 2 = .ok (.putfield 33, 3) := by decide +kernel
theorem dX4_readWeights_5 : decode cX4_readWeights 5 = .ok (.aload_n 0, 1) := by decide +kernel
theorem dX4_readWeights_6 : decode cX4_readWeights 6 = .ok (.iconst 0, 1) := by decide +kernel
theorem dX4_readWeights_7 : decode cX4_readWeights 7 = .ok (.putfield 29, 3) := by decide +kernel
theorem dX4_readWeights_10 : decode cX4_readWeights 10 = .ok (.iconst 0, 1) := by decide +kernel
theorem dX4_readWeights_11 : decode cX4_readWeights 11 = .ok (.istore_n 1, 1) := by decide +kernel
theorem dX4_readWeights_12 : decode cX4_readWeights 12 = .ok (.iload_n 1, 1) := by decide +kernel
theorem dX4_readWeights_13 : decode cX4_readWeights 13 = .ok (.bipush 16, 2) := by decide +kernel
theorem dX4_readWeights_15 : decode cX4_readWeights 15 = .ok (.if_icmp .gt 16, 3) := by decide +kernel
theorem dX4_readWeights_18 : decode cX4_readWeights 18 = .ok (.aload_n 0, 1) := by decide +kernel
theorem dX4_readWeights_19 : decode cX4_readWeights 19 = .ok (.getfield 25, 3) := by decide +kernel
theorem dX4_readWeights_22 : decode cX4_readWeights 22 = .ok (.iload_n 1, 1) := by decide +kernel
theorem dX4_readWeights_23 : decode cX4_readWeights 23 = .ok (.iconst (-1), 1) := by decide +kernel
theorem dX4_readWeights_24 : decode cX4_readWeights 24 = .ok (.iastore, 1) := by decide +kernel
theorem dX4_readWeights_25 : decode cX4_readWeights 25 = .ok (.iinc 1 1, 3) := by decide +kernel
theorem dX4_readWeights_28 : decode cX4_readWeights 28 = .ok (.goto (-16), 3) := by decide +kernel
theorem dX4_readWeights_31 : decode cX4_readWeights 31 = .ok (.iconst 0, 1) := by decide +kernel
theorem dX4_readWeights_32 : decode cX4_readWeights 32 = .ok (.istore_n 1, 1) := by decide +kernel
theorem dX4_readWeights_33 : decode cX4_readWeights 33 = .ok (.iload_n 1, 1) := by decide +kernel
theorem dX4_readWeights_34 : decode cX4_readWeights 34 = .ok (.sipush 180, 3) := by decide +kernel
theorem dX4_readWeights_37 : decode cX4_readWeights 37 = .ok (.if_icmp .ge 68, 3) := by decide +kernel
theorem dX4_readWeights_40 : decode cX4_readWeights 40 = .ok (.aload_n 0, 1) := by decide +kernel
theorem dX4_readWeights_41 : decode cX4_readWeights 41 = .ok (.invokevirtual 64, 3) := by decide +kernel
theorem dX4_readWeights_44 : decode cX4_readWeights 44 = .ok (.ifCond .ne 8, 3) := by decide +kernel
theorem dX4_readWeights_47 : decode cX4_readWeights 47 = .ok (.aload_n 0, 1) := by decide +kernel
theorem dX4_readWeights_48 : decode cX4_readWeights 48 = .ok (.getfield 33, 3) := by decide +kernel
theorem dX4_readWeights_51 : decode cX4_readWeights 51 = .ok (.ireturn, 1) := by decide +kernel
theorem dX4_readWeights_52 : decode cX4_readWeights 52 = .ok (.aload_n 0, 1) := by decide +kernel
theorem dX4_readWeights_53 : decode cX4_readWeights 53 = .ok (.getfield 33, 3) := by decide +kernel
theorem dX4_readWeights_56 : decode cX4_readWeights 56 = .ok (.aload_n 0, 1) := by decide +kernel
theorem dX4_readWeights_57 : decode cX4_readWeights 57 = .ok (.getfield 12, 3) := by decide +kernel
theorem dX4_readWeights_60 : decode cX4_readWeights 60 = .ok (.invokevirtual 51, 3) := by decide +kernel
theorem dX4_readWeights_63 : decode cX4_readWeights 63 = .ok (.if_icmp .ne 5, 3) := by decide +kernel
theorem dX4_readWeights_66 : decode cX4_readWeights 66 = .ok (.iconst (-1), 1) := by decide +kernel
theorem dX4_readWeights_67 : decode cX4_readWeights 67 = .ok (.ireturn, 1) := by decide +kernel
theorem dX4_readWeights_68 : decode cX4_readWeights 68 = .ok (.aload_n 0, 1) := by decide +kernel
theorem dX4_readWeights_69 : decode cX4_readWeights 69 = .ok (.getfield 12, 3) := by decide +kernel
theorem dX4_readWeights_72 : decode cX4_readWeights 72 = .ok (.aload_n 0, 1) := by decide +kernel
theorem dX4_readWeights_73 : decode cX4_readWeights 73 = .ok (.getfield 33, 3) := by decide +kernel
theorem dX4_readWeights_76 : decode cX4_readWeights 76 = .ok (.invokevirtual 39, 3) := by decide +kernel
theorem dX4_readWeights_79 : decode cX4_readWeights 79 = .ok (.bipush 44, 2) := by decide +kernel
theorem dX4_readWeights_81 : decode cX4_readWeights 81 = .ok (.if_icmp .eq 8, 3) := by decide +kernel
theorem dX4_readWeights_84 : decode cX4_readWeights 84 = .ok (.aload_n 0, 1) := by decide +kernel
theorem dX4_readWeights_85 : decode cX4_readWeights 85 = .ok (.getfield 33, 3) := by decide +kernel
theorem dX4_readWeights_88 : decode cX4_readWeights 88 = .ok (.ireturn, 1) := by decide +kernel
theorem dX4_readWeights_89 : decode cX4_readWeights 89 = .ok (.aload_n 0, 1) := by decide +kernel
theorem dX4_readWeights_90 : decode cX4_readWeights 90 = .ok (.dup, 1) := by decide +kernel
theorem dX4_readWeights_91 : decode cX4_readWeights 91 = .ok (.getfield 33, 3) := by decide +kernel
theorem dX4_readWeights_94 : decode cX4_readWeights 94 = .ok (.iconst 1, 1) := by decide +kernel
theorem dX4_readWeights_95 : decode cX4_readWeights 95 = .ok (.iadd, 1) := by decide +kernel
theorem dX4_readWeights_96 : decode cX4_readWeights 96 = .ok (.putfield 33, 3) := by decide +kernel
theorem dX4_readWeights_99 : decode cX4_readWeights 99 = .ok (.iinc 1 1, 3) := by decide +kernel
theorem dX4_readWeights_102 : decode cX4_readWeights 102 = .ok (.goto (-69), 3) := by decide +kernel
theorem dX4_readWeights_105 : decode cX4_readWeights 105 = .ok (.aload_n 0, 1) := by decide +kernel
theorem dX4_readWeights_106 : decode cX4_readWeights 106 = .ok (.getfield 33, 3) := by decide +kernel
theorem dX4_readWeights_109 : decode cX4_readWeights 109 = .ok (.ireturn, 1) := by decide +kernel
theorem dX4_readWeight_0 : decode cX4_readWeight 0 = .ok (.aload_n 0, 1) := by decide +kernel
theorem dX4_readWeight_1 : decode cX4_readWeight 1 = .ok (.invokevirtual 67, 3) := by decide +kernel
theorem dX4_readWeight_4 : decode cX4_readWeight 4 = .ok (.istore_n 1, 1) := by decide +kernel
theorem dX4_readWeight_5 : decode cX4_readWeight 5 = .ok (.iload_n 1, 1) := by decide +kernel
theorem dX4_readWeight_6 : decode cX4_readWeight 6 = .ok (.ifCond .ne 5, 3) := by decide +kernel
theorem dX4_readWeight_9 : decode cX4_readWeight 9 = .ok (.iconst 0, 1) := by decide +kernel
theorem dX4_readWeight_10 : decode cX4_readWeight 10 = .ok (.ireturn, 1) := by decide +kernel
theorem dX4_readWeight_11 : decode cX4_readWeight 11 = .ok (.aload_n 0, 1) := by decide +kernel
theorem dX4_readWeight_12 : decode cX4_readWeight 12 = .ok (.dup, 1) := by decide +kernel
theorem dX4_readWeight_13 : decode cX4_readWeight 13 = .ok (.getfield 33, 3) := by decide +kernel
theorem dX4_readWeight_16 : decode cX4_readWeight 16 = .ok (.iload_n 1, 1) := by decide +kernel
theorem dX4_readWeight_17 : decode cX4_readWeight 17 = .ok (.invokestatic 70, 3) := by decide +kernel
theorem dX4_readWeight_20 : decode cX4_readWeight 20 = .ok (.invokevirtual 74, 3) := by decide +kernel
theorem dX4_readWeight_23 : decode cX4_readWeight 23 = .ok (.iadd, 1) := by decide +kernel
theorem dX4_readWeight_24 : decode cX4_readWeight 24 = .ok (.putfield 33, 3) := by decide +kernel
theorem dX4_readWeight_27 : decode cX4_readWeight 27 = .ok (.aload_n 0, 1) := by decide +kernel
theorem dX4_readWeight_28 : decode cX4_readWeight 28 = .ok (.getfield 12, 3) := by decide +kernel
theorem dX4_readWeight_31 : decode cX4_readWeight 31 = .ok (.aload_n 0, 1) := by decide +kernel
theorem dX4_readWeight_32 : decode cX4_readWeight 32 = .ok (.getfield 33, 3) := by decide +kernel
theorem dX4_readWeight_35 : decode cX4_readWeight 35 = .ok (.invokevirtual 39, 3) := by decide +kernel
theorem dX4_readWeight_38 : decode cX4_readWeight 38 = .ok (.bipush 61, 2) := by decide +kernel
theorem dX4_readWeight_40 : decode cX4_readWeight 40 = .ok (.if_icmp .eq 5, 3) := by decide +kernel
theorem dX4_readWeight_43 : decode cX4_readWeight 43 = .ok (.iconst 0, 1) := by decide +kernel
theorem dX4_readWeight_44 : decode cX4_readWeight 44 = .ok (.ireturn, 1) := by decide +kernel
theorem dX4_readWeight_45 : decode cX4_readWeight 45 = .ok (.aload_n 0, 1) := by decide +kernel
theorem dX4_readWeight_46 : decode cX4_readWeight 46 = .ok (.dup, 1) := by decide +kernel
theorem dX4_readWeight_47 : decode cX4_readWeight 47 = .ok (.getfield 33, 3) := by decide +kernel
theorem dX4_readWeight_50 : decode cX4_readWeight 50 = .ok (.iconst 1, 1) := by decide +kernel
theorem dX4_readWeight_51 : decode cX4_readWeight 51 = .ok (.iadd, 1) := by decide +kernel
theorem dX4_readWeight_52 : decode cX4_readWeight 52 = .ok (.putfield 33, 3) := by decide +kernel
theorem dX4_readWeight_55 : decode cX4_readWeight 55 = .ok (.aload_n 0, 1) := by decide +kernel
theorem dX4_readWeight_56 : decode cX4_readWeight 56 = .ok (.getfield 12, 3) := by decide +kernel
theorem dX4_readWeight_59 : decode cX4_readWeight 59 = .ok (.aload_n 0, 1) := by decide +kernel
theorem dX4_readWeight_60 : decode cX4_readWeight 60 = .ok (.getfield 33, 3) := by decide +kernel
theorem dX4_readWeight_63 : decode cX4_readWeight 63 = .ok (.invokevirtual 39, 3) := by decide +kernel
theorem dX4_readWeight_66 : decode cX4_readWeight 66 = .ok (.bipush 48, 2) := by decide +kernel
theorem dX4_readWeight_68 : decode cX4_readWeight 68 = .ok (.isub, 1) := by decide +kernel
theorem dX4_readWeight_69 : decode cX4_readWeight 69 = .ok (.istore_n 2, 1) := by decide +kernel
theorem dX4_readWeight_70 : decode cX4_readWeight 70 = .ok (.iload_n 2, 1) := by decide +kernel
theorem dX4_readWeight_71 : decode cX4_readWeight 71 = .ok (.ifCond .lt 9, 3) := by decide +kernel
theorem dX4_readWeight_74 : decode cX4_readWeight 74 = .ok (.iload_n 2, 1) := by decide +kernel
theorem dX4_readWeight_75 : decode cX4_readWeight 75 = .ok (.bipush 9, 2) := by decide +kernel
theorem dX4_readWeight_77 : decode cX4_readWeight 77 = .ok (.if_icmp .le 5, 3) := by decide +kernel
theorem dX4_readWeight_80 : decode cX4_readWeight 80 = .ok (.iconst 0, 1) := by decide +kernel
theorem dX4_readWeight_81 : decode cX4_readWeight 81 = .ok (.ireturn, 1) := by decide +kernel
theorem dX4_readWeight_82 : decode cX4_readWeight 82 = .ok (.aload_n 0, 1) := by decide +kernel
theorem dX4_readWeight_83 : decode cX4_readWeight 83 = .ok (.dup, 1) := by decide +kernel
theorem dX4_readWeight_84 : decode cX4_readWeight 84 = .ok (.getfield 33, 3) := by decide +kernel
theorem dX4_readWeight_87 : decode cX4_readWeight 87 = .ok (.iconst 1, 1) := by decide +kernel
theorem dX4_readWeight_88 : decode cX4_readWeight 88 = .ok (.iadd, 1) := by decide +kernel
theorem dX4_readWeight_89 : decode cX4_readWeight 89 = .ok (.putfield 33, 3) := by decide +kernel
theorem dX4_readWeight_92 : decode cX4_readWeight 92 = .ok (.aload_n 0, 1) := by decide +kernel
theorem dX4_readWeight_93 : decode cX4_readWeight 93 = .ok (.getfield 25, 3) := by decide +kernel
theorem dX4_readWeight_96 : decode cX4_readWeight 96 = .ok (.iload_n 1, 1) := by decide +kernel
theorem dX4_readWeight_97 : decode cX4_readWeight 97 = .ok (.iload_n 2, 1) := by decide +kernel
theorem dX4_readWeight_98 : decode cX4_readWeight 98 = .ok (.iastore, 1) := by decide +kernel
theorem dX4_readWeight_99 : decode cX4_readWeight 99 = .ok (.aload_n 0, 1) := by decide +kernel
theorem dX4_readWeight_100 : decode cX4_readWeight 100 = .ok (.dup, 1) := by decide +kernel
theorem dX4_readWeight_101 : decode cX4_readWeight 101 = .ok (.getfield 29, 3) := by decide +kernel
theorem dX4_readWeight_104 : decode cX4_readWeight 104 = .ok (.iconst 1, 1) := by decide +kernel
theorem dX4_readWeight_105 : decode cX4_readWeight 105 = .ok (.iadd, 1) := by decide +kernel
theorem dX4_readWeight_106 : decode cX4_readWeight 106 = .ok (.putfield 29, 3) := by decide +kernel
theorem dX4_readWeight_109 : decode cX4_readWeight 109 = .ok (.iconst 1, 1) := by decide +kernel
theorem dX4_readWeight_110 : decode cX4_readWeight 110 = .ok (.ireturn, 1) := by decide +kernel
theorem dX4_ruleNamedHere_0 : decode cX4_ruleNamedHere 0 = .ok (.iconst 1, 1) := by decide +kernel
theorem dX4_ruleNamedHere_1 : decode cX4_ruleNamedHere 1 = .ok (.istore_n 1, 1) := by decide +kernel
theorem dX4_ruleNamedHere_2 : decode cX4_ruleNamedHere 2 = .ok (.iload_n 1, 1) := by decide +kernel
theorem dX4_ruleNamedHere_3 : decode cX4_ruleNamedHere 3 = .ok (.bipush 16, 2) := by decide +kernel
theorem dX4_ruleNamedHere_5 : decode cX4_ruleNamedHere 5 = .ok (.if_icmp .gt 22, 3) := by decide +kernel
theorem dX4_ruleNamedHere_8 : decode cX4_ruleNamedHere 8 = .ok (.aload_n 0, 1) := by decide +kernel
theorem dX4_ruleNamedHere_9 : decode cX4_ruleNamedHere 9 = .ok (.iload_n 1, 1) := by decide +kernel
theorem dX4_ruleNamedHere_10 : decode cX4_ruleNamedHere 10 = .ok (.invokestatic 70, 3) := by decide +kernel
theorem dX4_ruleNamedHere_13 : decode cX4_ruleNamedHere 13 = .ok (.invokevirtual 77, 3) := by decide +kernel
theorem dX4_ruleNamedHere_16 : decode cX4_ruleNamedHere 16 = .ok (.ifCond .eq 5, 3) := by decide +kernel
theorem dX4_ruleNamedHere_19 : decode cX4_ruleNamedHere 19 = .ok (.iload_n 1, 1) := by decide +kernel
theorem dX4_ruleNamedHere_20 : decode cX4_ruleNamedHere 20 = .ok (.ireturn, 1) := by decide +kernel
theorem dX4_ruleNamedHere_21 : decode cX4_ruleNamedHere 21 = .ok (.iinc 1 1, 3) := by decide +kernel
theorem dX4_ruleNamedHere_24 : decode cX4_ruleNamedHere 24 = .ok (.goto (-22), 3) := by decide +kernel
theorem dX4_ruleNamedHere_27 : decode cX4_ruleNamedHere 27 = .ok (.iconst 0, 1) := by decide +kernel
theorem dX4_ruleNamedHere_28 : decode cX4_ruleNamedHere 28 = .ok (.ireturn, 1) := by decide +kernel
theorem dX4_isHere_0 : decode cX4_isHere 0 = .ok (.iconst 0, 1) := by decide +kernel
theorem dX4_isHere_1 : decode cX4_isHere 1 = .ok (.istore_n 2, 1) := by decide +kernel
theorem dX4_isHere_2 : decode cX4_isHere 2 = .ok (.iload_n 2, 1) := by decide +kernel
theorem dX4_isHere_3 : decode cX4_isHere 3 = .ok (.aload_n 1, 1) := by decide +kernel
theorem dX4_isHere_4 : decode cX4_isHere 4 = .ok (.invokevirtual 74, 3) := by decide +kernel
theorem dX4_isHere_7 : decode cX4_isHere 7 = .ok (.if_icmp .ge 32, 3) := by decide +kernel
theorem dX4_isHere_10 : decode cX4_isHere 10 = .ok (.aload_n 0, 1) := by decide +kernel
theorem dX4_isHere_11 : decode cX4_isHere 11 = .ok (.getfield 12, 3) := by decide +kernel
theorem dX4_isHere_14 : decode cX4_isHere 14 = .ok (.aload_n 0, 1) := by decide +kernel
theorem dX4_isHere_15 : decode cX4_isHere 15 = .ok (.getfield 33, 3) := by decide +kernel
theorem dX4_isHere_18 : decode cX4_isHere 18 = .ok (.iload_n 2, 1) := by decide +kernel
theorem dX4_isHere_19 : decode cX4_isHere 19 = .ok (.iadd, 1) := by decide +kernel
theorem dX4_isHere_20 : decode cX4_isHere 20 = .ok (.invokevirtual 39, 3) := by decide +kernel
theorem dX4_isHere_23 : decode cX4_isHere 23 = .ok (.aload_n 1, 1) := by decide +kernel
theorem dX4_isHere_24 : decode cX4_isHere 24 = .ok (.iload_n 2, 1) := by decide +kernel
theorem dX4_isHere_25 : decode cX4_isHere 25 = .ok (.invokevirtual 81, 3) := by decide +kernel
theorem dX4_isHere_28 : decode cX4_isHere 28 = .ok (.if_icmp .eq 5, 3) := by decide +kernel
theorem dX4_isHere_31 : decode cX4_isHere 31 = .ok (.iconst 0, 1) := by decide +kernel
theorem dX4_isHere_32 : decode cX4_isHere 32 = .ok (.ireturn, 1) := by decide +kernel
theorem dX4_isHere_33 : decode cX4_isHere 33 = .ok (.iinc 2 1, 3) := by decide +kernel
theorem dX4_isHere_36 : decode cX4_isHere 36 = .ok (.goto (-34), 3) := by decide +kernel
theorem dX4_isHere_39 : decode cX4_isHere 39 = .ok (.aload_n 0, 1) := by decide +kernel
theorem dX4_isHere_40 : decode cX4_isHere 40 = .ok (.getfield 12, 3) := by decide +kernel
theorem dX4_isHere_43 : decode cX4_isHere 43 = .ok (.aload_n 0, 1) := by decide +kernel
theorem dX4_isHere_44 : decode cX4_isHere 44 = .ok (.getfield 33, 3) := by decide +kernel
theorem dX4_isHere_47 : decode cX4_isHere 47 = .ok (.aload_n 1, 1) := by decide +kernel
theorem dX4_isHere_48 : decode cX4_isHere 48 = .ok (.invokevirtual 74, 3) := by decide +kernel
theorem dX4_isHere_51 : decode cX4_isHere 51 = .ok (.iadd, 1) := by decide +kernel
theorem dX4_isHere_52 : decode cX4_isHere 52 = .ok (.invokevirtual 39, 3) := by decide +kernel
theorem dX4_isHere_55 : decode cX4_isHere 55 = .ok (.istore_n 2, 1) := by decide +kernel
theorem dX4_isHere_56 : decode cX4_isHere 56 = .ok (.iload_n 2, 1) := by decide +kernel
theorem dX4_isHere_57 : decode cX4_isHere 57 = .ok (.bipush 97, 2) := by decide +kernel
theorem dX4_isHere_59 : decode cX4_isHere 59 = .ok (.if_icmp .lt 9, 3) := by decide +kernel
theorem dX4_isHere_62 : decode cX4_isHere 62 = .ok (.iload_n 2, 1) := by decide +kernel
theorem dX4_isHere_63 : decode cX4_isHere 63 = .ok (.bipush 122, 2) := by decide +kernel
theorem dX4_isHere_65 : decode cX4_isHere 65 = .ok (.if_icmp .le 7, 3) := by decide +kernel
theorem dX4_isHere_68 : decode cX4_isHere 68 = .ok (.iconst 1, 1) := by decide +kernel
theorem dX4_isHere_69 : decode cX4_isHere 69 = .ok (.goto 4, 3) := by decide +kernel
theorem dX4_isHere_72 : decode cX4_isHere 72 = .ok (.iconst 0, 1) := by decide +kernel
theorem dX4_isHere_73 : decode cX4_isHere 73 = .ok (.ireturn, 1) := by decide +kernel
theorem dX5_init_0 : decode cX5_init 0 = .ok (.aload_n 0, 1) := by decide +kernel
theorem dX5_init_1 : decode cX5_init 1 = .ok (.invokespecial 3, 3) := by decide +kernel
theorem dX5_init_4 : decode cX5_init 4 = .ok (.aload_n 0, 1) := by decide +kernel
theorem dX5_init_5 : decode cX5_init 5 = .ok (.new 9, 3) := by decide +kernel
theorem dX5_init_8 : decode cX5_init 8 = .ok (.dup, 1) := by decide +kernel
theorem dX5_init_9 : decode cX5_init 9 = .ok (.invokespecial 11, 3) := by decide +kernel
theorem dX5_init_12 : decode cX5_init 12 = .ok (.putfield 12, 3) := by decide +kernel
theorem dX5_init_15 : decode cX5_init 15 = .ok (.aload_n 0, 1) := by decide +kernel
theorem dX5_init_16 : decode cX5_init 16 = .ok (.aload_n 0, 1) := by decide +kernel
theorem dX5_init_17 : decode cX5_init 17 = .ok (.getfield 12, 3) := by decide +kernel
theorem dX5_init_20 : decode cX5_init 20 = .ok (.getfield 18, 3) := by decide +kernel
theorem dX5_init_23 : decode cX5_init 23 = .ok (.putfield 22, 3) := by decide +kernel
theorem dX5_init_26 : decode cX5_init 26 = .ok (.return_, 1) := by decide +kernel
theorem dX5_line_0 : decode cX5_line 0 = .ok (.aload_n 0, 1) := by decide +kernel
theorem dX5_line_1 : decode cX5_line 1 = .ok (.getfield 22, 3) := by decide +kernel
theorem dX5_line_4 : decode cX5_line 4 = .ok (.getfield 23, 3) := by decide +kernel
theorem dX5_line_7 : decode cX5_line 7 = .ok (.areturn, 1) := by decide +kernel
theorem dX5_seek_0 : decode cX5_seek 0 = .ok (.aload_n 0, 1) := by decide +kernel
theorem dX5_seek_1 : decode cX5_seek 1 = .ok (.getfield 22, 3) := by decide +kernel
theorem dX5_seek_4 : decode cX5_seek 4 = .ok (.aload_n 1, 1) := by decide +kernel
theorem dX5_seek_5 : decode cX5_seek 5 = .ok (.invokevirtual 29, 3) := by decide +kernel
theorem dX5_seek_8 : decode cX5_seek 8 = .ok (.aload_n 0, 1) := by decide +kernel
theorem dX5_seek_9 : decode cX5_seek 9 = .ok (.getfield 22, 3) := by decide +kernel
theorem dX5_seek_12 : decode cX5_seek 12 = .ok (.getfield 23, 3) := by decide +kernel
theorem dX5_seek_15 : decode cX5_seek 15 = .ok (.invokevirtual 33, 3) := by decide +kernel
theorem dX5_seek_18 : decode cX5_seek 18 = .ok (.iconst 0, 1) := by decide +kernel
theorem dX5_seek_19 : decode cX5_seek 19 = .ok (.istore_n 2, 1) := by decide +kernel
theorem dX5_seek_20 : decode cX5_seek 20 = .ok (.bipush 42, 2) := by decide +kernel
theorem dX5_seek_22 : decode cX5_seek 22 = .ok (.istore_n 3, 1) := by decide +kernel
theorem dX5_seek_23 : decode cX5_seek 23 = .ok (.iconst 0, 1) := by decide +kernel
theorem dX5_seek_24 : decode cX5_seek 24 = .ok (.istore 4, 2) := by decide +kernel
theorem dX5_seek_26 : decode cX5_seek 26 = .ok (.iconst 0, 1) := by decide +kernel
theorem dX5_seek_27 : decode cX5_seek 27 = .ok (.istore 5, 2) := by decide +kernel
theorem dX5_seek_29 : decode cX5_seek 29 = .ok (.iload 5, 2) := by decide +kernel
theorem dX5_seek_31 : decode cX5_seek 31 = .ok (.sipush 6000, 3) := by decide +kernel
theorem dX5_seek_34 : decode cX5_seek 34 = .ok (.if_icmp .gt 98, 3) := by decide +kernel
theorem dX5_seek_37 : decode cX5_seek 37 = .ok (.iload_n 2, 1) := by decide +kernel
theorem dX5_seek_38 : decode cX5_seek 38 = .ok (.ifCond .lt 94, 3) := by decide +kernel
theorem dX5_seek_41 : decode cX5_seek 41 = .ok (.iload 4, 2) := by decide +kernel
theorem dX5_seek_43 : decode cX5_seek 43 = .ok (.sipush 3000, 3) := by decide +kernel
theorem dX5_seek_46 : decode cX5_seek 46 = .ok (.if_icmp .ge 86, 3) := by decide +kernel
theorem dX5_seek_49 : decode cX5_seek 49 = .ok (.aload_n 0, 1) := by decide +kernel
theorem dX5_seek_50 : decode cX5_seek 50 = .ok (.iload_n 2, 1) := by decide +kernel
theorem dX5_seek_51 : decode cX5_seek 51 = .ok (.iload_n 3, 1) := by decide +kernel
theorem dX5_seek_52 : decode cX5_seek 52 = .ok (.invokevirtual 38, 3) := by decide +kernel
theorem dX5_seek_55 : decode cX5_seek 55 = .ok (.istore 6, 2) := by decide +kernel
theorem dX5_seek_57 : decode cX5_seek 57 = .ok (.iload 6, 2) := by decide +kernel
theorem dX5_seek_59 : decode cX5_seek 59 = .ok (.iconst (-1), 1) := by decide +kernel
theorem dX5_seek_60 : decode cX5_seek 60 = .ok (.if_icmp .ne 23, 3) := by decide +kernel
theorem dX5_seek_63 : decode cX5_seek 63 = .ok (.iinc 2 (-1), 3) := by decide +kernel
theorem dX5_seek_66 : decode cX5_seek 66 = .ok (.aload_n 0, 1) := by decide +kernel
theorem dX5_seek_67 : decode cX5_seek 67 = .ok (.getfield 22, 3) := by decide +kernel
theorem dX5_seek_70 : decode cX5_seek 70 = .ok (.getfield 23, 3) := by decide +kernel
theorem dX5_seek_73 : decode cX5_seek 73 = .ok (.iload_n 2, 1) := by decide +kernel
theorem dX5_seek_74 : decode cX5_seek 74 = .ok (.invokevirtual 42, 3) := by decide +kernel
theorem dX5_seek_77 : decode cX5_seek 77 = .ok (.iconst 1, 1) := by decide +kernel
theorem dX5_seek_78 : decode cX5_seek 78 = .ok (.iadd, 1) := by decide +kernel
theorem dX5_seek_79 : decode cX5_seek 79 = .ok (.istore_n 3, 1) := by decide +kernel
theorem dX5_seek_80 : decode cX5_seek 80 = .ok (.goto 46, 3) := by decide +kernel
theorem dX5_seek_83 : decode cX5_seek 83 = .ok (.iinc 4 1, 3) := by decide +kernel
theorem dX5_seek_86 : decode cX5_seek 86 = .ok (.iload 6, 2) := by decide +kernel
theorem dX5_seek_88 : decode cX5_seek 88 = .ok (.iconst 1, 1) := by decide +kernel
theorem dX5_seek_89 : decode cX5_seek 89 = .ok (.iadd, 1) := by decide +kernel
theorem dX5_seek_90 : decode cX5_seek 90 = .ok (.istore_n 3, 1) := by decide +kernel
theorem dX5_seek_91 : decode cX5_seek 91 = .ok (.aload_n 0, 1) := by decide +kernel
theorem dX5_seek_92 : decode cX5_seek 92 = .ok (.iload_n 2, 1) := by decide +kernel
theorem dX5_seek_93 : decode cX5_seek 93 = .ok (.iload 6, 2) := by decide +kernel
theorem dX5_seek_95 : decode cX5_seek 95 = .ok (.invokevirtual 46, 3) := by decide +kernel
theorem dX5_seek_98 : decode cX5_seek 98 = .ok (.ifCond .eq 28, 3) := by decide +kernel
theorem dX5_seek_101 : decode cX5_seek 101 = .ok (.iload_n 2, 1) := by decide +kernel
theorem dX5_seek_102 : decode cX5_seek 102 = .ok (.aload_n 0, 1) := by decide +kernel
theorem dX5_seek_103 : decode cX5_seek 103 = .ok (.getfield 22, 3) := by decide +kernel
theorem dX5_seek_106 : decode cX5_seek 106 = .ok (.getfield 50, 3) := by decide +kernel
theorem dX5_seek_109 : decode cX5_seek 109 = .ok (.invokevirtual 53, 3) := by decide +kernel
theorem dX5_seek_112 : decode cX5_seek 112 = .ok (.iconst 1, 1) := by decide +kernel
theorem dX5_seek_113 : decode cX5_seek 113 = .ok (.isub, 1) := by decide +kernel
theorem dX5_seek_114 : decode cX5_seek 114 = .ok (.if_icmp .ne 6, 3) := by decide +kernel
theorem dX5_seek_117 : decode cX5_seek 117 = .ok (.iload 4, 2) := by decide +kernel
theorem dX5_seek_119 : decode cX5_seek 119 = .ok (.ireturn, 1) := by decide +kernel
theorem dX5_seek_120 : decode cX5_seek 120 = .ok (.iinc 2 1, 3) := by decide +kernel
theorem dX5_seek_123 : decode cX5_seek 123 = .ok (.bipush 42, 2) := by decide +kernel
theorem dX5_seek_125 : decode cX5_seek 125 = .ok (.istore_n 3, 1) := by decide +kernel
theorem dX5_seek_126 : decode cX5_seek 126 = .ok (.iinc 5 1, 3) := by decide +kernel
theorem dX5_seek_129 : decode cX5_seek 129 = .ok (.goto (-100), 3) := by decide +kernel
theorem dX5_seek_132 : decode cX5_seek 132 = .ok (.iconst (-1), 1) := by decide +kernel
theorem dX5_seek_133 : decode cX5_seek 133 = .ok (.ireturn, 1) := by decide +kernel
theorem dX5_candidateFrom_0 : decode cX5_candidateFrom 0 = .ok (.iload_n 2, 1) := by decide +kernel
theorem dX5_candidateFrom_1 : decode cX5_candidateFrom 1 = .ok (.istore_n 3, 1) := by decide +kernel
theorem dX5_candidateFrom_2 : decode cX5_candidateFrom 2 = .ok (.iload_n 3, 1) := by decide +kernel
theorem dX5_candidateFrom_3 : decode cX5_candidateFrom 3 = .ok (.sipush 146, 3) := by decide +kernel
theorem dX5_candidateFrom_6 : decode cX5_candidateFrom 6 = .ok (.if_icmp .gt 70, 3) := by decide +kernel
theorem dX5_candidateFrom_9 : decode cX5_candidateFrom 9 = .ok (.iload_n 3, 1) := by decide +kernel
theorem dX5_candidateFrom_10 : decode cX5_candidateFrom 10 = .ok (.invokestatic 57, 3) := by decide +kernel
theorem dX5_candidateFrom_13 : decode cX5_candidateFrom 13 = .ok (.istore 4, 2) := by decide +kernel
theorem dX5_candidateFrom_15 : decode cX5_candidateFrom 15 = .ok (.iload 4, 2) := by decide +kernel
theorem dX5_candidateFrom_17 : decode cX5_candidateFrom 17 = .ok (.ifCond .eq 25, 3) := by decide +kernel
theorem dX5_candidateFrom_20 : decode cX5_candidateFrom 20 = .ok (.iload 4, 2) := by decide +kernel
theorem dX5_candidateFrom_22 : decode cX5_candidateFrom 22 = .ok (.iconst 1, 1) := by decide +kernel
theorem dX5_candidateFrom_23 : decode cX5_candidateFrom 23 = .ok (.if_icmp .ne 23, 3) := by decide +kernel
theorem dX5_candidateFrom_26 : decode cX5_candidateFrom 26 = .ok (.iload_n 1, 1) := by decide +kernel
theorem dX5_candidateFrom_27 : decode cX5_candidateFrom 27 = .ok (.aload_n 0, 1) := by decide +kernel
theorem dX5_candidateFrom_28 : decode cX5_candidateFrom 28 = .ok (.getfield 22, 3) := by decide +kernel
theorem dX5_candidateFrom_31 : decode cX5_candidateFrom 31 = .ok (.getfield 50, 3) := by decide +kernel
theorem dX5_candidateFrom_34 : decode cX5_candidateFrom 34 = .ok (.invokevirtual 53, 3) := by decide +kernel
theorem dX5_candidateFrom_37 : decode cX5_candidateFrom 37 = .ok (.iconst 2, 1) := by decide +kernel
theorem dX5_candidateFrom_38 : decode cX5_candidateFrom 38 = .ok (.isub, 1) := by decide +kernel
theorem dX5_candidateFrom_39 : decode cX5_candidateFrom 39 = .ok (.if_icmp .ne 7, 3) := by decide +kernel
theorem dX5_candidateFrom_42 : decode cX5_candidateFrom 42 = .ok (.iconst 1, 1) := by decide +kernel
theorem dX5_candidateFrom_43 : decode cX5_candidateFrom 43 = .ok (.goto 4, 3) := by decide +kernel
theorem dX5_candidateFrom_46 : decode cX5_candidateFrom 46 = .ok (.iconst 0, 1) := by decide +kernel
theorem dX5_candidateFrom_47 : decode cX5_candidateFrom 47 = .ok (.istore 5, 2) := by decide +kernel
theorem dX5_candidateFrom_49 : decode cX5_candidateFrom 49 = .ok (.iload 5, 2) := by decide +kernel
theorem dX5_candidateFrom_51 : decode cX5_candidateFrom 51 = .ok (.ifCond .eq 19, 3) := by decide +kernel
theorem dX5_candidateFrom_54 : decode cX5_candidateFrom 54 = .ok (.aload_n 0, 1) := by decide +kernel
theorem dX5_candidateFrom_55 : decode cX5_candidateFrom 55 = .ok (.getfield 22, 3) := by decide +kernel
theorem dX5_candidateFrom_58 : decode cX5_candidateFrom 58 = .ok (.iload_n 3, 1) := by decide +kernel
theorem dX5_candidateFrom_59 : decode cX5_candidateFrom 59 = .ok (.invokestatic 60, 3) := by decide +kernel
theorem dX5_candidateFrom_62 : decode cX5_candidateFrom 62 = .ok (.invokevirtual 63, 3) := by decide +kernel
theorem dX5_candidateFrom_65 : decode cX5_candidateFrom 65 = .ok (.ifCond .eq 5, 3) := by decide +kernel
theorem dX5_candidateFrom_68 : decode cX5_candidateFrom 68 = .ok (.iload_n 3, 1) := by decide +kernel
theorem dX5_candidateFrom_69 : decode cX5_candidateFrom 69 = .ok (.ireturn, 1) := by decide +kernel
theorem dX5_candidateFrom_70 : decode cX5_candidateFrom 70 = .ok (.iinc 3 1, 3) := by decide +kernel
theorem dX5_candidateFrom_73 : decode cX5_candidateFrom 73 = .ok (.goto (-71), 3) := by decide +kernel
theorem dX5_candidateFrom_76 : decode cX5_candidateFrom 76 = .ok (.iconst (-1), 1) := by decide +kernel
theorem dX5_candidateFrom_77 : decode cX5_candidateFrom 77 = .ok (.ireturn, 1) := by decide +kernel
theorem dX5_fits_0 : decode cX5_fits 0 = .ok (.aload_n 0, 1) := by decide +kernel
theorem dX5_fits_1 : decode cX5_fits 1 = .ok (.getfield 22, 3) := by decide +kernel
theorem dX5_fits_4 : decode cX5_fits 4 = .ok (.getfield 23, 3) := by decide +kernel
theorem dX5_fits_7 : decode cX5_fits 7 = .ok (.iload_n 1, 1) := by decide +kernel
theorem dX5_fits_8 : decode cX5_fits 8 = .ok (.invokevirtual 67, 3) := by decide +kernel
theorem dX5_fits_11 : decode cX5_fits 11 = .ok (.aload_n 0, 1) := by decide +kernel
theorem dX5_fits_12 : decode cX5_fits 12 = .ok (.getfield 22, 3) := by decide +kernel
theorem dX5_fits_15 : decode cX5_fits 15 = .ok (.getfield 23, 3) := by decide +kernel
theorem dX5_fits_18 : decode cX5_fits 18 = .ok (.iload_n 2, 1) := by decide +kernel
theorem dX5_fits_19 : decode cX5_fits 19 = .ok (.invokevirtual 71, 3) := by decide +kernel
theorem dX5_fits_22 : decode cX5_fits 22 = .ok (.aload_n 0, 1) := by decide +kernel
theorem dX5_fits_23 : decode cX5_fits 23 = .ok (.getfield 12, 3) := by decide +kernel
theorem dX5_fits_26 : decode cX5_fits 26 = .ok (.invokevirtual 74, 3) := by decide +kernel
theorem dX5_fits_29 : decode cX5_fits 29 = .ok (.ifCond .ne 5, 3) := by decide +kernel
theorem dX5_fits_32 : decode cX5_fits 32 = .ok (.iconst 0, 1) := by decide +kernel
theorem dX5_fits_33 : decode cX5_fits 33 = .ok (.ireturn, 1) := by decide +kernel
theorem dX5_fits_34 : decode cX5_fits 34 = .ok (.iload_n 1, 1) := by decide +kernel
theorem dX5_fits_35 : decode cX5_fits 35 = .ok (.aload_n 0, 1) := by decide +kernel
theorem dX5_fits_36 : decode cX5_fits 36 = .ok (.getfield 22, 3) := by decide +kernel
theorem dX5_fits_39 : decode cX5_fits 39 = .ok (.getfield 50, 3) := by decide +kernel
theorem dX5_fits_42 : decode cX5_fits 42 = .ok (.invokevirtual 53, 3) := by decide +kernel
theorem dX5_fits_45 : decode cX5_fits 45 = .ok (.iconst 1, 1) := by decide +kernel
theorem dX5_fits_46 : decode cX5_fits 46 = .ok (.isub, 1) := by decide +kernel
theorem dX5_fits_47 : decode cX5_fits 47 = .ok (.if_icmp .lt 15, 3) := by decide +kernel
theorem dX5_fits_50 : decode cX5_fits 50 = .ok (.aload_n 0, 1) := by decide +kernel
theorem dX5_fits_51 : decode cX5_fits 51 = .ok (.getfield 12, 3) := by decide +kernel
theorem dX5_fits_54 : decode cX5_fits 54 = .ok (.iconst (-1), 1) := by decide +kernel
theorem dX5_fits_55 : decode cX5_fits 55 = .ok (.iconst (-1), 1) := by decide +kernel
theorem dX5_fits_56 : decode cX5_fits 56 = .ok (.invokevirtual 78, 3) := by decide +kernel
theorem dX5_fits_59 : decode cX5_fits 59 = .ok (.ifCond .ne 7, 3) := by decide +kernel
theorem dX5_fits_62 : decode cX5_fits 62 = .ok (.iconst 1, 1) := by decide +kernel
theorem dX5_fits_63 : decode cX5_fits 63 = .ok (.goto 4, 3) := by decide +kernel
theorem dX5_fits_66 : decode cX5_fits 66 = .ok (.iconst 0, 1) := by decide +kernel
theorem dX5_fits_67 : decode cX5_fits 67 = .ok (.ireturn, 1) := by decide +kernel
theorem dX7_init_0 : decode cX7_init 0 = .ok (.aload_n 0, 1) := by decide +kernel
theorem dX7_init_1 : decode cX7_init 1 = .ok (.invokespecial 3, 3) := by decide +kernel
theorem dX7_init_4 : decode cX7_init 4 = .ok (.aload_n 0, 1) := by decide +kernel
theorem dX7_init_5 : decode cX7_init 5 = .ok (.iconst 0, 1) := by decide +kernel
theorem dX7_init_6 : decode cX7_init 6 = .ok (.putfield 9, 3) := by decide +kernel
theorem dX7_init_9 : decode cX7_init 9 = .ok (.aload_n 0, 1) := by decide +kernel
theorem dX7_init_10 : decode cX7_init 10 = .ok (.iconst 0, 1) := by decide +kernel
theorem dX7_init_11 : decode cX7_init 11 = .ok (.putfield 15, 3) := by decide +kernel
theorem dX7_init_14 : decode cX7_init 14 = .ok (.aload_n 0, 1) := by decide +kernel
theorem dX7_init_15 : decode cX7_init 15 = .ok (.iconst 0, 1) := by decide +kernel
theorem dX7_init_16 : decode cX7_init 16 = .ok (.putfield 19, 3) := by decide +kernel
theorem dX7_init_19 : decode cX7_init 19 = .ok (.aload_n 0, 1) := by decide +kernel
theorem dX7_init_20 : decode cX7_init 20 = .ok (.iconst 0, 1) := by decide +kernel
theorem dX7_init_21 : decode cX7_init 21 = .ok (.putfield 22, 3) := by decide +kernel
theorem dX7_init_24 : decode cX7_init 24 = .ok (.aload_n 0, 1) := by decide +kernel
theorem dX7_init_25 : decode cX7_init 25 = .ok (.iconst 0, 1) := by decide +kernel
theorem dX7_init_26 : decode cX7_init 26 = .ok (.putfield 25, 3) := by decide +kernel
theorem dX7_init_29 : decode cX7_init 29 = .ok (.return_, 1) := by decide +kernel
theorem dX7_measure_0 : decode cX7_measure 0 = .ok (.aload_n 0, 1) := by decide +kernel
theorem dX7_measure_1 : decode cX7_measure 1 = .ok (.iload_n 1, 1) := by decide +kernel
theorem dX7_measure_2 : decode cX7_measure 2 = .ok (.iconst (-1), 1) := by decide +kernel
theorem dX7_measure_3 : decode cX7_measure 3 = .ok (.if_icmp .eq 12, 3) := by decide +kernel
theorem dX7_measure_6 : decode cX7_measure 6 = .ok (.iload_n 2, 1) := by decide +kernel
theorem dX7_measure_7 : decode cX7_measure 7 = .ok (.iconst (-1), 1) := by decide +kernel
theorem dX7_measure_8 : decode cX7_measure 8 = .ok (.if_icmp .eq 7, 3) := by decide +kernel
theorem dX7_measure_11 : decode cX7_measure 11 = .ok (.iconst 1, 1) := by decide +kernel
theorem dX7_measure_12 : decode cX7_measure 12 = .ok (.goto 4, 3) := by decide +kernel
theorem dX7_measure_15 : decode cX7_measure 15 = .ok (.iconst 0, 1) := by decide +kernel
theorem dX7_measure_16 : decode cX7_measure 16 = .ok (.putfield 9, 3) := by decide +kernel
theorem dX7_measure_19 : decode cX7_measure 19 = .ok (.aload_n 0, 1) := by decide +kernel
theorem dX7_measure_20 : decode cX7_measure 20 = .ok (.getfield 9, 3) := by decide +kernel
theorem dX7_measure_23 : decode cX7_measure 23 = .ok (.ifCond .eq 15, 3) := by decide +kernel
theorem dX7_measure_26 : decode cX7_measure 26 = .ok (.iload_n 2, 1) := by decide +kernel
theorem dX7_measure_27 : decode cX7_measure 27 = .ok (.invokestatic 28, 3) := by decide +kernel
theorem dX7_measure_30 : decode cX7_measure 30 = .ok (.iload_n 1, 1) := by decide +kernel
theorem dX7_measure_31 : decode cX7_measure 31 = .ok (.invokestatic 28, 3) := by decide +kernel
theorem dX7_measure_34 : decode cX7_measure 34 = .ok (.isub, 1) := by decide +kernel
theorem dX7_measure_35 : decode cX7_measure 35 = .ok (.goto 4, 3) := by decide +kernel
theorem dX7_measure_38 : decode cX7_measure 38 = .ok (.iconst 0, 1) := by decide +kernel
theorem dX7_measure_39 : decode cX7_measure 39 = .ok (.istore_n 3, 1) := by decide +kernel
theorem dX7_measure_40 : decode cX7_measure 40 = .ok (.aload_n 0, 1) := by decide +kernel
theorem dX7_measure_41 : decode cX7_measure 41 = .ok (.aload_n 0, 1) := by decide +kernel
theorem dX7_measure_42 : decode cX7_measure 42 = .ok (.getfield 9, 3) := by decide +kernel
theorem dX7_measure_45 : decode cX7_measure 45 = .ok (.ifCond .eq 18, 3) := by decide +kernel
theorem dX7_measure_48 : decode cX7_measure 48 = .ok (.iload_n 2, 1) := by decide +kernel
theorem dX7_measure_49 : decode cX7_measure 49 = .ok (.invokestatic 32, 3) := by decide +kernel
theorem dX7_measure_52 : decode cX7_measure 52 = .ok (.iload_n 1, 1) := by decide +kernel
theorem dX7_measure_53 : decode cX7_measure 53 = .ok (.invokestatic 32, 3) := by decide +kernel
theorem dX7_measure_56 : decode cX7_measure 56 = .ok (.isub, 1) := by decide +kernel
theorem dX7_measure_57 : decode cX7_measure 57 = .ok (.invokestatic 35, 3) := by decide +kernel
theorem dX7_measure_60 : decode cX7_measure 60 = .ok (.goto 4, 3) := by decide +kernel
theorem dX7_measure_63 : decode cX7_measure 63 = .ok (.iconst 0, 1) := by decide +kernel
theorem dX7_measure_64 : decode cX7_measure 64 = .ok (.putfield 15, 3) := by decide +kernel
theorem dX7_measure_67 : decode cX7_measure 67 = .ok (.aload_n 0, 1) := by decide +kernel
theorem dX7_measure_68 : decode cX7_measure 68 = .ok (.iload_n 3, 1) := by decide +kernel
theorem dX7_measure_69 : decode cX7_measure 69 = .ok (.invokestatic 35, 3) := by decide +kernel
theorem dX7_measure_72 : decode cX7_measure 72 = .ok (.putfield 19, 3) := by decide +kernel
theorem dX7_measure_75 : decode cX7_measure 75 = .ok (.aload_n 0, 1) := by decide +kernel
theorem dX7_measure_76 : decode cX7_measure 76 = .ok (.iload_n 3, 1) := by decide +kernel
theorem dX7_measure_77 : decode cX7_measure 77 = .ok (.ifCond .le 7, 3) := by decide +kernel
theorem dX7_measure_80 : decode cX7_measure 80 = .ok (.iconst 1, 1) := by decide +kernel
theorem dX7_measure_81 : decode cX7_measure 81 = .ok (.goto 12, 3) := by decide +kernel
theorem dX7_measure_84 : decode cX7_measure 84 = .ok (.iload_n 3, 1) := by decide +kernel
theorem dX7_measure_85 : decode cX7_measure 85 = .ok (.ifCond .ge 7, 3) := by decide +kernel
theorem dX7_measure_88 : decode cX7_measure 88 = .ok (.iconst (-1), 1) := by decide +kernel
theorem dX7_measure_89 : decode cX7_measure 89 = .ok (.goto 4, 3) := by decide +kernel
theorem dX7_measure_92 : decode cX7_measure 92 = .ok (.iconst 0, 1) := by decide +kernel
theorem dX7_measure_93 : decode cX7_measure 93 = .ok (.putfield 22, 3) := by decide +kernel
theorem dX7_measure_96 : decode cX7_measure 96 = .ok (.aload_n 0, 1) := by decide +kernel
theorem dX7_measure_97 : decode cX7_measure 97 = .ok (.aload_n 0, 1) := by decide +kernel
theorem dX7_measure_98 : decode cX7_measure 98 = .ok (.getfield 9, 3) := by decide +kernel
theorem dX7_measure_101 : decode cX7_measure 101 = .ok (.ifCond .ne 7, 3) := by decide +kernel
theorem dX7_measure_104 : decode cX7_measure 104 = .ok (.iconst 0, 1) := by decide +kernel
theorem dX7_measure_105 : decode cX7_measure 105 = .ok (.goto 32, 3) := by decide +kernel
theorem dX7_measure_108 : decode cX7_measure 108 = .ok (.aload_n 0, 1) := by decide +kernel
theorem dX7_measure_109 : decode cX7_measure 109 = .ok (.iconst 0, 1) := by decide +kernel
theorem dX7_measure_110 : decode cX7_measure 110 = .ok (.iconst 0, 1) := by decide +kernel
theorem dX7_measure_111 : decode cX7_measure 111 = .ok (.invokevirtual 40, 3) := by decide +kernel
theorem dX7_measure_114 : decode cX7_measure 114 = .ok (.ifCond .eq 8, 3) := by decide +kernel
theorem dX7_measure_117 : decode cX7_measure 117 = .ok (.bipush 8, 2) := by decide +kernel
theorem dX7_measure_119 : decode cX7_measure 119 = .ok (.goto 18, 3) := by decide +kernel
theorem dX7_measure_122 : decode cX7_measure 122 = .ok (.aload_n 0, 1) := by decide +kernel
theorem dX7_measure_123 : decode cX7_measure 123 = .ok (.iconst 4, 1) := by decide +kernel
theorem dX7_measure_124 : decode cX7_measure 124 = .ok (.bipush 7, 2) := by decide +kernel
theorem dX7_measure_126 : decode cX7_measure 126 = .ok (.invokevirtual 40, 3) := by decide +kernel
theorem dX7_measure_129 : decode cX7_measure 129 = .ok (.ifCond .eq 7, 3) := by decide +kernel
theorem dX7_measure_132 : decode cX7_measure 132 = .ok (.iconst 5, 1) := by decide +kernel
theorem dX7_measure_133 : decode cX7_measure 133 = .ok (.goto 4, 3) := by decide +kernel
theorem dX7_measure_136 : decode cX7_measure 136 = .ok (.iconst 0, 1) := by decide +kernel
theorem dX7_measure_137 : decode cX7_measure 137 = .ok (.putfield 25, 3) := by decide +kernel
theorem dX7_measure_140 : decode cX7_measure 140 = .ok (.return_, 1) := by decide +kernel
theorem dX7_isThere_0 : decode cX7_isThere 0 = .ok (.aload_n 0, 1) := by decide +kernel
theorem dX7_isThere_1 : decode cX7_isThere 1 = .ok (.getfield 9, 3) := by decide +kernel
theorem dX7_isThere_4 : decode cX7_isThere 4 = .ok (.ireturn, 1) := by decide +kernel
theorem dX7_steps_0 : decode cX7_steps 0 = .ok (.aload_n 0, 1) := by decide +kernel
theorem dX7_steps_1 : decode cX7_steps 1 = .ok (.getfield 15, 3) := by decide +kernel
theorem dX7_steps_4 : decode cX7_steps 4 = .ok (.ireturn, 1) := by decide +kernel
theorem dX7_width_0 : decode cX7_width 0 = .ok (.aload_n 0, 1) := by decide +kernel
theorem dX7_width_1 : decode cX7_width 1 = .ok (.getfield 19, 3) := by decide +kernel
theorem dX7_width_4 : decode cX7_width 4 = .ok (.ireturn, 1) := by decide +kernel
theorem dX7_way_0 : decode cX7_way 0 = .ok (.aload_n 0, 1) := by decide +kernel
theorem dX7_way_1 : decode cX7_way 1 = .ok (.getfield 22, 3) := by decide +kernel
theorem dX7_way_4 : decode cX7_way 4 = .ok (.ireturn, 1) := by decide +kernel
theorem dX7_isStep_0 : decode cX7_isStep 0 = .ok (.aload_n 0, 1) := by decide +kernel
theorem dX7_isStep_1 : decode cX7_isStep 1 = .ok (.getfield 15, 3) := by decide +kernel
theorem dX7_isStep_4 : decode cX7_isStep 4 = .ok (.iconst 1, 1) := by decide +kernel
theorem dX7_isStep_5 : decode cX7_isStep 5 = .ok (.if_icmp .ne 7, 3) := by decide +kernel
theorem dX7_isStep_8 : decode cX7_isStep 8 = .ok (.iconst 1, 1) := by decide +kernel
theorem dX7_isStep_9 : decode cX7_isStep 9 = .ok (.goto 4, 3) := by decide +kernel
theorem dX7_isStep_12 : decode cX7_isStep 12 = .ok (.iconst 0, 1) := by decide +kernel
theorem dX7_isStep_13 : decode cX7_isStep 13 = .ok (.ireturn, 1) := by decide +kernel
theorem dX7_isLeap_0 : decode cX7_isLeap 0 = .ok (.aload_n 0, 1) := by decide +kernel
theorem dX7_isLeap_1 : decode cX7_isLeap 1 = .ok (.getfield 15, 3) := by decide +kernel
theorem dX7_isLeap_4 : decode cX7_isLeap 4 = .ok (.iconst 1, 1) := by decide +kernel
theorem dX7_isLeap_5 : decode cX7_isLeap 5 = .ok (.if_icmp .le 7, 3) := by decide +kernel
theorem dX7_isLeap_8 : decode cX7_isLeap 8 = .ok (.iconst 1, 1) := by decide +kernel
theorem dX7_isLeap_9 : decode cX7_isLeap 9 = .ok (.goto 4, 3) := by decide +kernel
theorem dX7_isLeap_12 : decode cX7_isLeap 12 = .ok (.iconst 0, 1) := by decide +kernel
theorem dX7_isLeap_13 : decode cX7_isLeap 13 = .ok (.ireturn, 1) := by decide +kernel
theorem dX7_goesWith_0 : decode cX7_goesWith 0 = .ok (.aload_n 0, 1) := by decide +kernel
theorem dX7_goesWith_1 : decode cX7_goesWith 1 = .ok (.getfield 22, 3) := by decide +kernel
theorem dX7_goesWith_4 : decode cX7_goesWith 4 = .ok (.ifCond .eq 18, 3) := by decide +kernel
theorem dX7_goesWith_7 : decode cX7_goesWith 7 = .ok (.aload_n 0, 1) := by decide +kernel
theorem dX7_goesWith_8 : decode cX7_goesWith 8 = .ok (.getfield 22, 3) := by decide +kernel
theorem dX7_goesWith_11 : decode cX7_goesWith 11 = .ok (.aload_n 1, 1) := by decide +kernel
theorem dX7_goesWith_12 : decode cX7_goesWith 12 = .ok (.getfield 22, 3) := by decide +kernel
theorem dX7_goesWith_15 : decode cX7_goesWith 15 = .ok (.if_icmp .ne 7, 3) := by decide +kernel
theorem dX7_goesWith_18 : decode cX7_goesWith 18 = .ok (.iconst 1, 1) := by decide +kernel
theorem dX7_goesWith_19 : decode cX7_goesWith 19 = .ok (.goto 4, 3) := by decide +kernel
theorem dX7_goesWith_22 : decode cX7_goesWith 22 = .ok (.iconst 0, 1) := by decide +kernel
theorem dX7_goesWith_23 : decode cX7_goesWith 23 = .ok (.ireturn, 1) := by decide +kernel
theorem dX7_goesAgainst_0 : decode cX7_goesAgainst 0 = .ok (.aload_n 0, 1) := by decide +kernel
theorem dX7_goesAgainst_1 : decode cX7_goesAgainst 1 = .ok (.getfield 22, 3) := by decide +kernel
theorem dX7_goesAgainst_4 : decode cX7_goesAgainst 4 = .ok (.ifCond .eq 19, 3) := by decide +kernel
theorem dX7_goesAgainst_7 : decode cX7_goesAgainst 7 = .ok (.aload_n 0, 1) := by decide +kernel
theorem dX7_goesAgainst_8 : decode cX7_goesAgainst 8 = .ok (.getfield 22, 3) := by decide +kernel
theorem dX7_goesAgainst_11 : decode cX7_goesAgainst 11 = .ok (.aload_n 1, 1) := by decide +kernel
theorem dX7_goesAgainst_12 : decode cX7_goesAgainst 12 = .ok (.getfield 22, 3) := by decide +kernel
theorem dX7_goesAgainst_15 : decode cX7_goesAgainst 15 = .ok (.ineg, 1) := by decide +kernel
theorem dX7_goesAgainst_16 : decode cX7_goesAgainst 16 = .ok (.if_icmp .ne 7, 3) := by decide +kernel
theorem dX7_goesAgainst_19 : decode cX7_goesAgainst 19 = .ok (.iconst 1, 1) := by decide +kernel
theorem dX7_goesAgainst_20 : decode cX7_goesAgainst 20 = .ok (.goto 4, 3) := by decide +kernel
theorem dX7_goesAgainst_23 : decode cX7_goesAgainst 23 = .ok (.iconst 0, 1) := by decide +kernel
theorem dX7_goesAgainst_24 : decode cX7_goesAgainst 24 = .ok (.ireturn, 1) := by decide +kernel
theorem dX7_leaves_0 : decode cX7_leaves 0 = .ok (.aload_n 0, 1) := by decide +kernel
theorem dX7_leaves_1 : decode cX7_leaves 1 = .ok (.getfield 15, 3) := by decide +kernel
theorem dX7_leaves_4 : decode cX7_leaves 4 = .ok (.bipush 7, 2) := by decide +kernel
theorem dX7_leaves_6 : decode cX7_leaves 6 = .ok (.irem, 1) := by decide +kernel
theorem dX7_leaves_7 : decode cX7_leaves 7 = .ok (.iload_n 1, 1) := by decide +kernel
theorem dX7_leaves_8 : decode cX7_leaves 8 = .ok (.if_icmp .ne 18, 3) := by decide +kernel
theorem dX7_leaves_11 : decode cX7_leaves 11 = .ok (.aload_n 0, 1) := by decide +kernel
theorem dX7_leaves_12 : decode cX7_leaves 12 = .ok (.getfield 19, 3) := by decide +kernel
theorem dX7_leaves_15 : decode cX7_leaves 15 = .ok (.bipush 12, 2) := by decide +kernel
theorem dX7_leaves_17 : decode cX7_leaves 17 = .ok (.irem, 1) := by decide +kernel
theorem dX7_leaves_18 : decode cX7_leaves 18 = .ok (.iload_n 2, 1) := by decide +kernel
theorem dX7_leaves_19 : decode cX7_leaves 19 = .ok (.if_icmp .ne 7, 3) := by decide +kernel
theorem dX7_leaves_22 : decode cX7_leaves 22 = .ok (.iconst 1, 1) := by decide +kernel
theorem dX7_leaves_23 : decode cX7_leaves 23 = .ok (.goto 4, 3) := by decide +kernel
theorem dX7_leaves_26 : decode cX7_leaves 26 = .ok (.iconst 0, 1) := by decide +kernel
theorem dX7_leaves_27 : decode cX7_leaves 27 = .ok (.ireturn, 1) := by decide +kernel
theorem dX7_perfectClass_0 : decode cX7_perfectClass 0 = .ok (.aload_n 0, 1) := by decide +kernel
theorem dX7_perfectClass_1 : decode cX7_perfectClass 1 = .ok (.getfield 25, 3) := by decide +kernel
theorem dX7_perfectClass_4 : decode cX7_perfectClass 4 = .ok (.ireturn, 1) := by decide +kernel
theorem dX7_isConsonant_0 : decode cX7_isConsonant 0 = .ok (.aload_n 0, 1) := by decide +kernel
theorem dX7_isConsonant_1 : decode cX7_isConsonant 1 = .ok (.getfield 25, 3) := by decide +kernel
theorem dX7_isConsonant_4 : decode cX7_isConsonant 4 = .ok (.ifCond .ne 41, 3) := by decide +kernel
theorem dX7_isConsonant_7 : decode cX7_isConsonant 7 = .ok (.aload_n 0, 1) := by decide +kernel
theorem dX7_isConsonant_8 : decode cX7_isConsonant 8 = .ok (.iconst 2, 1) := by decide +kernel
theorem dX7_isConsonant_9 : decode cX7_isConsonant 9 = .ok (.iconst 3, 1) := by decide +kernel
theorem dX7_isConsonant_10 : decode cX7_isConsonant 10 = .ok (.invokevirtual 40, 3) := by decide +kernel
theorem dX7_isConsonant_13 : decode cX7_isConsonant 13 = .ok (.ifCond .ne 32, 3) := by decide +kernel
theorem dX7_isConsonant_16 : decode cX7_isConsonant 16 = .ok (.aload_n 0, 1) := by decide +kernel
theorem dX7_isConsonant_17 : decode cX7_isConsonant 17 = .ok (.iconst 2, 1) := by decide +kernel
theorem dX7_isConsonant_18 : decode cX7_isConsonant 18 = .ok (.iconst 4, 1) := by decide +kernel
theorem dX7_isConsonant_19 : decode cX7_isConsonant 19 = .ok (.invokevirtual 40, 3) := by decide +kernel
theorem dX7_isConsonant_22 : decode cX7_isConsonant 22 = .ok (.ifCond .ne 23, 3) := by decide +kernel
theorem dX7_isConsonant_25 : decode cX7_isConsonant 25 = .ok (.aload_n 0, 1) := by decide +kernel
theorem dX7_isConsonant_26 : decode cX7_isConsonant 26 = .ok (.iconst 5, 1) := by decide +kernel
theorem dX7_isConsonant_27 : decode cX7_isConsonant 27 = .ok (.bipush 8, 2) := by decide +kernel
theorem dX7_isConsonant_29 : decode cX7_isConsonant 29 = .ok (.invokevirtual 40, 3) := by decide +kernel
theorem dX7_isConsonant_32 : decode cX7_isConsonant 32 = .ok (.ifCond .ne 13, 3) := by decide +kernel
theorem dX7_isConsonant_35 : decode cX7_isConsonant 35 = .ok (.aload_n 0, 1) := by decide +kernel
theorem dX7_isConsonant_36 : decode cX7_isConsonant 36 = .ok (.iconst 5, 1) := by decide +kernel
theorem dX7_isConsonant_37 : decode cX7_isConsonant 37 = .ok (.bipush 9, 2) := by decide +kernel
theorem dX7_isConsonant_39 : decode cX7_isConsonant 39 = .ok (.invokevirtual 40, 3) := by decide +kernel
theorem dX7_isConsonant_42 : decode cX7_isConsonant 42 = .ok (.ifCond .eq 7, 3) := by decide +kernel
theorem dX7_isConsonant_45 : decode cX7_isConsonant 45 = .ok (.iconst 1, 1) := by decide +kernel
theorem dX7_isConsonant_46 : decode cX7_isConsonant 46 = .ok (.goto 4, 3) := by decide +kernel
theorem dX7_isConsonant_49 : decode cX7_isConsonant 49 = .ok (.iconst 0, 1) := by decide +kernel
theorem dX7_isConsonant_50 : decode cX7_isConsonant 50 = .ok (.ireturn, 1) := by decide +kernel
theorem dX7_sound_0 : decode cX7_sound 0 = .ok (.aload_n 0, 1) := by decide +kernel
theorem dX7_sound_1 : decode cX7_sound 1 = .ok (.getfield 25, 3) := by decide +kernel
theorem dX7_sound_4 : decode cX7_sound 4 = .ok (.ifCond .eq 7, 3) := by decide +kernel
theorem dX7_sound_7 : decode cX7_sound 7 = .ok (.iconst 2, 1) := by decide +kernel
theorem dX7_sound_8 : decode cX7_sound 8 = .ok (.goto 15, 3) := by decide +kernel
theorem dX7_sound_11 : decode cX7_sound 11 = .ok (.aload_n 0, 1) := by decide +kernel
theorem dX7_sound_12 : decode cX7_sound 12 = .ok (.invokevirtual 44, 3) := by decide +kernel
theorem dX7_sound_15 : decode cX7_sound 15 = .ok (.ifCond .eq 7, 3) := by decide +kernel
theorem dX7_sound_18 : decode cX7_sound 18 = .ok (.iconst 1, 1) := by decide +kernel
theorem dX7_sound_19 : decode cX7_sound 19 = .ok (.goto 4, 3) := by decide +kernel
theorem dX7_sound_22 : decode cX7_sound 22 = .ok (.iconst 0, 1) := by decide +kernel
theorem dX7_sound_23 : decode cX7_sound 23 = .ok (.ireturn, 1) := by decide +kernel
theorem dX7_isMelodious_0 : decode cX7_isMelodious 0 = .ok (.aload_n 0, 1) := by decide +kernel
theorem dX7_isMelodious_1 : decode cX7_isMelodious 1 = .ok (.getfield 15, 3) := by decide +kernel
theorem dX7_isMelodious_4 : decode cX7_isMelodious 4 = .ok (.tableswitch 171 0 7 #[48, 61, 83, 105, 119, 134, 171, 156], 48) := by decide +kernel
theorem dX7_isMelodious_52 : decode cX7_isMelodious 52 = .ok (.aload_n 0, 1) := by decide +kernel
theorem dX7_isMelodious_53 : decode cX7_isMelodious 53 = .ok (.getfield 19, 3) := by decide +kernel
theorem dX7_isMelodious_56 : decode cX7_isMelodious 56 = .ok (.ifCond .ne 7, 3) := by decide +kernel
theorem dX7_isMelodious_59 : decode cX7_isMelodious 59 = .ok (.iconst 1, 1) := by decide +kernel
theorem dX7_isMelodious_60 : decode cX7_isMelodious 60 = .ok (.goto 4, 3) := by decide +kernel
theorem dX7_isMelodious_63 : decode cX7_isMelodious 63 = .ok (.iconst 0, 1) := by decide +kernel
theorem dX7_isMelodious_64 : decode cX7_isMelodious 64 = .ok (.ireturn, 1) := by decide +kernel
theorem dX7_isMelodious_65 : decode cX7_isMelodious 65 = .ok (.aload_n 0, 1) := by decide +kernel
theorem dX7_isMelodious_66 : decode cX7_isMelodious 66 = .ok (.getfield 19, 3) := by decide +kernel
theorem dX7_isMelodious_69 : decode cX7_isMelodious 69 = .ok (.iconst 1, 1) := by decide +kernel
theorem dX7_isMelodious_70 : decode cX7_isMelodious 70 = .ok (.if_icmp .eq 11, 3) := by decide +kernel
theorem dX7_isMelodious_73 : decode cX7_isMelodious 73 = .ok (.aload_n 0, 1) := by decide +kernel
theorem dX7_isMelodious_74 : decode cX7_isMelodious 74 = .ok (.getfield 19, 3) := by decide +kernel
theorem dX7_isMelodious_77 : decode cX7_isMelodious 77 = .ok (.iconst 2, 1) := by decide +kernel
theorem dX7_isMelodious_78 : decode cX7_isMelodious 78 = .ok (.if_icmp .ne 7, 3) := by decide +kernel
theorem dX7_isMelodious_81 : decode cX7_isMelodious 81 = .ok (.iconst 1, 1) := by decide +kernel
theorem dX7_isMelodious_82 : decode cX7_isMelodious 82 = .ok (.goto 4, 3) := by decide +kernel
theorem dX7_isMelodious_85 : decode cX7_isMelodious 85 = .ok (.iconst 0, 1) := by decide +kernel
theorem dX7_isMelodious_86 : decode cX7_isMelodious 86 = .ok (.ireturn, 1) := by decide +kernel
theorem dX7_isMelodious_87 : decode cX7_isMelodious 87 = .ok (.aload_n 0, 1) := by decide +kernel
theorem dX7_isMelodious_88 : decode cX7_isMelodious 88 = .ok (.getfield 19, 3) := by decide +kernel
theorem dX7_isMelodious_91 : decode cX7_isMelodious 91 = .ok (.iconst 3, 1) := by decide +kernel
theorem dX7_isMelodious_92 : decode cX7_isMelodious 92 = .ok (.if_icmp .eq 11, 3) := by decide +kernel
theorem dX7_isMelodious_95 : decode cX7_isMelodious 95 = .ok (.aload_n 0, 1) := by decide +kernel
theorem dX7_isMelodious_96 : decode cX7_isMelodious 96 = .ok (.getfield 19, 3) := by decide +kernel
theorem dX7_isMelodious_99 : decode cX7_isMelodious 99 = .ok (.iconst 4, 1) := by decide +kernel
theorem dX7_isMelodious_100 : decode cX7_isMelodious 100 = .ok (.if_icmp .ne 7, 3) := by decide +kernel
theorem dX7_isMelodious_103 : decode cX7_isMelodious 103 = .ok (.iconst 1, 1) := by decide +kernel
theorem dX7_isMelodious_104 : decode cX7_isMelodious 104 = .ok (.goto 4, 3) := by decide +kernel
theorem dX7_isMelodious_107 : decode cX7_isMelodious 107 = .ok (.iconst 0, 1) := by decide +kernel
theorem dX7_isMelodious_108 : decode cX7_isMelodious 108 = .ok (.ireturn, 1) := by decide +kernel
theorem dX7_isMelodious_109 : decode cX7_isMelodious 109 = .ok (.aload_n 0, 1) := by decide +kernel
theorem dX7_isMelodious_110 : decode cX7_isMelodious 110 = .ok (.getfield 19, 3) := by decide +kernel
theorem dX7_isMelodious_113 : decode cX7_isMelodious 113 = .ok (.iconst 5, 1) := by decide +kernel
theorem dX7_isMelodious_114 : decode cX7_isMelodious 114 = .ok (.if_icmp .ne 7, 3) := by decide +kernel
theorem dX7_isMelodious_117 : decode cX7_isMelodious 117 = .ok (.iconst 1, 1) := by decide +kernel
theorem dX7_isMelodious_118 : decode cX7_isMelodious 118 = .ok (.goto 4, 3) := by decide +kernel
theorem dX7_isMelodious_121 : decode cX7_isMelodious 121 = .ok (.iconst 0, 1) := by decide +kernel
theorem dX7_isMelodious_122 : decode cX7_isMelodious 122 = .ok (.ireturn, 1) := by decide +kernel
theorem dX7_isMelodious_123 : decode cX7_isMelodious 123 = .ok (.aload_n 0, 1) := by decide +kernel
theorem dX7_isMelodious_124 : decode cX7_isMelodious 124 = .ok (.getfield 19, 3) := by decide +kernel
theorem dX7_isMelodious_127 : decode cX7_isMelodious 127 = .ok (.bipush 7, 2) := by decide +kernel
theorem dX7_isMelodious_129 : decode cX7_isMelodious 129 = .ok (.if_icmp .ne 7, 3) := by decide +kernel
theorem dX7_isMelodious_132 : decode cX7_isMelodious 132 = .ok (.iconst 1, 1) := by decide +kernel
theorem dX7_isMelodious_133 : decode cX7_isMelodious 133 = .ok (.goto 4, 3) := by decide +kernel
theorem dX7_isMelodious_136 : decode cX7_isMelodious 136 = .ok (.iconst 0, 1) := by decide +kernel
theorem dX7_isMelodious_137 : decode cX7_isMelodious 137 = .ok (.ireturn, 1) := by decide +kernel
theorem dX7_isMelodious_138 : decode cX7_isMelodious 138 = .ok (.aload_n 0, 1) := by decide +kernel
theorem dX7_isMelodious_139 : decode cX7_isMelodious 139 = .ok (.getfield 19, 3) := by decide +kernel
theorem dX7_isMelodious_142 : decode cX7_isMelodious 142 = .ok (.bipush 8, 2) := by decide +kernel
theorem dX7_isMelodious_144 : decode cX7_isMelodious 144 = .ok (.if_icmp .ne 14, 3) := by decide +kernel
theorem dX7_isMelodious_147 : decode cX7_isMelodious 147 = .ok (.aload_n 0, 1) := by decide +kernel
theorem dX7_isMelodious_148 : decode cX7_isMelodious 148 = .ok (.getfield 22, 3) := by decide +kernel
theorem dX7_isMelodious_151 : decode cX7_isMelodious 151 = .ok (.ifCond .le 7, 3) := by decide +kernel
theorem dX7_isMelodious_154 : decode cX7_isMelodious 154 = .ok (.iconst 1, 1) := by decide +kernel
theorem dX7_isMelodious_155 : decode cX7_isMelodious 155 = .ok (.goto 4, 3) := by decide +kernel
theorem dX7_isMelodious_158 : decode cX7_isMelodious 158 = .ok (.iconst 0, 1) := by decide +kernel
theorem dX7_isMelodious_159 : decode cX7_isMelodious 159 = .ok (.ireturn, 1) := by decide +kernel
theorem dX7_isMelodious_160 : decode cX7_isMelodious 160 = .ok (.aload_n 0, 1) := by decide +kernel
theorem dX7_isMelodious_161 : decode cX7_isMelodious 161 = .ok (.getfield 19, 3) := by decide +kernel
theorem dX7_isMelodious_164 : decode cX7_isMelodious 164 = .ok (.bipush 12, 2) := by decide +kernel
theorem dX7_isMelodious_166 : decode cX7_isMelodious 166 = .ok (.if_icmp .ne 7, 3) := by decide +kernel
theorem dX7_isMelodious_169 : decode cX7_isMelodious 169 = .ok (.iconst 1, 1) := by decide +kernel
theorem dX7_isMelodious_170 : decode cX7_isMelodious 170 = .ok (.goto 4, 3) := by decide +kernel
theorem dX7_isMelodious_173 : decode cX7_isMelodious 173 = .ok (.iconst 0, 1) := by decide +kernel
theorem dX7_isMelodious_174 : decode cX7_isMelodious 174 = .ok (.ireturn, 1) := by decide +kernel
theorem dX7_isMelodious_175 : decode cX7_isMelodious 175 = .ok (.iconst 0, 1) := by decide +kernel
theorem dX7_isMelodious_176 : decode cX7_isMelodious 176 = .ok (.ireturn, 1) := by decide +kernel
theorem dJx00060_init_a7421_0 : decode cJx00060_init_a7421 0 = .ok (.aload_n 0, 1) := by decide +kernel
theorem dJx00060_init_a7421_1 : decode cJx00060_init_a7421 1 = .ok (.aload_n 1, 1) := by decide +kernel
theorem dJx00060_init_a7421_2 : decode cJx00060_init_a7421 2 = .ok (.invokespecial 7, 3) := by decide +kernel
theorem dJx00060_init_a7421_5 : decode cJx00060_init_a7421 5 = .ok (.return_, 1) := by decide +kernel
theorem dJ11_isValidCodePoint_9a6ad_0 : decode cJ11_isValidCodePoint_9a6ad 0 = .ok (.iload_n 0, 1) := by decide +kernel
theorem dJ11_isValidCodePoint_9a6ad_1 : decode cJ11_isValidCodePoint_9a6ad 1 = .ok (.bipush 16, 2) := by decide +kernel
theorem dJ11_isValidCodePoint_9a6ad_3 : decode cJ11_isValidCodePoint_9a6ad 3 = .ok (.iushr, 1) := by decide +kernel
theorem dJ11_isValidCodePoint_9a6ad_4 : decode cJ11_isValidCodePoint_9a6ad 4 = .ok (.istore_n 1, 1) := by decide +kernel
theorem dJ11_isValidCodePoint_9a6ad_5 : decode cJ11_isValidCodePoint_9a6ad 5 = .ok (.iload_n 1, 1) := by decide +kernel
theorem dJ11_isValidCodePoint_9a6ad_6 : decode cJ11_isValidCodePoint_9a6ad 6 = .ok (.bipush 17, 2) := by decide +kernel
theorem dJ11_isValidCodePoint_9a6ad_8 : decode cJ11_isValidCodePoint_9a6ad 8 = .ok (.if_icmp .ge 7, 3) := by decide +kernel
theorem dJ11_isValidCodePoint_9a6ad_11 : decode cJ11_isValidCodePoint_9a6ad 11 = .ok (.iconst 1, 1) := by decide +kernel
theorem dJ11_isValidCodePoint_9a6ad_12 : decode cJ11_isValidCodePoint_9a6ad 12 = .ok (.goto 4, 3) := by decide +kernel
theorem dJ11_isValidCodePoint_9a6ad_15 : decode cJ11_isValidCodePoint_9a6ad 15 = .ok (.iconst 0, 1) := by decide +kernel
theorem dJ11_isValidCodePoint_9a6ad_16 : decode cJ11_isValidCodePoint_9a6ad 16 = .ok (.ireturn, 1) := by decide +kernel
theorem dJ11_highSurrogate_5068e_0 : decode cJ11_highSurrogate_5068e 0 = .ok (.iload_n 0, 1) := by decide +kernel
theorem dJ11_highSurrogate_5068e_1 : decode cJ11_highSurrogate_5068e 1 = .ok (.bipush 10, 2) := by decide +kernel
theorem dJ11_highSurrogate_5068e_3 : decode cJ11_highSurrogate_5068e 3 = .ok (.iushr, 1) := by decide +kernel
theorem dJ11_highSurrogate_5068e_4 : decode cJ11_highSurrogate_5068e 4 = .ok (.ldc 110, 2) := by decide +kernel
theorem dJ11_highSurrogate_5068e_6 : decode cJ11_highSurrogate_5068e 6 = .ok (.iadd, 1) := by decide +kernel
theorem dJ11_highSurrogate_5068e_7 : decode cJ11_highSurrogate_5068e 7 = .ok (.i2c, 1) := by decide +kernel
theorem dJ11_highSurrogate_5068e_8 : decode cJ11_highSurrogate_5068e 8 = .ok (.ireturn, 1) := by decide +kernel
theorem dJ11_lowSurrogate_5068e_0 : decode cJ11_lowSurrogate_5068e 0 = .ok (.iload_n 0, 1) := by decide +kernel
theorem dJ11_lowSurrogate_5068e_1 : decode cJ11_lowSurrogate_5068e 1 = .ok (.sipush 1023, 3) := by decide +kernel
theorem dJ11_lowSurrogate_5068e_4 : decode cJ11_lowSurrogate_5068e 4 = .ok (.iand, 1) := by decide +kernel
theorem dJ11_lowSurrogate_5068e_5 : decode cJ11_lowSurrogate_5068e 5 = .ok (.ldc 76, 2) := by decide +kernel
theorem dJ11_lowSurrogate_5068e_7 : decode cJ11_lowSurrogate_5068e 7 = .ok (.iadd, 1) := by decide +kernel
theorem dJ11_lowSurrogate_5068e_8 : decode cJ11_lowSurrogate_5068e 8 = .ok (.i2c, 1) := by decide +kernel
theorem dJ11_lowSurrogate_5068e_9 : decode cJ11_lowSurrogate_5068e 9 = .ok (.ireturn, 1) := by decide +kernel
theorem dJxe99ae_isNaN_b9ae7_0 : decode cJxe99ae_isNaN_b9ae7 0 = .ok (.dload_n 0, 1) := by decide +kernel
theorem dJxe99ae_isNaN_b9ae7_1 : decode cJxe99ae_isNaN_b9ae7 1 = .ok (.dload_n 0, 1) := by decide +kernel
theorem dJxe99ae_isNaN_b9ae7_2 : decode cJxe99ae_isNaN_b9ae7 2 = .ok (.dcmp .l, 1) := by decide +kernel
theorem dJxe99ae_isNaN_b9ae7_3 : decode cJxe99ae_isNaN_b9ae7 3 = .ok (.ifCond .eq 7, 3) := by decide +kernel
theorem dJxe99ae_isNaN_b9ae7_6 : decode cJxe99ae_isNaN_b9ae7 6 = .ok (.iconst 1, 1) := by decide +kernel
theorem dJxe99ae_isNaN_b9ae7_7 : decode cJxe99ae_isNaN_b9ae7 7 = .ok (.goto 4, 3) := by decide +kernel
theorem dJxe99ae_isNaN_b9ae7_10 : decode cJxe99ae_isNaN_b9ae7 10 = .ok (.iconst 0, 1) := by decide +kernel
theorem dJxe99ae_isNaN_b9ae7_11 : decode cJxe99ae_isNaN_b9ae7 11 = .ok (.ireturn, 1) := by decide +kernel
theorem dJxe99ae_doubleToLongBits_ccdee_0 : decode cJxe99ae_doubleToLongBits_ccdee 0 = .ok (.dload_n 0, 1) := by decide +kernel
theorem dJxe99ae_doubleToLongBits_ccdee_1 : decode cJxe99ae_doubleToLongBits_ccdee 1 = .ok (.invokestatic 122, 3) := by decide +kernel
theorem dJxe99ae_doubleToLongBits_ccdee_4 : decode cJxe99ae_doubleToLongBits_ccdee 4 = .ok (.ifCond .ne 8, 3) := by decide +kernel
theorem dJxe99ae_doubleToLongBits_ccdee_7 : decode cJxe99ae_doubleToLongBits_ccdee 7 = .ok (.dload_n 0, 1) := by decide +kernel
theorem dJxe99ae_doubleToLongBits_ccdee_8 : decode cJxe99ae_doubleToLongBits_ccdee 8 = .ok (.invokestatic 134, 3) := by decide +kernel
theorem dJxe99ae_doubleToLongBits_ccdee_11 : decode cJxe99ae_doubleToLongBits_ccdee 11 = .ok (.lreturn, 1) := by decide +kernel
theorem dJxe99ae_doubleToLongBits_ccdee_12 : decode cJxe99ae_doubleToLongBits_ccdee 12 = .ok (.ldc2_w 137, 3) := by decide +kernel
theorem dJxe99ae_doubleToLongBits_ccdee_15 : decode cJxe99ae_doubleToLongBits_ccdee 15 = .ok (.lreturn, 1) := by decide +kernel
theorem dJxf58ca_isNaN_12338_0 : decode cJxf58ca_isNaN_12338 0 = .ok (.fload_n 0, 1) := by decide +kernel
theorem dJxf58ca_isNaN_12338_1 : decode cJxf58ca_isNaN_12338 1 = .ok (.fload_n 0, 1) := by decide +kernel
theorem dJxf58ca_isNaN_12338_2 : decode cJxf58ca_isNaN_12338 2 = .ok (.fcmp .l, 1) := by decide +kernel
theorem dJxf58ca_isNaN_12338_3 : decode cJxf58ca_isNaN_12338 3 = .ok (.ifCond .eq 7, 3) := by decide +kernel
theorem dJxf58ca_isNaN_12338_6 : decode cJxf58ca_isNaN_12338 6 = .ok (.iconst 1, 1) := by decide +kernel
theorem dJxf58ca_isNaN_12338_7 : decode cJxf58ca_isNaN_12338 7 = .ok (.goto 4, 3) := by decide +kernel
theorem dJxf58ca_isNaN_12338_10 : decode cJxf58ca_isNaN_12338 10 = .ok (.iconst 0, 1) := by decide +kernel
theorem dJxf58ca_isNaN_12338_11 : decode cJxf58ca_isNaN_12338 11 = .ok (.ireturn, 1) := by decide +kernel
theorem dJxf58ca_floatToIntBits_5c35a_0 : decode cJxf58ca_floatToIntBits_5c35a 0 = .ok (.fload_n 0, 1) := by decide +kernel
theorem dJxf58ca_floatToIntBits_5c35a_1 : decode cJxf58ca_floatToIntBits_5c35a 1 = .ok (.invokestatic 59, 3) := by decide +kernel
theorem dJxf58ca_floatToIntBits_5c35a_4 : decode cJxf58ca_floatToIntBits_5c35a 4 = .ok (.ifCond .ne 8, 3) := by decide +kernel
theorem dJxf58ca_floatToIntBits_5c35a_7 : decode cJxf58ca_floatToIntBits_5c35a 7 = .ok (.fload_n 0, 1) := by decide +kernel
theorem dJxf58ca_floatToIntBits_5c35a_8 : decode cJxf58ca_floatToIntBits_5c35a 8 = .ok (.invokestatic 74, 3) := by decide +kernel
theorem dJxf58ca_floatToIntBits_5c35a_11 : decode cJxf58ca_floatToIntBits_5c35a 11 = .ok (.ireturn, 1) := by decide +kernel
theorem dJxf58ca_floatToIntBits_5c35a_12 : decode cJxf58ca_floatToIntBits_5c35a 12 = .ok (.ldc 77, 2) := by decide +kernel
theorem dJxf58ca_floatToIntBits_5c35a_14 : decode cJxf58ca_floatToIntBits_5c35a 14 = .ok (.ireturn, 1) := by decide +kernel
theorem dJ6_compare_7cf53_0 : decode cJ6_compare_7cf53 0 = .ok (.iload_n 0, 1) := by decide +kernel
theorem dJ6_compare_7cf53_1 : decode cJ6_compare_7cf53 1 = .ok (.iload_n 1, 1) := by decide +kernel
theorem dJ6_compare_7cf53_2 : decode cJ6_compare_7cf53 2 = .ok (.if_icmp .ge 7, 3) := by decide +kernel
theorem dJ6_compare_7cf53_5 : decode cJ6_compare_7cf53 5 = .ok (.iconst (-1), 1) := by decide +kernel
theorem dJ6_compare_7cf53_6 : decode cJ6_compare_7cf53 6 = .ok (.goto 13, 3) := by decide +kernel
theorem dJ6_compare_7cf53_9 : decode cJ6_compare_7cf53 9 = .ok (.iload_n 0, 1) := by decide +kernel
theorem dJ6_compare_7cf53_10 : decode cJ6_compare_7cf53 10 = .ok (.iload_n 1, 1) := by decide +kernel
theorem dJ6_compare_7cf53_11 : decode cJ6_compare_7cf53 11 = .ok (.if_icmp .ne 7, 3) := by decide +kernel
theorem dJ6_compare_7cf53_14 : decode cJ6_compare_7cf53 14 = .ok (.iconst 0, 1) := by decide +kernel
theorem dJ6_compare_7cf53_15 : decode cJ6_compare_7cf53 15 = .ok (.goto 4, 3) := by decide +kernel
theorem dJ6_compare_7cf53_18 : decode cJ6_compare_7cf53 18 = .ok (.iconst 1, 1) := by decide +kernel
theorem dJ6_compare_7cf53_19 : decode cJ6_compare_7cf53 19 = .ok (.ireturn, 1) := by decide +kernel
theorem dJ9_floorMod_7cf53_0 : decode cJ9_floorMod_7cf53 0 = .ok (.iload_n 0, 1) := by decide +kernel
theorem dJ9_floorMod_7cf53_1 : decode cJ9_floorMod_7cf53 1 = .ok (.iload_n 1, 1) := by decide +kernel
theorem dJ9_floorMod_7cf53_2 : decode cJ9_floorMod_7cf53 2 = .ok (.irem, 1) := by decide +kernel
theorem dJ9_floorMod_7cf53_3 : decode cJ9_floorMod_7cf53 3 = .ok (.istore_n 2, 1) := by decide +kernel
theorem dJ9_floorMod_7cf53_4 : decode cJ9_floorMod_7cf53 4 = .ok (.iload_n 0, 1) := by decide +kernel
theorem dJ9_floorMod_7cf53_5 : decode cJ9_floorMod_7cf53 5 = .ok (.iload_n 1, 1) := by decide +kernel
theorem dJ9_floorMod_7cf53_6 : decode cJ9_floorMod_7cf53 6 = .ok (.ixor, 1) := by decide +kernel
theorem dJ9_floorMod_7cf53_7 : decode cJ9_floorMod_7cf53 7 = .ok (.ifCond .ge 11, 3) := by decide +kernel
theorem dJ9_floorMod_7cf53_10 : decode cJ9_floorMod_7cf53 10 = .ok (.iload_n 2, 1) := by decide +kernel
theorem dJ9_floorMod_7cf53_11 : decode cJ9_floorMod_7cf53 11 = .ok (.ifCond .eq 7, 3) := by decide +kernel
theorem dJ9_floorMod_7cf53_14 : decode cJ9_floorMod_7cf53 14 = .ok (.iload_n 2, 1) := by decide +kernel
theorem dJ9_floorMod_7cf53_15 : decode cJ9_floorMod_7cf53 15 = .ok (.iload_n 1, 1) := by decide +kernel
theorem dJ9_floorMod_7cf53_16 : decode cJ9_floorMod_7cf53 16 = .ok (.iadd, 1) := by decide +kernel
theorem dJ9_floorMod_7cf53_17 : decode cJ9_floorMod_7cf53 17 = .ok (.ireturn, 1) := by decide +kernel
theorem dJ9_floorMod_7cf53_18 : decode cJ9_floorMod_7cf53 18 = .ok (.iload_n 2, 1) := by decide +kernel
theorem dJ9_floorMod_7cf53_19 : decode cJ9_floorMod_7cf53 19 = .ok (.ireturn, 1) := by decide +kernel
theorem dJ9_abs_0f7a4_0 : decode cJ9_abs_0f7a4 0 = .ok (.iload_n 0, 1) := by decide +kernel
theorem dJ9_abs_0f7a4_1 : decode cJ9_abs_0f7a4 1 = .ok (.ifCond .ge 8, 3) := by decide +kernel
theorem dJ9_abs_0f7a4_4 : decode cJ9_abs_0f7a4 4 = .ok (.iload_n 0, 1) := by decide +kernel
theorem dJ9_abs_0f7a4_5 : decode cJ9_abs_0f7a4 5 = .ok (.ineg, 1) := by decide +kernel
theorem dJ9_abs_0f7a4_6 : decode cJ9_abs_0f7a4 6 = .ok (.goto 4, 3) := by decide +kernel
theorem dJ9_abs_0f7a4_9 : decode cJ9_abs_0f7a4 9 = .ok (.iload_n 0, 1) := by decide +kernel
theorem dJ9_abs_0f7a4_10 : decode cJ9_abs_0f7a4 10 = .ok (.ireturn, 1) := by decide +kernel
theorem dJ9_max_7cf53_0 : decode cJ9_max_7cf53 0 = .ok (.iload_n 0, 1) := by decide +kernel
theorem dJ9_max_7cf53_1 : decode cJ9_max_7cf53 1 = .ok (.iload_n 1, 1) := by decide +kernel
theorem dJ9_max_7cf53_2 : decode cJ9_max_7cf53 2 = .ok (.if_icmp .lt 7, 3) := by decide +kernel
theorem dJ9_max_7cf53_5 : decode cJ9_max_7cf53 5 = .ok (.iload_n 0, 1) := by decide +kernel
theorem dJ9_max_7cf53_6 : decode cJ9_max_7cf53 6 = .ok (.goto 4, 3) := by decide +kernel
theorem dJ9_max_7cf53_9 : decode cJ9_max_7cf53 9 = .ok (.iload_n 1, 1) := by decide +kernel
theorem dJ9_max_7cf53_10 : decode cJ9_max_7cf53 10 = .ok (.ireturn, 1) := by decide +kernel
theorem dJ9_min_7cf53_0 : decode cJ9_min_7cf53 0 = .ok (.iload_n 0, 1) := by decide +kernel
theorem dJ9_min_7cf53_1 : decode cJ9_min_7cf53 1 = .ok (.iload_n 1, 1) := by decide +kernel
theorem dJ9_min_7cf53_2 : decode cJ9_min_7cf53 2 = .ok (.if_icmp .gt 7, 3) := by decide +kernel
theorem dJ9_min_7cf53_5 : decode cJ9_min_7cf53 5 = .ok (.iload_n 0, 1) := by decide +kernel
theorem dJ9_min_7cf53_6 : decode cJ9_min_7cf53 6 = .ok (.goto 4, 3) := by decide +kernel
theorem dJ9_min_7cf53_9 : decode cJ9_min_7cf53 9 = .ok (.iload_n 1, 1) := by decide +kernel
theorem dJ9_min_7cf53_10 : decode cJ9_min_7cf53 10 = .ok (.ireturn, 1) := by decide +kernel
theorem dJ0_length_8abf5_0 : decode cJ0_length_8abf5 0 = .ok (.aload_n 0, 1) := by decide +kernel
theorem dJ0_length_8abf5_1 : decode cJ0_length_8abf5 1 = .ok (.getfield 9, 3) := by decide +kernel
theorem dJ0_length_8abf5_4 : decode cJ0_length_8abf5 4 = .ok (.arraylength, 1) := by decide +kernel
theorem dJ0_length_8abf5_5 : decode cJ0_length_8abf5 5 = .ok (.aload_n 0, 1) := by decide +kernel
theorem dJ0_length_8abf5_6 : decode cJ0_length_8abf5 6 = .ok (.invokevirtual 335, 3) := by decide +kernel
theorem dJ0_length_8abf5_9 : decode cJ0_length_8abf5 9 = .ok (.ishr, 1) := by decide +kernel
theorem dJ0_length_8abf5_10 : decode cJ0_length_8abf5 10 = .ok (.ireturn, 1) := by decide +kernel
theorem dJ0_charAt_5068e_0 : decode cJ0_charAt_5068e 0 = .ok (.aload_n 0, 1) := by decide +kernel
theorem dJ0_charAt_5068e_1 : decode cJ0_charAt_5068e 1 = .ok (.invokevirtual 492, 3) := by decide +kernel
theorem dJ0_charAt_5068e_4 : decode cJ0_charAt_5068e 4 = .ok (.ifCond .eq 12, 3) := by decide +kernel
theorem dJ0_charAt_5068e_7 : decode cJ0_charAt_5068e 7 = .ok (.aload_n 0, 1) := by decide +kernel
theorem dJ0_charAt_5068e_8 : decode cJ0_charAt_5068e 8 = .ok (.getfield 9, 3) := by decide +kernel
theorem dJ0_charAt_5068e_11 : decode cJ0_charAt_5068e 11 = .ok (.iload_n 1, 1) := by decide +kernel
theorem dJ0_charAt_5068e_12 : decode cJ0_charAt_5068e 12 = .ok (.invokestatic 495, 3) := by decide +kernel
theorem dJ0_charAt_5068e_15 : decode cJ0_charAt_5068e 15 = .ok (.ireturn, 1) := by decide +kernel
theorem dJ0_charAt_5068e_16 : decode cJ0_charAt_5068e 16 = .ok (.aload_n 0, 1) := by decide +kernel
theorem dJ0_charAt_5068e_17 : decode cJ0_charAt_5068e 17 = .ok (.getfield 9, 3) := by decide +kernel
theorem dJ0_charAt_5068e_20 : decode cJ0_charAt_5068e 20 = .ok (.iload_n 1, 1) := by decide +kernel
theorem dJ0_charAt_5068e_21 : decode cJ0_charAt_5068e 21 = .ok (.invokestatic 498, 3) := by decide +kernel
theorem dJ0_charAt_5068e_24 : decode cJ0_charAt_5068e 24 = .ok (.ireturn, 1) := by decide +kernel
theorem dJ0_indexOf_0f7a4_0 : decode cJ0_indexOf_0f7a4 0 = .ok (.aload_n 0, 1) := by decide +kernel
theorem dJ0_indexOf_0f7a4_1 : decode cJ0_indexOf_0f7a4 1 = .ok (.iload_n 1, 1) := by decide +kernel
theorem dJ0_indexOf_0f7a4_2 : decode cJ0_indexOf_0f7a4 2 = .ok (.iconst 0, 1) := by decide +kernel
theorem dJ0_indexOf_0f7a4_3 : decode cJ0_indexOf_0f7a4 3 = .ok (.invokevirtual 633, 3) := by decide +kernel
theorem dJ0_indexOf_0f7a4_6 : decode cJ0_indexOf_0f7a4 6 = .ok (.ireturn, 1) := by decide +kernel
theorem dJ0_indexOf_7cf53_0 : decode cJ0_indexOf_7cf53 0 = .ok (.aload_n 0, 1) := by decide +kernel
theorem dJ0_indexOf_7cf53_1 : decode cJ0_indexOf_7cf53 1 = .ok (.invokevirtual 492, 3) := by decide +kernel
theorem dJ0_indexOf_7cf53_4 : decode cJ0_indexOf_7cf53 4 = .ok (.ifCond .eq 19, 3) := by decide +kernel
theorem dJ0_indexOf_7cf53_7 : decode cJ0_indexOf_7cf53 7 = .ok (.aload_n 0, 1) := by decide +kernel
theorem dJ0_indexOf_7cf53_8 : decode cJ0_indexOf_7cf53 8 = .ok (.getfield 9, 3) := by decide +kernel
theorem dJ0_indexOf_7cf53_11 : decode cJ0_indexOf_7cf53 11 = .ok (.iload_n 1, 1) := by decide +kernel
theorem dJ0_indexOf_7cf53_12 : decode cJ0_indexOf_7cf53 12 = .ok (.iload_n 2, 1) := by decide +kernel
theorem dJ0_indexOf_7cf53_13 : decode cJ0_indexOf_7cf53 13 = .ok (.aload_n 0, 1) := by decide +kernel
theorem dJ0_indexOf_7cf53_14 : decode cJ0_indexOf_7cf53 14 = .ok (.invokevirtual 505, 3) := by decide +kernel
theorem dJ0_indexOf_7cf53_17 : decode cJ0_indexOf_7cf53 17 = .ok (.invokestatic 637, 3) := by decide +kernel
theorem dJ0_indexOf_7cf53_20 : decode cJ0_indexOf_7cf53 20 = .ok (.goto 16, 3) := by decide +kernel
theorem dJ0_indexOf_7cf53_23 : decode cJ0_indexOf_7cf53 23 = .ok (.aload_n 0, 1) := by decide +kernel
theorem dJ0_indexOf_7cf53_24 : decode cJ0_indexOf_7cf53 24 = .ok (.getfield 9, 3) := by decide +kernel
theorem dJ0_indexOf_7cf53_27 : decode cJ0_indexOf_7cf53 27 = .ok (.iload_n 1, 1) := by decide +kernel
theorem dJ0_indexOf_7cf53_28 : decode cJ0_indexOf_7cf53 28 = .ok (.iload_n 2, 1) := by decide +kernel
theorem dJ0_indexOf_7cf53_29 : decode cJ0_indexOf_7cf53 29 = .ok (.aload_n 0, 1) := by decide +kernel
theorem dJ0_indexOf_7cf53_30 : decode cJ0_indexOf_7cf53 30 = .ok (.invokevirtual 505, 3) := by decide +kernel
theorem dJ0_indexOf_7cf53_33 : decode cJ0_indexOf_7cf53 33 = .ok (.invokestatic 640, 3) := by decide +kernel
theorem dJ0_indexOf_7cf53_36 : decode cJ0_indexOf_7cf53 36 = .ok (.ireturn, 1) := by decide +kernel
theorem dJ0_coder_7d493_0 : decode cJ0_coder_7d493 0 = .ok (.getstatic 38, 3) := by decide +kernel
theorem dJ0_coder_7d493_3 : decode cJ0_coder_7d493 3 = .ok (.ifCond .eq 10, 3) := by decide +kernel
theorem dJ0_coder_7d493_6 : decode cJ0_coder_7d493 6 = .ok (.aload_n 0, 1) := by decide +kernel
theorem dJ0_coder_7d493_7 : decode cJ0_coder_7d493 7 = .ok (.getfield 15, 3) := by decide +kernel
theorem dJ0_coder_7d493_10 : decode cJ0_coder_7d493 10 = .ok (.goto 4, 3) := by decide +kernel
theorem dJ0_coder_7d493_13 : decode cJ0_coder_7d493 13 = .ok (.iconst 1, 1) := by decide +kernel
theorem dJ0_coder_7d493_14 : decode cJ0_coder_7d493 14 = .ok (.ireturn, 1) := by decide +kernel
theorem dJ0_isLatin1_aae02_0 : decode cJ0_isLatin1_aae02 0 = .ok (.getstatic 38, 3) := by decide +kernel
theorem dJ0_isLatin1_aae02_3 : decode cJ0_isLatin1_aae02 3 = .ok (.ifCond .eq 14, 3) := by decide +kernel
theorem dJ0_isLatin1_aae02_6 : decode cJ0_isLatin1_aae02 6 = .ok (.aload_n 0, 1) := by decide +kernel
theorem dJ0_isLatin1_aae02_7 : decode cJ0_isLatin1_aae02 7 = .ok (.getfield 15, 3) := by decide +kernel
theorem dJ0_isLatin1_aae02_10 : decode cJ0_isLatin1_aae02 10 = .ok (.ifCond .ne 7, 3) := by decide +kernel
theorem dJ0_isLatin1_aae02_13 : decode cJ0_isLatin1_aae02 13 = .ok (.iconst 1, 1) := by decide +kernel
theorem dJ0_isLatin1_aae02_14 : decode cJ0_isLatin1_aae02 14 = .ok (.goto 4, 3) := by decide +kernel
theorem dJ0_isLatin1_aae02_17 : decode cJ0_isLatin1_aae02 17 = .ok (.iconst 0, 1) := by decide +kernel
theorem dJ0_isLatin1_aae02_18 : decode cJ0_isLatin1_aae02 18 = .ok (.ireturn, 1) := by decide +kernel
theorem dJ0_checkIndex_df160_0 : decode cJ0_checkIndex_df160 0 = .ok (.iload_n 0, 1) := by decide +kernel
theorem dJ0_checkIndex_df160_1 : decode cJ0_checkIndex_df160 1 = .ok (.iload_n 1, 1) := by decide +kernel
theorem dJ0_checkIndex_df160_2 : decode cJ0_checkIndex_df160 2 = .ok (.getstatic 1053, 3) := by decide +kernel
theorem dJ0_checkIndex_df160_5 : decode cJ0_checkIndex_df160 5 = .ok (.invokestatic 1059, 3) := by decide +kernel
theorem dJ0_checkIndex_df160_8 : decode cJ0_checkIndex_df160 8 = .ok (.pop, 1) := by decide +kernel
theorem dJ0_checkIndex_df160_9 : decode cJ0_checkIndex_df160 9 = .ok (.return_, 1) := by decide +kernel
theorem dJ0_checkBoundsBeginEnd_23922_0 : decode cJ0_checkBoundsBeginEnd_23922 0 = .ok (.iload_n 0, 1) := by decide +kernel
theorem dJ0_checkBoundsBeginEnd_23922_1 : decode cJ0_checkBoundsBeginEnd_23922 1 = .ok (.iload_n 1, 1) := by decide +kernel
theorem dJ0_checkBoundsBeginEnd_23922_2 : decode cJ0_checkBoundsBeginEnd_23922 2 = .ok (.iload_n 2, 1) := by decide +kernel
theorem dJ0_checkBoundsBeginEnd_23922_3 : decode cJ0_checkBoundsBeginEnd_23922 3 = .ok (.getstatic 1053, 3) := by decide +kernel
theorem dJ0_checkBoundsBeginEnd_23922_6 : decode cJ0_checkBoundsBeginEnd_23922 6 = .ok (.invokestatic 1062, 3) := by decide +kernel
theorem dJ0_checkBoundsBeginEnd_23922_9 : decode cJ0_checkBoundsBeginEnd_23922 9 = .ok (.pop, 1) := by decide +kernel
theorem dJ0_checkBoundsBeginEnd_23922_10 : decode cJ0_checkBoundsBeginEnd_23922 10 = .ok (.return_, 1) := by decide +kernel
theorem dJ1_charAt_3b067_0 : decode cJ1_charAt_3b067 0 = .ok (.iload_n 1, 1) := by decide +kernel
theorem dJ1_charAt_3b067_1 : decode cJ1_charAt_3b067 1 = .ok (.aload_n 0, 1) := by decide +kernel
theorem dJ1_charAt_3b067_2 : decode cJ1_charAt_3b067 2 = .ok (.arraylength, 1) := by decide +kernel
theorem dJ1_charAt_3b067_3 : decode cJ1_charAt_3b067 3 = .ok (.invokestatic 9, 3) := by decide +kernel
theorem dJ1_charAt_3b067_6 : decode cJ1_charAt_3b067 6 = .ok (.aload_n 0, 1) := by decide +kernel
theorem dJ1_charAt_3b067_7 : decode cJ1_charAt_3b067 7 = .ok (.iload_n 1, 1) := by decide +kernel
theorem dJ1_charAt_3b067_8 : decode cJ1_charAt_3b067 8 = .ok (.baload, 1) := by decide +kernel
theorem dJ1_charAt_3b067_9 : decode cJ1_charAt_3b067 9 = .ok (.sipush 255, 3) := by decide +kernel
theorem dJ1_charAt_3b067_12 : decode cJ1_charAt_3b067 12 = .ok (.iand, 1) := by decide +kernel
theorem dJ1_charAt_3b067_13 : decode cJ1_charAt_3b067 13 = .ok (.i2c, 1) := by decide +kernel
theorem dJ1_charAt_3b067_14 : decode cJ1_charAt_3b067 14 = .ok (.ireturn, 1) := by decide +kernel
theorem dJ1_canEncode_9a6ad_0 : decode cJ1_canEncode_9a6ad 0 = .ok (.iload_n 0, 1) := by decide +kernel
theorem dJ1_canEncode_9a6ad_1 : decode cJ1_canEncode_9a6ad 1 = .ok (.ifCond .lt 14, 3) := by decide +kernel
theorem dJ1_canEncode_9a6ad_4 : decode cJ1_canEncode_9a6ad 4 = .ok (.iload_n 0, 1) := by decide +kernel
theorem dJ1_canEncode_9a6ad_5 : decode cJ1_canEncode_9a6ad 5 = .ok (.sipush 255, 3) := by decide +kernel
theorem dJ1_canEncode_9a6ad_8 : decode cJ1_canEncode_9a6ad 8 = .ok (.if_icmp .gt 7, 3) := by decide +kernel
theorem dJ1_canEncode_9a6ad_11 : decode cJ1_canEncode_9a6ad 11 = .ok (.iconst 1, 1) := by decide +kernel
theorem dJ1_canEncode_9a6ad_12 : decode cJ1_canEncode_9a6ad 12 = .ok (.goto 4, 3) := by decide +kernel
theorem dJ1_canEncode_9a6ad_15 : decode cJ1_canEncode_9a6ad 15 = .ok (.iconst 0, 1) := by decide +kernel
theorem dJ1_canEncode_9a6ad_16 : decode cJ1_canEncode_9a6ad 16 = .ok (.ireturn, 1) := by decide +kernel
theorem dJ1_indexOf_4cfef_0 : decode cJ1_indexOf_4cfef 0 = .ok (.iload_n 1, 1) := by decide +kernel
theorem dJ1_indexOf_4cfef_1 : decode cJ1_indexOf_4cfef 1 = .ok (.invokestatic 88, 3) := by decide +kernel
theorem dJ1_indexOf_4cfef_4 : decode cJ1_indexOf_4cfef 4 = .ok (.ifCond .ne 5, 3) := by decide +kernel
theorem dJ1_indexOf_4cfef_7 : decode cJ1_indexOf_4cfef 7 = .ok (.iconst (-1), 1) := by decide +kernel
theorem dJ1_indexOf_4cfef_8 : decode cJ1_indexOf_4cfef 8 = .ok (.ireturn, 1) := by decide +kernel
theorem dJ1_indexOf_4cfef_9 : decode cJ1_indexOf_4cfef 9 = .ok (.iload_n 2, 1) := by decide +kernel
theorem dJ1_indexOf_4cfef_10 : decode cJ1_indexOf_4cfef 10 = .ok (.iconst 0, 1) := by decide +kernel
theorem dJ1_indexOf_4cfef_11 : decode cJ1_indexOf_4cfef 11 = .ok (.invokestatic 92, 3) := by decide +kernel
theorem dJ1_indexOf_4cfef_14 : decode cJ1_indexOf_4cfef 14 = .ok (.istore_n 2, 1) := by decide +kernel
theorem dJ1_indexOf_4cfef_15 : decode cJ1_indexOf_4cfef 15 = .ok (.iload_n 3, 1) := by decide +kernel
theorem dJ1_indexOf_4cfef_16 : decode cJ1_indexOf_4cfef 16 = .ok (.aload_n 0, 1) := by decide +kernel
theorem dJ1_indexOf_4cfef_17 : decode cJ1_indexOf_4cfef 17 = .ok (.arraylength, 1) := by decide +kernel
theorem dJ1_indexOf_4cfef_18 : decode cJ1_indexOf_4cfef 18 = .ok (.invokestatic 38, 3) := by decide +kernel
theorem dJ1_indexOf_4cfef_21 : decode cJ1_indexOf_4cfef 21 = .ok (.istore_n 3, 1) := by decide +kernel
theorem dJ1_indexOf_4cfef_22 : decode cJ1_indexOf_4cfef 22 = .ok (.iload_n 2, 1) := by decide +kernel
theorem dJ1_indexOf_4cfef_23 : decode cJ1_indexOf_4cfef 23 = .ok (.iload_n 3, 1) := by decide +kernel
theorem dJ1_indexOf_4cfef_24 : decode cJ1_indexOf_4cfef 24 = .ok (.if_icmp .lt 5, 3) := by decide +kernel
theorem dJ1_indexOf_4cfef_27 : decode cJ1_indexOf_4cfef 27 = .ok (.iconst (-1), 1) := by decide +kernel
theorem dJ1_indexOf_4cfef_28 : decode cJ1_indexOf_4cfef 28 = .ok (.ireturn, 1) := by decide +kernel
theorem dJ1_indexOf_4cfef_29 : decode cJ1_indexOf_4cfef 29 = .ok (.aload_n 0, 1) := by decide +kernel
theorem dJ1_indexOf_4cfef_30 : decode cJ1_indexOf_4cfef 30 = .ok (.iload_n 1, 1) := by decide +kernel
theorem dJ1_indexOf_4cfef_31 : decode cJ1_indexOf_4cfef 31 = .ok (.iload_n 2, 1) := by decide +kernel
theorem dJ1_indexOf_4cfef_32 : decode cJ1_indexOf_4cfef 32 = .ok (.iload_n 3, 1) := by decide +kernel
theorem dJ1_indexOf_4cfef_33 : decode cJ1_indexOf_4cfef 33 = .ok (.invokestatic 95, 3) := by decide +kernel
theorem dJ1_indexOf_4cfef_36 : decode cJ1_indexOf_4cfef 36 = .ok (.ireturn, 1) := by decide +kernel
theorem dJ1_indexOfChar_4cfef_0 : decode cJ1_indexOfChar_4cfef 0 = .ok (.iload_n 1, 1) := by decide +kernel
theorem dJ1_indexOfChar_4cfef_1 : decode cJ1_indexOfChar_4cfef 1 = .ok (.i2b, 1) := by decide +kernel
theorem dJ1_indexOfChar_4cfef_2 : decode cJ1_indexOfChar_4cfef 2 = .ok (.istore 4, 2) := by decide +kernel
theorem dJ1_indexOfChar_4cfef_4 : decode cJ1_indexOfChar_4cfef 4 = .ok (.iload_n 2, 1) := by decide +kernel
theorem dJ1_indexOfChar_4cfef_5 : decode cJ1_indexOfChar_4cfef 5 = .ok (.istore 5, 2) := by decide +kernel
theorem dJ1_indexOfChar_4cfef_7 : decode cJ1_indexOfChar_4cfef 7 = .ok (.iload 5, 2) := by decide +kernel
theorem dJ1_indexOfChar_4cfef_9 : decode cJ1_indexOfChar_4cfef 9 = .ok (.iload_n 3, 1) := by decide +kernel
theorem dJ1_indexOfChar_4cfef_10 : decode cJ1_indexOfChar_4cfef 10 = .ok (.if_icmp .ge 21, 3) := by decide +kernel
theorem dJ1_indexOfChar_4cfef_13 : decode cJ1_indexOfChar_4cfef 13 = .ok (.aload_n 0, 1) := by decide +kernel
theorem dJ1_indexOfChar_4cfef_14 : decode cJ1_indexOfChar_4cfef 14 = .ok (.iload 5, 2) := by decide +kernel
theorem dJ1_indexOfChar_4cfef_16 : decode cJ1_indexOfChar_4cfef 16 = .ok (.baload, 1) := by decide +kernel
theorem dJ1_indexOfChar_4cfef_17 : decode cJ1_indexOfChar_4cfef 17 = .ok (.iload 4, 2) := by decide +kernel
theorem dJ1_indexOfChar_4cfef_19 : decode cJ1_indexOfChar_4cfef 19 = .ok (.if_icmp .ne 6, 3) := by decide +kernel
theorem dJ1_indexOfChar_4cfef_22 : decode cJ1_indexOfChar_4cfef 22 = .ok (.iload 5, 2) := by decide +kernel
theorem dJ1_indexOfChar_4cfef_24 : decode cJ1_indexOfChar_4cfef 24 = .ok (.ireturn, 1) := by decide +kernel
theorem dJ1_indexOfChar_4cfef_25 : decode cJ1_indexOfChar_4cfef 25 = .ok (.iinc 5 1, 3) := by decide +kernel
theorem dJ1_indexOfChar_4cfef_28 : decode cJ1_indexOfChar_4cfef 28 = .ok (.goto (-21), 3) := by decide +kernel
theorem dJ1_indexOfChar_4cfef_31 : decode cJ1_indexOfChar_4cfef 31 = .ok (.iconst (-1), 1) := by decide +kernel
theorem dJ1_indexOfChar_4cfef_32 : decode cJ1_indexOfChar_4cfef 32 = .ok (.ireturn, 1) := by decide +kernel
theorem dJ2_getChar_3b067_0 : decode cJ2_getChar_3b067 0 = .ok (.getstatic 44, 3) := by decide +kernel
theorem dJ2_getChar_3b067_3 : decode cJ2_getChar_3b067 3 = .ok (.ifCond .ne 25, 3) := by decide +kernel
theorem dJ2_getChar_3b067_6 : decode cJ2_getChar_3b067 6 = .ok (.iload_n 1, 1) := by decide +kernel
theorem dJ2_getChar_3b067_7 : decode cJ2_getChar_3b067 7 = .ok (.ifCond .lt 11, 3) := by decide +kernel
theorem dJ2_getChar_3b067_10 : decode cJ2_getChar_3b067 10 = .ok (.iload_n 1, 1) := by decide +kernel
theorem dJ2_getChar_3b067_11 : decode cJ2_getChar_3b067 11 = .ok (.aload_n 0, 1) := by decide +kernel
theorem dJ2_getChar_3b067_12 : decode cJ2_getChar_3b067 12 = .ok (.invokestatic 48, 3) := by decide +kernel
theorem dJ2_getChar_3b067_15 : decode cJ2_getChar_3b067 15 = .ok (.if_icmp .lt 13, 3) := by decide +kernel
theorem dJ2_getChar_3b067_18 : decode cJ2_getChar_3b067 18 = .ok (.new 52, 3) := by decide +kernel
theorem dJ2_getChar_3b067_21 : decode cJ2_getChar_3b067 21 = .ok (.dup, 1) := by decide +kernel
theorem dJ2_getChar_3b067_22 : decode cJ2_getChar_3b067 22 = .ok (.ldc 54, 2) := by decide +kernel
theorem dJ2_getChar_3b067_24 : decode cJ2_getChar_3b067 24 = .ok (.invokespecial 56, 3) := by decide +kernel
theorem dJ2_getChar_3b067_27 : decode cJ2_getChar_3b067 27 = .ok (.athrow, 1) := by decide +kernel
theorem dJ2_getChar_3b067_28 : decode cJ2_getChar_3b067 28 = .ok (.iload_n 1, 1) := by decide +kernel
theorem dJ2_getChar_3b067_29 : decode cJ2_getChar_3b067 29 = .ok (.iconst 1, 1) := by decide +kernel
theorem dJ2_getChar_3b067_30 : decode cJ2_getChar_3b067 30 = .ok (.ishl, 1) := by decide +kernel
theorem dJ2_getChar_3b067_31 : decode cJ2_getChar_3b067 31 = .ok (.istore_n 1, 1) := by decide +kernel
theorem dJ2_getChar_3b067_32 : decode cJ2_getChar_3b067 32 = .ok (.aload_n 0, 1) := by decide +kernel
theorem dJ2_getChar_3b067_33 : decode cJ2_getChar_3b067 33 = .ok (.iload_n 1, 1) := by decide +kernel
theorem dJ2_getChar_3b067_34 : decode cJ2_getChar_3b067 34 = .ok (.iinc 1 1, 3) := by decide +kernel
theorem dJ2_getChar_3b067_37 : decode cJ2_getChar_3b067 37 = .ok (.baload, 1) := by decide +kernel
theorem dJ2_getChar_3b067_38 : decode cJ2_getChar_3b067 38 = .ok (.sipush 255, 3) := by decide +kernel
theorem dJ2_getChar_3b067_41 : decode cJ2_getChar_3b067 41 = .ok (.iand, 1) := by decide +kernel
theorem dJ2_getChar_3b067_42 : decode cJ2_getChar_3b067 42 = .ok (.getstatic 59, 3) := by decide +kernel
theorem dJ2_getChar_3b067_45 : decode cJ2_getChar_3b067 45 = .ok (.ishl, 1) := by decide +kernel
theorem dJ2_getChar_3b067_46 : decode cJ2_getChar_3b067 46 = .ok (.aload_n 0, 1) := by decide +kernel
theorem dJ2_getChar_3b067_47 : decode cJ2_getChar_3b067 47 = .ok (.iload_n 1, 1) := by decide +kernel
theorem dJ2_getChar_3b067_48 : decode cJ2_getChar_3b067 48 = .ok (.baload, 1) := by decide +kernel
theorem dJ2_getChar_3b067_49 : decode cJ2_getChar_3b067 49 = .ok (.sipush 255, 3) := by decide +kernel
theorem dJ2_getChar_3b067_52 : decode cJ2_getChar_3b067 52 = .ok (.iand, 1) := by decide +kernel
theorem dJ2_getChar_3b067_53 : decode cJ2_getChar_3b067 53 = .ok (.getstatic 63, 3) := by decide +kernel
theorem dJ2_getChar_3b067_56 : decode cJ2_getChar_3b067 56 = .ok (.ishl, 1) := by decide +kernel
theorem dJ2_getChar_3b067_57 : decode cJ2_getChar_3b067 57 = .ok (.ior, 1) := by decide +kernel
theorem dJ2_getChar_3b067_58 : decode cJ2_getChar_3b067 58 = .ok (.i2c, 1) := by decide +kernel
theorem dJ2_getChar_3b067_59 : decode cJ2_getChar_3b067 59 = .ok (.ireturn, 1) := by decide +kernel
theorem dJ2_length_9d52b_0 : decode cJ2_length_9d52b 0 = .ok (.aload_n 0, 1) := by decide +kernel
theorem dJ2_length_9d52b_1 : decode cJ2_length_9d52b 1 = .ok (.arraylength, 1) := by decide +kernel
theorem dJ2_length_9d52b_2 : decode cJ2_length_9d52b 2 = .ok (.iconst 1, 1) := by decide +kernel
theorem dJ2_length_9d52b_3 : decode cJ2_length_9d52b 3 = .ok (.ishr, 1) := by decide +kernel
theorem dJ2_length_9d52b_4 : decode cJ2_length_9d52b 4 = .ok (.ireturn, 1) := by decide +kernel
theorem dJ2_indexOf_4cfef_0 : decode cJ2_indexOf_4cfef 0 = .ok (.iload_n 2, 1) := by decide +kernel
theorem dJ2_indexOf_4cfef_1 : decode cJ2_indexOf_4cfef 1 = .ok (.iconst 0, 1) := by decide +kernel
theorem dJ2_indexOf_4cfef_2 : decode cJ2_indexOf_4cfef 2 = .ok (.invokestatic 224, 3) := by decide +kernel
theorem dJ2_indexOf_4cfef_5 : decode cJ2_indexOf_4cfef 5 = .ok (.istore_n 2, 1) := by decide +kernel
theorem dJ2_indexOf_4cfef_6 : decode cJ2_indexOf_4cfef 6 = .ok (.iload_n 3, 1) := by decide +kernel
theorem dJ2_indexOf_4cfef_7 : decode cJ2_indexOf_4cfef 7 = .ok (.aload_n 0, 1) := by decide +kernel
theorem dJ2_indexOf_4cfef_8 : decode cJ2_indexOf_4cfef 8 = .ok (.arraylength, 1) := by decide +kernel
theorem dJ2_indexOf_4cfef_9 : decode cJ2_indexOf_4cfef 9 = .ok (.iconst 1, 1) := by decide +kernel
theorem dJ2_indexOf_4cfef_10 : decode cJ2_indexOf_4cfef 10 = .ok (.ishr, 1) := by decide +kernel
theorem dJ2_indexOf_4cfef_11 : decode cJ2_indexOf_4cfef 11 = .ok (.invokestatic 183, 3) := by decide +kernel
theorem dJ2_indexOf_4cfef_14 : decode cJ2_indexOf_4cfef 14 = .ok (.istore_n 3, 1) := by decide +kernel
theorem dJ2_indexOf_4cfef_15 : decode cJ2_indexOf_4cfef 15 = .ok (.iload_n 2, 1) := by decide +kernel
theorem dJ2_indexOf_4cfef_16 : decode cJ2_indexOf_4cfef 16 = .ok (.iload_n 3, 1) := by decide +kernel
theorem dJ2_indexOf_4cfef_17 : decode cJ2_indexOf_4cfef 17 = .ok (.if_icmp .lt 5, 3) := by decide +kernel
theorem dJ2_indexOf_4cfef_20 : decode cJ2_indexOf_4cfef 20 = .ok (.iconst (-1), 1) := by decide +kernel
theorem dJ2_indexOf_4cfef_21 : decode cJ2_indexOf_4cfef 21 = .ok (.ireturn, 1) := by decide +kernel
theorem dJ2_indexOf_4cfef_22 : decode cJ2_indexOf_4cfef 22 = .ok (.iload_n 1, 1) := by decide +kernel
theorem dJ2_indexOf_4cfef_23 : decode cJ2_indexOf_4cfef 23 = .ok (.ldc 227, 2) := by decide +kernel
theorem dJ2_indexOf_4cfef_25 : decode cJ2_indexOf_4cfef 25 = .ok (.if_icmp .ge 11, 3) := by decide +kernel
theorem dJ2_indexOf_4cfef_28 : decode cJ2_indexOf_4cfef 28 = .ok (.aload_n 0, 1) := by decide +kernel
theorem dJ2_indexOf_4cfef_29 : decode cJ2_indexOf_4cfef 29 = .ok (.iload_n 1, 1) := by decide +kernel
theorem dJ2_indexOf_4cfef_30 : decode cJ2_indexOf_4cfef 30 = .ok (.iload_n 2, 1) := by decide +kernel
theorem dJ2_indexOf_4cfef_31 : decode cJ2_indexOf_4cfef 31 = .ok (.iload_n 3, 1) := by decide +kernel
theorem dJ2_indexOf_4cfef_32 : decode cJ2_indexOf_4cfef 32 = .ok (.invokestatic 228, 3) := by decide +kernel
theorem dJ2_indexOf_4cfef_35 : decode cJ2_indexOf_4cfef 35 = .ok (.ireturn, 1) := by decide +kernel
theorem dJ2_indexOf_4cfef_36 : decode cJ2_indexOf_4cfef 36 = .ok (.aload_n 0, 1) := by decide +kernel
theorem dJ2_indexOf_4cfef_37 : decode cJ2_indexOf_4cfef 37 = .ok (.iload_n 1, 1) := by decide +kernel
theorem dJ2_indexOf_4cfef_38 : decode cJ2_indexOf_4cfef 38 = .ok (.iload_n 2, 1) := by decide +kernel
theorem dJ2_indexOf_4cfef_39 : decode cJ2_indexOf_4cfef 39 = .ok (.iload_n 3, 1) := by decide +kernel
theorem dJ2_indexOf_4cfef_40 : decode cJ2_indexOf_4cfef 40 = .ok (.invokestatic 232, 3) := by decide +kernel
theorem dJ2_indexOf_4cfef_43 : decode cJ2_indexOf_4cfef 43 = .ok (.ireturn, 1) := by decide +kernel
theorem dJ2_indexOfChar_4cfef_0 : decode cJ2_indexOfChar_4cfef 0 = .ok (.iload_n 2, 1) := by decide +kernel
theorem dJ2_indexOfChar_4cfef_1 : decode cJ2_indexOfChar_4cfef 1 = .ok (.iload_n 3, 1) := by decide +kernel
theorem dJ2_indexOfChar_4cfef_2 : decode cJ2_indexOfChar_4cfef 2 = .ok (.aload_n 0, 1) := by decide +kernel
theorem dJ2_indexOfChar_4cfef_3 : decode cJ2_indexOfChar_4cfef 3 = .ok (.invokestatic 96, 3) := by decide +kernel
theorem dJ2_indexOfChar_4cfef_6 : decode cJ2_indexOfChar_4cfef 6 = .ok (.aload_n 0, 1) := by decide +kernel
theorem dJ2_indexOfChar_4cfef_7 : decode cJ2_indexOfChar_4cfef 7 = .ok (.iload_n 1, 1) := by decide +kernel
theorem dJ2_indexOfChar_4cfef_8 : decode cJ2_indexOfChar_4cfef 8 = .ok (.iload_n 2, 1) := by decide +kernel
theorem dJ2_indexOfChar_4cfef_9 : decode cJ2_indexOfChar_4cfef 9 = .ok (.iload_n 3, 1) := by decide +kernel
theorem dJ2_indexOfChar_4cfef_10 : decode cJ2_indexOfChar_4cfef 10 = .ok (.invokestatic 244, 3) := by decide +kernel
theorem dJ2_indexOfChar_4cfef_13 : decode cJ2_indexOfChar_4cfef 13 = .ok (.ireturn, 1) := by decide +kernel
theorem dJ2_indexOfCharUnsafe_4cfef_0 : decode cJ2_indexOfCharUnsafe_4cfef 0 = .ok (.iload_n 2, 1) := by decide +kernel
theorem dJ2_indexOfCharUnsafe_4cfef_1 : decode cJ2_indexOfCharUnsafe_4cfef 1 = .ok (.istore 4, 2) := by decide +kernel
theorem dJ2_indexOfCharUnsafe_4cfef_3 : decode cJ2_indexOfCharUnsafe_4cfef 3 = .ok (.iload 4, 2) := by decide +kernel
theorem dJ2_indexOfCharUnsafe_4cfef_5 : decode cJ2_indexOfCharUnsafe_4cfef 5 = .ok (.iload_n 3, 1) := by decide +kernel
theorem dJ2_indexOfCharUnsafe_4cfef_6 : decode cJ2_indexOfCharUnsafe_4cfef 6 = .ok (.if_icmp .ge 22, 3) := by decide +kernel
theorem dJ2_indexOfCharUnsafe_4cfef_9 : decode cJ2_indexOfCharUnsafe_4cfef 9 = .ok (.aload_n 0, 1) := by decide +kernel
theorem dJ2_indexOfCharUnsafe_4cfef_10 : decode cJ2_indexOfCharUnsafe_4cfef 10 = .ok (.iload 4, 2) := by decide +kernel
theorem dJ2_indexOfCharUnsafe_4cfef_12 : decode cJ2_indexOfCharUnsafe_4cfef 12 = .ok (.invokestatic 71, 3) := by decide +kernel
theorem dJ2_indexOfCharUnsafe_4cfef_15 : decode cJ2_indexOfCharUnsafe_4cfef 15 = .ok (.iload_n 1, 1) := by decide +kernel
theorem dJ2_indexOfCharUnsafe_4cfef_16 : decode cJ2_indexOfCharUnsafe_4cfef 16 = .ok (.if_icmp .ne 6, 3) := by decide +kernel
theorem dJ2_indexOfCharUnsafe_4cfef_19 : decode cJ2_indexOfCharUnsafe_4cfef 19 = .ok (.iload 4, 2) := by decide +kernel
theorem dJ2_indexOfCharUnsafe_4cfef_21 : decode cJ2_indexOfCharUnsafe_4cfef 21 = .ok (.ireturn, 1) := by decide +kernel
theorem dJ2_indexOfCharUnsafe_4cfef_22 : decode cJ2_indexOfCharUnsafe_4cfef 22 = .ok (.iinc 4 1, 3) := by decide +kernel
theorem dJ2_indexOfCharUnsafe_4cfef_25 : decode cJ2_indexOfCharUnsafe_4cfef 25 = .ok (.goto (-22), 3) := by decide +kernel
theorem dJ2_indexOfCharUnsafe_4cfef_28 : decode cJ2_indexOfCharUnsafe_4cfef 28 = .ok (.iconst (-1), 1) := by decide +kernel
theorem dJ2_indexOfCharUnsafe_4cfef_29 : decode cJ2_indexOfCharUnsafe_4cfef 29 = .ok (.ireturn, 1) := by decide +kernel
theorem dJ2_indexOfSupplementary_4cfef_0 : decode cJ2_indexOfSupplementary_4cfef 0 = .ok (.iload_n 1, 1) := by decide +kernel
theorem dJ2_indexOfSupplementary_4cfef_1 : decode cJ2_indexOfSupplementary_4cfef 1 = .ok (.invokestatic 164, 3) := by decide +kernel
theorem dJ2_indexOfSupplementary_4cfef_4 : decode cJ2_indexOfSupplementary_4cfef 4 = .ok (.ifCond .eq 65, 3) := by decide +kernel
theorem dJ2_indexOfSupplementary_4cfef_7 : decode cJ2_indexOfSupplementary_4cfef 7 = .ok (.iload_n 1, 1) := by decide +kernel
theorem dJ2_indexOfSupplementary_4cfef_8 : decode cJ2_indexOfSupplementary_4cfef 8 = .ok (.invokestatic 157, 3) := by decide +kernel
theorem dJ2_indexOfSupplementary_4cfef_11 : decode cJ2_indexOfSupplementary_4cfef 11 = .ok (.istore 4, 2) := by decide +kernel
theorem dJ2_indexOfSupplementary_4cfef_13 : decode cJ2_indexOfSupplementary_4cfef 13 = .ok (.iload_n 1, 1) := by decide +kernel
theorem dJ2_indexOfSupplementary_4cfef_14 : decode cJ2_indexOfSupplementary_4cfef 14 = .ok (.invokestatic 161, 3) := by decide +kernel
theorem dJ2_indexOfSupplementary_4cfef_17 : decode cJ2_indexOfSupplementary_4cfef 17 = .ok (.istore 5, 2) := by decide +kernel
theorem dJ2_indexOfSupplementary_4cfef_19 : decode cJ2_indexOfSupplementary_4cfef 19 = .ok (.iload_n 2, 1) := by decide +kernel
theorem dJ2_indexOfSupplementary_4cfef_20 : decode cJ2_indexOfSupplementary_4cfef 20 = .ok (.iload_n 3, 1) := by decide +kernel
theorem dJ2_indexOfSupplementary_4cfef_21 : decode cJ2_indexOfSupplementary_4cfef 21 = .ok (.aload_n 0, 1) := by decide +kernel
theorem dJ2_indexOfSupplementary_4cfef_22 : decode cJ2_indexOfSupplementary_4cfef 22 = .ok (.invokestatic 96, 3) := by decide +kernel
theorem dJ2_indexOfSupplementary_4cfef_25 : decode cJ2_indexOfSupplementary_4cfef 25 = .ok (.iload_n 2, 1) := by decide +kernel
theorem dJ2_indexOfSupplementary_4cfef_26 : decode cJ2_indexOfSupplementary_4cfef 26 = .ok (.istore 6, 2) := by decide +kernel
theorem dJ2_indexOfSupplementary_4cfef_28 : decode cJ2_indexOfSupplementary_4cfef 28 = .ok (.iload 6, 2) := by decide +kernel
theorem dJ2_indexOfSupplementary_4cfef_30 : decode cJ2_indexOfSupplementary_4cfef 30 = .ok (.iload_n 3, 1) := by decide +kernel
theorem dJ2_indexOfSupplementary_4cfef_31 : decode cJ2_indexOfSupplementary_4cfef 31 = .ok (.iconst 1, 1) := by decide +kernel
theorem dJ2_indexOfSupplementary_4cfef_32 : decode cJ2_indexOfSupplementary_4cfef 32 = .ok (.isub, 1) := by decide +kernel
theorem dJ2_indexOfSupplementary_4cfef_33 : decode cJ2_indexOfSupplementary_4cfef 33 = .ok (.if_icmp .ge 36, 3) := by decide +kernel
theorem dJ2_indexOfSupplementary_4cfef_36 : decode cJ2_indexOfSupplementary_4cfef 36 = .ok (.aload_n 0, 1) := by decide +kernel
theorem dJ2_indexOfSupplementary_4cfef_37 : decode cJ2_indexOfSupplementary_4cfef 37 = .ok (.iload 6, 2) := by decide +kernel
theorem dJ2_indexOfSupplementary_4cfef_39 : decode cJ2_indexOfSupplementary_4cfef 39 = .ok (.invokestatic 71, 3) := by decide +kernel
theorem dJ2_indexOfSupplementary_4cfef_42 : decode cJ2_indexOfSupplementary_4cfef 42 = .ok (.iload 4, 2) := by decide +kernel
theorem dJ2_indexOfSupplementary_4cfef_44 : decode cJ2_indexOfSupplementary_4cfef 44 = .ok (.if_icmp .ne 19, 3) := by decide +kernel
theorem dJ2_indexOfSupplementary_4cfef_47 : decode cJ2_indexOfSupplementary_4cfef 47 = .ok (.aload_n 0, 1) := by decide +kernel
theorem dJ2_indexOfSupplementary_4cfef_48 : decode cJ2_indexOfSupplementary_4cfef 48 = .ok (.iload 6, 2) := by decide +kernel
theorem dJ2_indexOfSupplementary_4cfef_50 : decode cJ2_indexOfSupplementary_4cfef 50 = .ok (.iconst 1, 1) := by decide +kernel
theorem dJ2_indexOfSupplementary_4cfef_51 : decode cJ2_indexOfSupplementary_4cfef 51 = .ok (.iadd, 1) := by decide +kernel
theorem dJ2_indexOfSupplementary_4cfef_52 : decode cJ2_indexOfSupplementary_4cfef 52 = .ok (.invokestatic 71, 3) := by decide +kernel
theorem dJ2_indexOfSupplementary_4cfef_55 : decode cJ2_indexOfSupplementary_4cfef 55 = .ok (.iload 5, 2) := by decide +kernel
theorem dJ2_indexOfSupplementary_4cfef_57 : decode cJ2_indexOfSupplementary_4cfef 57 = .ok (.if_icmp .ne 6, 3) := by decide +kernel
theorem dJ2_indexOfSupplementary_4cfef_60 : decode cJ2_indexOfSupplementary_4cfef 60 = .ok (.iload 6, 2) := by decide +kernel
theorem dJ2_indexOfSupplementary_4cfef_62 : decode cJ2_indexOfSupplementary_4cfef 62 = .ok (.ireturn, 1) := by decide +kernel
theorem dJ2_indexOfSupplementary_4cfef_63 : decode cJ2_indexOfSupplementary_4cfef 63 = .ok (.iinc 6 1, 3) := by decide +kernel
theorem dJ2_indexOfSupplementary_4cfef_66 : decode cJ2_indexOfSupplementary_4cfef 66 = .ok (.goto (-38), 3) := by decide +kernel
theorem dJ2_indexOfSupplementary_4cfef_69 : decode cJ2_indexOfSupplementary_4cfef 69 = .ok (.iconst (-1), 1) := by decide +kernel
theorem dJ2_indexOfSupplementary_4cfef_70 : decode cJ2_indexOfSupplementary_4cfef 70 = .ok (.ireturn, 1) := by decide +kernel
theorem dJ2_charAt_3b067_0 : decode cJ2_charAt_3b067 0 = .ok (.iload_n 1, 1) := by decide +kernel
theorem dJ2_charAt_3b067_1 : decode cJ2_charAt_3b067 1 = .ok (.aload_n 0, 1) := by decide +kernel
theorem dJ2_charAt_3b067_2 : decode cJ2_charAt_3b067 2 = .ok (.invokestatic 67, 3) := by decide +kernel
theorem dJ2_charAt_3b067_5 : decode cJ2_charAt_3b067 5 = .ok (.aload_n 0, 1) := by decide +kernel
theorem dJ2_charAt_3b067_6 : decode cJ2_charAt_3b067 6 = .ok (.iload_n 1, 1) := by decide +kernel
theorem dJ2_charAt_3b067_7 : decode cJ2_charAt_3b067 7 = .ok (.invokestatic 71, 3) := by decide +kernel
theorem dJ2_charAt_3b067_10 : decode cJ2_charAt_3b067 10 = .ok (.ireturn, 1) := by decide +kernel
theorem dJ2_checkIndex_2214a_0 : decode cJ2_checkIndex_2214a 0 = .ok (.iload_n 0, 1) := by decide +kernel
theorem dJ2_checkIndex_2214a_1 : decode cJ2_checkIndex_2214a 1 = .ok (.aload_n 1, 1) := by decide +kernel
theorem dJ2_checkIndex_2214a_2 : decode cJ2_checkIndex_2214a 2 = .ok (.invokestatic 48, 3) := by decide +kernel
theorem dJ2_checkIndex_2214a_5 : decode cJ2_checkIndex_2214a 5 = .ok (.invokestatic 414, 3) := by decide +kernel
theorem dJ2_checkIndex_2214a_8 : decode cJ2_checkIndex_2214a 8 = .ok (.return_, 1) := by decide +kernel
theorem dJ2_checkBoundsBeginEnd_d044e_0 : decode cJ2_checkBoundsBeginEnd_d044e 0 = .ok (.iload_n 0, 1) := by decide +kernel
theorem dJ2_checkBoundsBeginEnd_d044e_1 : decode cJ2_checkBoundsBeginEnd_d044e 1 = .ok (.iload_n 1, 1) := by decide +kernel
theorem dJ2_checkBoundsBeginEnd_d044e_2 : decode cJ2_checkBoundsBeginEnd_d044e 2 = .ok (.aload_n 2, 1) := by decide +kernel
theorem dJ2_checkBoundsBeginEnd_d044e_3 : decode cJ2_checkBoundsBeginEnd_d044e 3 = .ok (.invokestatic 48, 3) := by decide +kernel
theorem dJ2_checkBoundsBeginEnd_d044e_6 : decode cJ2_checkBoundsBeginEnd_d044e 6 = .ok (.invokestatic 241, 3) := by decide +kernel
theorem dJ2_checkBoundsBeginEnd_d044e_9 : decode cJ2_checkBoundsBeginEnd_d044e 9 = .ok (.return_, 1) := by decide +kernel
theorem dJ3_checkIndex_8e157_0 : decode cJ3_checkIndex_8e157 0 = .ok (.iload_n 0, 1) := by decide +kernel
theorem dJ3_checkIndex_8e157_1 : decode cJ3_checkIndex_8e157 1 = .ok (.ifCond .lt 8, 3) := by decide +kernel
theorem dJ3_checkIndex_8e157_4 : decode cJ3_checkIndex_8e157 4 = .ok (.iload_n 0, 1) := by decide +kernel
theorem dJ3_checkIndex_8e157_5 : decode cJ3_checkIndex_8e157 5 = .ok (.iload_n 1, 1) := by decide +kernel
theorem dJ3_checkIndex_8e157_6 : decode cJ3_checkIndex_8e157 6 = .ok (.if_icmp .lt 10, 3) := by decide +kernel
theorem dJ3_checkIndex_8e157_9 : decode cJ3_checkIndex_8e157 9 = .ok (.aload_n 2, 1) := by decide +kernel
theorem dJ3_checkIndex_8e157_10 : decode cJ3_checkIndex_8e157 10 = .ok (.iload_n 0, 1) := by decide +kernel
theorem dJ3_checkIndex_8e157_11 : decode cJ3_checkIndex_8e157 11 = .ok (.iload_n 1, 1) := by decide +kernel
theorem dJ3_checkIndex_8e157_12 : decode cJ3_checkIndex_8e157 12 = .ok (.invokestatic 95, 3) := by decide +kernel
theorem dJ3_checkIndex_8e157_15 : decode cJ3_checkIndex_8e157 15 = .ok (.athrow, 1) := by decide +kernel
theorem dJ3_checkIndex_8e157_16 : decode cJ3_checkIndex_8e157 16 = .ok (.iload_n 0, 1) := by decide +kernel
theorem dJ3_checkIndex_8e157_17 : decode cJ3_checkIndex_8e157 17 = .ok (.ireturn, 1) := by decide +kernel
theorem dJ3_checkFromToIndex_8c36e_0 : decode cJ3_checkFromToIndex_8c36e 0 = .ok (.iload_n 0, 1) := by decide +kernel
theorem dJ3_checkFromToIndex_8c36e_1 : decode cJ3_checkFromToIndex_8c36e 1 = .ok (.ifCond .lt 13, 3) := by decide +kernel
theorem dJ3_checkFromToIndex_8c36e_4 : decode cJ3_checkFromToIndex_8c36e 4 = .ok (.iload_n 0, 1) := by decide +kernel
theorem dJ3_checkFromToIndex_8c36e_5 : decode cJ3_checkFromToIndex_8c36e 5 = .ok (.iload_n 1, 1) := by decide +kernel
theorem dJ3_checkFromToIndex_8c36e_6 : decode cJ3_checkFromToIndex_8c36e 6 = .ok (.if_icmp .gt 8, 3) := by decide +kernel
theorem dJ3_checkFromToIndex_8c36e_9 : decode cJ3_checkFromToIndex_8c36e 9 = .ok (.iload_n 1, 1) := by decide +kernel
theorem dJ3_checkFromToIndex_8c36e_10 : decode cJ3_checkFromToIndex_8c36e 10 = .ok (.iload_n 2, 1) := by decide +kernel
theorem dJ3_checkFromToIndex_8c36e_11 : decode cJ3_checkFromToIndex_8c36e 11 = .ok (.if_icmp .le 11, 3) := by decide +kernel
theorem dJ3_checkFromToIndex_8c36e_14 : decode cJ3_checkFromToIndex_8c36e 14 = .ok (.aload_n 3, 1) := by decide +kernel
theorem dJ3_checkFromToIndex_8c36e_15 : decode cJ3_checkFromToIndex_8c36e 15 = .ok (.iload_n 0, 1) := by decide +kernel
theorem dJ3_checkFromToIndex_8c36e_16 : decode cJ3_checkFromToIndex_8c36e 16 = .ok (.iload_n 1, 1) := by decide +kernel
theorem dJ3_checkFromToIndex_8c36e_17 : decode cJ3_checkFromToIndex_8c36e 17 = .ok (.iload_n 2, 1) := by decide +kernel
theorem dJ3_checkFromToIndex_8c36e_18 : decode cJ3_checkFromToIndex_8c36e 18 = .ok (.invokestatic 99, 3) := by decide +kernel
theorem dJ3_checkFromToIndex_8c36e_21 : decode cJ3_checkFromToIndex_8c36e 21 = .ok (.athrow, 1) := by decide +kernel
theorem dJ3_checkFromToIndex_8c36e_22 : decode cJ3_checkFromToIndex_8c36e 22 = .ok (.iload_n 0, 1) := by decide +kernel
theorem dJ3_checkFromToIndex_8c36e_23 : decode cJ3_checkFromToIndex_8c36e 23 = .ok (.ireturn, 1) := by decide +kernel
theorem dL_append_0 : decode cL_append 0 = .ok (.aload_n 2, 1) := by decide +kernel
theorem dL_append_1 : decode cL_append 1 = .ok (.iconst 0, 1) := by decide +kernel
theorem dL_append_2 : decode cL_append 2 = .ok (.aload_n 0, 1) := by decide +kernel
theorem dL_append_3 : decode cL_append 3 = .ok (.iload_n 1, 1) := by decide +kernel
theorem dL_append_4 : decode cL_append 4 = .ok (.invokevirtual 7, 3) := by decide +kernel
theorem dL_append_7 : decode cL_append 7 = .ok (.i2l, 1) := by decide +kernel
theorem dL_append_8 : decode cL_append 8 = .ok (.lastore, 1) := by decide +kernel
theorem dL_append_9 : decode cL_append 9 = .ok (.goto 9, 3) := by decide +kernel
theorem dL_append_12 : decode cL_append 12 = .ok (.astore_n 3, 1) := by decide +kernel
theorem dL_append_13 : decode cL_append 13 = .ok (.iconst 1, 1) := by decide +kernel
theorem dL_append_14 : decode cL_append 14 = .ok (.ireturn, 1) := by decide +kernel
theorem dL_append_15 : decode cL_append 15 = .ok (.astore_n 3, 1) := by decide +kernel
theorem dL_append_16 : decode cL_append 16 = .ok (.iconst 2, 1) := by decide +kernel
theorem dL_append_17 : decode cL_append 17 = .ok (.ireturn, 1) := by decide +kernel
theorem dL_append_18 : decode cL_append 18 = .ok (.iconst 0, 1) := by decide +kernel
theorem dL_append_19 : decode cL_append 19 = .ok (.ireturn, 1) := by decide +kernel
theorem dL_cantus_0 : decode cL_cantus 0 = .ok (.aload_n 1, 1) := by decide +kernel
theorem dL_cantus_1 : decode cL_cantus 1 = .ok (.iconst 0, 1) := by decide +kernel
theorem dL_cantus_2 : decode cL_cantus 2 = .ok (.aload_n 0, 1) := by decide +kernel
theorem dL_cantus_3 : decode cL_cantus 3 = .ok (.invokevirtual 17, 3) := by decide +kernel
theorem dL_cantus_6 : decode cL_cantus 6 = .ok (.i2l, 1) := by decide +kernel
theorem dL_cantus_7 : decode cL_cantus 7 = .ok (.lastore, 1) := by decide +kernel
theorem dL_cantus_8 : decode cL_cantus 8 = .ok (.goto 6, 3) := by decide +kernel
theorem dL_cantus_11 : decode cL_cantus 11 = .ok (.astore_n 2, 1) := by decide +kernel
theorem dL_cantus_12 : decode cL_cantus 12 = .ok (.iconst 1, 1) := by decide +kernel
theorem dL_cantus_13 : decode cL_cantus 13 = .ok (.ireturn, 1) := by decide +kernel
theorem dL_cantus_14 : decode cL_cantus 14 = .ok (.iconst 0, 1) := by decide +kernel
theorem dL_cantus_15 : decode cL_cantus 15 = .ok (.ireturn, 1) := by decide +kernel
theorem dL_counterpoint_0 : decode cL_counterpoint 0 = .ok (.aload_n 1, 1) := by decide +kernel
theorem dL_counterpoint_1 : decode cL_counterpoint 1 = .ok (.iconst 0, 1) := by decide +kernel
theorem dL_counterpoint_2 : decode cL_counterpoint 2 = .ok (.aload_n 0, 1) := by decide +kernel
theorem dL_counterpoint_3 : decode cL_counterpoint 3 = .ok (.invokevirtual 21, 3) := by decide +kernel
theorem dL_counterpoint_6 : decode cL_counterpoint 6 = .ok (.i2l, 1) := by decide +kernel
theorem dL_counterpoint_7 : decode cL_counterpoint 7 = .ok (.lastore, 1) := by decide +kernel
theorem dL_counterpoint_8 : decode cL_counterpoint 8 = .ok (.goto 9, 3) := by decide +kernel
theorem dL_counterpoint_11 : decode cL_counterpoint 11 = .ok (.astore_n 2, 1) := by decide +kernel
theorem dL_counterpoint_12 : decode cL_counterpoint 12 = .ok (.iconst 1, 1) := by decide +kernel
theorem dL_counterpoint_13 : decode cL_counterpoint 13 = .ok (.ireturn, 1) := by decide +kernel
theorem dL_counterpoint_14 : decode cL_counterpoint 14 = .ok (.astore_n 2, 1) := by decide +kernel
theorem dL_counterpoint_15 : decode cL_counterpoint 15 = .ok (.iconst 2, 1) := by decide +kernel
theorem dL_counterpoint_16 : decode cL_counterpoint 16 = .ok (.ireturn, 1) := by decide +kernel
theorem dL_counterpoint_17 : decode cL_counterpoint 17 = .ok (.iconst 0, 1) := by decide +kernel
theorem dL_counterpoint_18 : decode cL_counterpoint 18 = .ok (.ireturn, 1) := by decide +kernel
theorem dL_setSpecies_0 : decode cL_setSpecies 0 = .ok (.aload_n 2, 1) := by decide +kernel
theorem dL_setSpecies_1 : decode cL_setSpecies 1 = .ok (.iconst 0, 1) := by decide +kernel
theorem dL_setSpecies_2 : decode cL_setSpecies 2 = .ok (.aload_n 0, 1) := by decide +kernel
theorem dL_setSpecies_3 : decode cL_setSpecies 3 = .ok (.iload_n 1, 1) := by decide +kernel
theorem dL_setSpecies_4 : decode cL_setSpecies 4 = .ok (.invokevirtual 24, 3) := by decide +kernel
theorem dL_setSpecies_7 : decode cL_setSpecies 7 = .ok (.i2l, 1) := by decide +kernel
theorem dL_setSpecies_8 : decode cL_setSpecies 8 = .ok (.lastore, 1) := by decide +kernel
theorem dL_setSpecies_9 : decode cL_setSpecies 9 = .ok (.goto 6, 3) := by decide +kernel
theorem dL_setSpecies_12 : decode cL_setSpecies 12 = .ok (.astore_n 3, 1) := by decide +kernel
theorem dL_setSpecies_13 : decode cL_setSpecies 13 = .ok (.iconst 1, 1) := by decide +kernel
theorem dL_setSpecies_14 : decode cL_setSpecies 14 = .ok (.ireturn, 1) := by decide +kernel
theorem dL_setSpecies_15 : decode cL_setSpecies 15 = .ok (.iconst 0, 1) := by decide +kernel
theorem dL_setSpecies_16 : decode cL_setSpecies 16 = .ok (.ireturn, 1) := by decide +kernel
theorem dL_set_0 : decode cL_set 0 = .ok (.aload_n 3, 1) := by decide +kernel
theorem dL_set_1 : decode cL_set 1 = .ok (.iconst 0, 1) := by decide +kernel
theorem dL_set_2 : decode cL_set 2 = .ok (.aload_n 0, 1) := by decide +kernel
theorem dL_set_3 : decode cL_set 3 = .ok (.iload_n 1, 1) := by decide +kernel
theorem dL_set_4 : decode cL_set 4 = .ok (.iload_n 2, 1) := by decide +kernel
theorem dL_set_5 : decode cL_set 5 = .ok (.invokevirtual 27, 3) := by decide +kernel
theorem dL_set_8 : decode cL_set 8 = .ok (.i2l, 1) := by decide +kernel
theorem dL_set_9 : decode cL_set 9 = .ok (.lastore, 1) := by decide +kernel
theorem dL_set_10 : decode cL_set 10 = .ok (.goto 11, 3) := by decide +kernel
theorem dL_set_13 : decode cL_set 13 = .ok (.astore 4, 2) := by decide +kernel
theorem dL_set_15 : decode cL_set 15 = .ok (.iconst 1, 1) := by decide +kernel
theorem dL_set_16 : decode cL_set 16 = .ok (.ireturn, 1) := by decide +kernel
theorem dL_set_17 : decode cL_set 17 = .ok (.astore 4, 2) := by decide +kernel
theorem dL_set_19 : decode cL_set 19 = .ok (.iconst 2, 1) := by decide +kernel
theorem dL_set_20 : decode cL_set 20 = .ok (.ireturn, 1) := by decide +kernel
theorem dL_set_21 : decode cL_set 21 = .ok (.iconst 0, 1) := by decide +kernel
theorem dL_set_22 : decode cL_set 22 = .ok (.ireturn, 1) := by decide +kernel
theorem dL_setNote_0 : decode cL_setNote 0 = .ok (.aload 4, 2) := by decide +kernel
theorem dL_setNote_2 : decode cL_setNote 2 = .ok (.iconst 0, 1) := by decide +kernel
theorem dL_setNote_3 : decode cL_setNote 3 = .ok (.aload_n 0, 1) := by decide +kernel
theorem dL_setNote_4 : decode cL_setNote 4 = .ok (.iload_n 1, 1) := by decide +kernel
theorem dL_setNote_5 : decode cL_setNote 5 = .ok (.iload_n 2, 1) := by decide +kernel
theorem dL_setNote_6 : decode cL_setNote 6 = .ok (.iload_n 3, 1) := by decide +kernel
theorem dL_setNote_7 : decode cL_setNote 7 = .ok (.invokevirtual 33, 3) := by decide +kernel
theorem dL_setNote_10 : decode cL_setNote 10 = .ok (.i2l, 1) := by decide +kernel
theorem dL_setNote_11 : decode cL_setNote 11 = .ok (.lastore, 1) := by decide +kernel
theorem dL_setNote_12 : decode cL_setNote 12 = .ok (.goto 19, 3) := by decide +kernel
theorem dL_setNote_15 : decode cL_setNote 15 = .ok (.astore 5, 2) := by decide +kernel
theorem dL_setNote_17 : decode cL_setNote 17 = .ok (.iconst 1, 1) := by decide +kernel
theorem dL_setNote_18 : decode cL_setNote 18 = .ok (.ireturn, 1) := by decide +kernel
theorem dL_setNote_19 : decode cL_setNote 19 = .ok (.astore 5, 2) := by decide +kernel
theorem dL_setNote_21 : decode cL_setNote 21 = .ok (.iconst 2, 1) := by decide +kernel
theorem dL_setNote_22 : decode cL_setNote 22 = .ok (.ireturn, 1) := by decide +kernel
theorem dL_setNote_23 : decode cL_setNote 23 = .ok (.astore 5, 2) := by decide +kernel
theorem dL_setNote_25 : decode cL_setNote 25 = .ok (.iconst 3, 1) := by decide +kernel
theorem dL_setNote_26 : decode cL_setNote 26 = .ok (.ireturn, 1) := by decide +kernel
theorem dL_setNote_27 : decode cL_setNote 27 = .ok (.astore 5, 2) := by decide +kernel
theorem dL_setNote_29 : decode cL_setNote 29 = .ok (.iconst 4, 1) := by decide +kernel
theorem dL_setNote_30 : decode cL_setNote 30 = .ok (.ireturn, 1) := by decide +kernel
theorem dL_setNote_31 : decode cL_setNote 31 = .ok (.iconst 0, 1) := by decide +kernel
theorem dL_setNote_32 : decode cL_setNote 32 = .ok (.ireturn, 1) := by decide +kernel
theorem dL_note_0 : decode cL_note 0 = .ok (.aload_n 3, 1) := by decide +kernel
theorem dL_note_1 : decode cL_note 1 = .ok (.iconst 0, 1) := by decide +kernel
theorem dL_note_2 : decode cL_note 2 = .ok (.aload_n 0, 1) := by decide +kernel
theorem dL_note_3 : decode cL_note 3 = .ok (.iload_n 1, 1) := by decide +kernel
theorem dL_note_4 : decode cL_note 4 = .ok (.iload_n 2, 1) := by decide +kernel
theorem dL_note_5 : decode cL_note 5 = .ok (.invokevirtual 39, 3) := by decide +kernel
theorem dL_note_8 : decode cL_note 8 = .ok (.i2l, 1) := by decide +kernel
theorem dL_note_9 : decode cL_note 9 = .ok (.lastore, 1) := by decide +kernel
theorem dL_note_10 : decode cL_note 10 = .ok (.goto 11, 3) := by decide +kernel
theorem dL_note_13 : decode cL_note 13 = .ok (.astore 4, 2) := by decide +kernel
theorem dL_note_15 : decode cL_note 15 = .ok (.iconst 1, 1) := by decide +kernel
theorem dL_note_16 : decode cL_note 16 = .ok (.ireturn, 1) := by decide +kernel
theorem dL_note_17 : decode cL_note 17 = .ok (.astore 4, 2) := by decide +kernel
theorem dL_note_19 : decode cL_note 19 = .ok (.iconst 2, 1) := by decide +kernel
theorem dL_note_20 : decode cL_note 20 = .ok (.ireturn, 1) := by decide +kernel
theorem dL_note_21 : decode cL_note 21 = .ok (.iconst 0, 1) := by decide +kernel
theorem dL_note_22 : decode cL_note 22 = .ok (.ireturn, 1) := by decide +kernel
theorem dL_noteOf_0 : decode cL_noteOf 0 = .ok (.aload_n 3, 1) := by decide +kernel
theorem dL_noteOf_1 : decode cL_noteOf 1 = .ok (.iconst 0, 1) := by decide +kernel
theorem dL_noteOf_2 : decode cL_noteOf 2 = .ok (.aload_n 0, 1) := by decide +kernel
theorem dL_noteOf_3 : decode cL_noteOf 3 = .ok (.iload_n 1, 1) := by decide +kernel
theorem dL_noteOf_4 : decode cL_noteOf 4 = .ok (.iload_n 2, 1) := by decide +kernel
theorem dL_noteOf_5 : decode cL_noteOf 5 = .ok (.invokevirtual 42, 3) := by decide +kernel
theorem dL_noteOf_8 : decode cL_noteOf 8 = .ok (.i2l, 1) := by decide +kernel
theorem dL_noteOf_9 : decode cL_noteOf 9 = .ok (.lastore, 1) := by decide +kernel
theorem dL_noteOf_10 : decode cL_noteOf 10 = .ok (.goto 11, 3) := by decide +kernel
theorem dL_noteOf_13 : decode cL_noteOf 13 = .ok (.astore 4, 2) := by decide +kernel
theorem dL_noteOf_15 : decode cL_noteOf 15 = .ok (.iconst 1, 1) := by decide +kernel
theorem dL_noteOf_16 : decode cL_noteOf 16 = .ok (.ireturn, 1) := by decide +kernel
theorem dL_noteOf_17 : decode cL_noteOf 17 = .ok (.astore 4, 2) := by decide +kernel
theorem dL_noteOf_19 : decode cL_noteOf 19 = .ok (.iconst 2, 1) := by decide +kernel
theorem dL_noteOf_20 : decode cL_noteOf 20 = .ok (.ireturn, 1) := by decide +kernel
theorem dL_noteOf_21 : decode cL_noteOf 21 = .ok (.iconst 0, 1) := by decide +kernel
theorem dL_noteOf_22 : decode cL_noteOf 22 = .ok (.ireturn, 1) := by decide +kernel
theorem dL_text_0 : decode cL_text 0 = .ok (.aload_n 3, 1) := by decide +kernel
theorem dL_text_1 : decode cL_text 1 = .ok (.iconst 0, 1) := by decide +kernel
theorem dL_text_2 : decode cL_text 2 = .ok (.aload_n 0, 1) := by decide +kernel
theorem dL_text_3 : decode cL_text 3 = .ok (.iload_n 1, 1) := by decide +kernel
theorem dL_text_4 : decode cL_text 4 = .ok (.iload_n 2, 1) := by decide +kernel
theorem dL_text_5 : decode cL_text 5 = .ok (.invokevirtual 45, 3) := by decide +kernel
theorem dL_text_8 : decode cL_text 8 = .ok (.i2l, 1) := by decide +kernel
theorem dL_text_9 : decode cL_text 9 = .ok (.lastore, 1) := by decide +kernel
theorem dL_text_10 : decode cL_text 10 = .ok (.goto 11, 3) := by decide +kernel
theorem dL_text_13 : decode cL_text 13 = .ok (.astore 4, 2) := by decide +kernel
theorem dL_text_15 : decode cL_text 15 = .ok (.iconst 1, 1) := by decide +kernel
theorem dL_text_16 : decode cL_text 16 = .ok (.ireturn, 1) := by decide +kernel
theorem dL_text_17 : decode cL_text 17 = .ok (.astore 4, 2) := by decide +kernel
theorem dL_text_19 : decode cL_text 19 = .ok (.iconst 2, 1) := by decide +kernel
theorem dL_text_20 : decode cL_text 20 = .ok (.ireturn, 1) := by decide +kernel
theorem dL_text_21 : decode cL_text 21 = .ok (.iconst 0, 1) := by decide +kernel
theorem dL_text_22 : decode cL_text 22 = .ok (.ireturn, 1) := by decide +kernel
theorem dL_interval_0 : decode cL_interval 0 = .ok (.aload 4, 2) := by decide +kernel
theorem dL_interval_2 : decode cL_interval 2 = .ok (.iconst 0, 1) := by decide +kernel
theorem dL_interval_3 : decode cL_interval 3 = .ok (.aload_n 0, 1) := by decide +kernel
theorem dL_interval_4 : decode cL_interval 4 = .ok (.iload_n 1, 1) := by decide +kernel
theorem dL_interval_5 : decode cL_interval 5 = .ok (.iload_n 2, 1) := by decide +kernel
theorem dL_interval_6 : decode cL_interval 6 = .ok (.iload_n 3, 1) := by decide +kernel
theorem dL_interval_7 : decode cL_interval 7 = .ok (.invokevirtual 49, 3) := by decide +kernel
theorem dL_interval_10 : decode cL_interval 10 = .ok (.i2l, 1) := by decide +kernel
theorem dL_interval_11 : decode cL_interval 11 = .ok (.lastore, 1) := by decide +kernel
theorem dL_interval_12 : decode cL_interval 12 = .ok (.goto 19, 3) := by decide +kernel
theorem dL_interval_15 : decode cL_interval 15 = .ok (.astore 5, 2) := by decide +kernel
theorem dL_interval_17 : decode cL_interval 17 = .ok (.iconst 1, 1) := by decide +kernel
theorem dL_interval_18 : decode cL_interval 18 = .ok (.ireturn, 1) := by decide +kernel
theorem dL_interval_19 : decode cL_interval 19 = .ok (.astore 5, 2) := by decide +kernel
theorem dL_interval_21 : decode cL_interval 21 = .ok (.iconst 2, 1) := by decide +kernel
theorem dL_interval_22 : decode cL_interval 22 = .ok (.ireturn, 1) := by decide +kernel
theorem dL_interval_23 : decode cL_interval 23 = .ok (.astore 5, 2) := by decide +kernel
theorem dL_interval_25 : decode cL_interval 25 = .ok (.iconst 3, 1) := by decide +kernel
theorem dL_interval_26 : decode cL_interval 26 = .ok (.ireturn, 1) := by decide +kernel
theorem dL_interval_27 : decode cL_interval 27 = .ok (.astore 5, 2) := by decide +kernel
theorem dL_interval_29 : decode cL_interval 29 = .ok (.iconst 4, 1) := by decide +kernel
theorem dL_interval_30 : decode cL_interval 30 = .ok (.ireturn, 1) := by decide +kernel
theorem dL_interval_31 : decode cL_interval 31 = .ok (.iconst 0, 1) := by decide +kernel
theorem dL_interval_32 : decode cL_interval 32 = .ok (.ireturn, 1) := by decide +kernel
theorem dL_motion_0 : decode cL_motion 0 = .ok (.aload_n 2, 1) := by decide +kernel
theorem dL_motion_1 : decode cL_motion 1 = .ok (.iconst 0, 1) := by decide +kernel
theorem dL_motion_2 : decode cL_motion 2 = .ok (.aload_n 0, 1) := by decide +kernel
theorem dL_motion_3 : decode cL_motion 3 = .ok (.iload_n 1, 1) := by decide +kernel
theorem dL_motion_4 : decode cL_motion 4 = .ok (.invokevirtual 52, 3) := by decide +kernel
theorem dL_motion_7 : decode cL_motion 7 = .ok (.i2l, 1) := by decide +kernel
theorem dL_motion_8 : decode cL_motion 8 = .ok (.lastore, 1) := by decide +kernel
theorem dL_motion_9 : decode cL_motion 9 = .ok (.goto 12, 3) := by decide +kernel
theorem dL_motion_12 : decode cL_motion 12 = .ok (.astore_n 3, 1) := by decide +kernel
theorem dL_motion_13 : decode cL_motion 13 = .ok (.iconst 1, 1) := by decide +kernel
theorem dL_motion_14 : decode cL_motion 14 = .ok (.ireturn, 1) := by decide +kernel
theorem dL_motion_15 : decode cL_motion 15 = .ok (.astore_n 3, 1) := by decide +kernel
theorem dL_motion_16 : decode cL_motion 16 = .ok (.iconst 2, 1) := by decide +kernel
theorem dL_motion_17 : decode cL_motion 17 = .ok (.ireturn, 1) := by decide +kernel
theorem dL_motion_18 : decode cL_motion 18 = .ok (.astore_n 3, 1) := by decide +kernel
theorem dL_motion_19 : decode cL_motion 19 = .ok (.iconst 3, 1) := by decide +kernel
theorem dL_motion_20 : decode cL_motion 20 = .ok (.ireturn, 1) := by decide +kernel
theorem dL_motion_21 : decode cL_motion 21 = .ok (.iconst 0, 1) := by decide +kernel
theorem dL_motion_22 : decode cL_motion 22 = .ok (.ireturn, 1) := by decide +kernel
theorem dL_motions_0 : decode cL_motions 0 = .ok (.aload_n 2, 1) := by decide +kernel
theorem dL_motions_1 : decode cL_motions 1 = .ok (.iconst 0, 1) := by decide +kernel
theorem dL_motions_2 : decode cL_motions 2 = .ok (.aload_n 0, 1) := by decide +kernel
theorem dL_motions_3 : decode cL_motions 3 = .ok (.iload_n 1, 1) := by decide +kernel
theorem dL_motions_4 : decode cL_motions 4 = .ok (.invokevirtual 55, 3) := by decide +kernel
theorem dL_motions_7 : decode cL_motions 7 = .ok (.i2l, 1) := by decide +kernel
theorem dL_motions_8 : decode cL_motions 8 = .ok (.lastore, 1) := by decide +kernel
theorem dL_motions_9 : decode cL_motions 9 = .ok (.goto 9, 3) := by decide +kernel
theorem dL_motions_12 : decode cL_motions 12 = .ok (.astore_n 3, 1) := by decide +kernel
theorem dL_motions_13 : decode cL_motions 13 = .ok (.iconst 1, 1) := by decide +kernel
theorem dL_motions_14 : decode cL_motions 14 = .ok (.ireturn, 1) := by decide +kernel
theorem dL_motions_15 : decode cL_motions 15 = .ok (.astore_n 3, 1) := by decide +kernel
theorem dL_motions_16 : decode cL_motions 16 = .ok (.iconst 2, 1) := by decide +kernel
theorem dL_motions_17 : decode cL_motions 17 = .ok (.ireturn, 1) := by decide +kernel
theorem dL_motions_18 : decode cL_motions 18 = .ok (.iconst 0, 1) := by decide +kernel
theorem dL_motions_19 : decode cL_motions 19 = .ok (.ireturn, 1) := by decide +kernel
theorem dL_contraryBits_0 : decode cL_contraryBits 0 = .ok (.aload_n 1, 1) := by decide +kernel
theorem dL_contraryBits_1 : decode cL_contraryBits 1 = .ok (.iconst 0, 1) := by decide +kernel
theorem dL_contraryBits_2 : decode cL_contraryBits 2 = .ok (.aload_n 0, 1) := by decide +kernel
theorem dL_contraryBits_3 : decode cL_contraryBits 3 = .ok (.invokevirtual 58, 3) := by decide +kernel
theorem dL_contraryBits_6 : decode cL_contraryBits 6 = .ok (.i2l, 1) := by decide +kernel
theorem dL_contraryBits_7 : decode cL_contraryBits 7 = .ok (.lastore, 1) := by decide +kernel
theorem dL_contraryBits_8 : decode cL_contraryBits 8 = .ok (.goto 9, 3) := by decide +kernel
theorem dL_contraryBits_11 : decode cL_contraryBits 11 = .ok (.astore_n 2, 1) := by decide +kernel
theorem dL_contraryBits_12 : decode cL_contraryBits 12 = .ok (.iconst 1, 1) := by decide +kernel
theorem dL_contraryBits_13 : decode cL_contraryBits 13 = .ok (.ireturn, 1) := by decide +kernel
theorem dL_contraryBits_14 : decode cL_contraryBits 14 = .ok (.astore_n 2, 1) := by decide +kernel
theorem dL_contraryBits_15 : decode cL_contraryBits 15 = .ok (.iconst 2, 1) := by decide +kernel
theorem dL_contraryBits_16 : decode cL_contraryBits 16 = .ok (.ireturn, 1) := by decide +kernel
theorem dL_contraryBits_17 : decode cL_contraryBits 17 = .ok (.iconst 0, 1) := by decide +kernel
theorem dL_contraryBits_18 : decode cL_contraryBits 18 = .ok (.ireturn, 1) := by decide +kernel
theorem dL_meanBits_0 : decode cL_meanBits 0 = .ok (.aload_n 1, 1) := by decide +kernel
theorem dL_meanBits_1 : decode cL_meanBits 1 = .ok (.iconst 0, 1) := by decide +kernel
theorem dL_meanBits_2 : decode cL_meanBits 2 = .ok (.aload_n 0, 1) := by decide +kernel
theorem dL_meanBits_3 : decode cL_meanBits 3 = .ok (.invokevirtual 63, 3) := by decide +kernel
theorem dL_meanBits_6 : decode cL_meanBits 6 = .ok (.lastore, 1) := by decide +kernel
theorem dL_meanBits_7 : decode cL_meanBits 7 = .ok (.goto 6, 3) := by decide +kernel
theorem dL_meanBits_10 : decode cL_meanBits 10 = .ok (.astore_n 2, 1) := by decide +kernel
theorem dL_meanBits_11 : decode cL_meanBits 11 = .ok (.iconst 1, 1) := by decide +kernel
theorem dL_meanBits_12 : decode cL_meanBits 12 = .ok (.ireturn, 1) := by decide +kernel
theorem dL_meanBits_13 : decode cL_meanBits 13 = .ok (.iconst 0, 1) := by decide +kernel
theorem dL_meanBits_14 : decode cL_meanBits 14 = .ok (.ireturn, 1) := by decide +kernel
theorem dL_setWeight_0 : decode cL_setWeight 0 = .ok (.aload_n 3, 1) := by decide +kernel
theorem dL_setWeight_1 : decode cL_setWeight 1 = .ok (.iconst 0, 1) := by decide +kernel
theorem dL_setWeight_2 : decode cL_setWeight 2 = .ok (.aload_n 0, 1) := by decide +kernel
theorem dL_setWeight_3 : decode cL_setWeight 3 = .ok (.iload_n 1, 1) := by decide +kernel
theorem dL_setWeight_4 : decode cL_setWeight 4 = .ok (.iload_n 2, 1) := by decide +kernel
theorem dL_setWeight_5 : decode cL_setWeight 5 = .ok (.invokevirtual 67, 3) := by decide +kernel
theorem dL_setWeight_8 : decode cL_setWeight 8 = .ok (.i2l, 1) := by decide +kernel
theorem dL_setWeight_9 : decode cL_setWeight 9 = .ok (.lastore, 1) := by decide +kernel
theorem dL_setWeight_10 : decode cL_setWeight 10 = .ok (.goto 11, 3) := by decide +kernel
theorem dL_setWeight_13 : decode cL_setWeight 13 = .ok (.astore 4, 2) := by decide +kernel
theorem dL_setWeight_15 : decode cL_setWeight 15 = .ok (.iconst 1, 1) := by decide +kernel
theorem dL_setWeight_16 : decode cL_setWeight 16 = .ok (.ireturn, 1) := by decide +kernel
theorem dL_setWeight_17 : decode cL_setWeight 17 = .ok (.astore 4, 2) := by decide +kernel
theorem dL_setWeight_19 : decode cL_setWeight 19 = .ok (.iconst 2, 1) := by decide +kernel
theorem dL_setWeight_20 : decode cL_setWeight 20 = .ok (.ireturn, 1) := by decide +kernel
theorem dL_setWeight_21 : decode cL_setWeight 21 = .ok (.iconst 0, 1) := by decide +kernel
theorem dL_setWeight_22 : decode cL_setWeight 22 = .ok (.ireturn, 1) := by decide +kernel
theorem dL_weights_0 : decode cL_weights 0 = .ok (.aload_n 1, 1) := by decide +kernel
theorem dL_weights_1 : decode cL_weights 1 = .ok (.iconst 0, 1) := by decide +kernel
theorem dL_weights_2 : decode cL_weights 2 = .ok (.aload_n 0, 1) := by decide +kernel
theorem dL_weights_3 : decode cL_weights 3 = .ok (.invokevirtual 70, 3) := by decide +kernel
theorem dL_weights_6 : decode cL_weights 6 = .ok (.i2l, 1) := by decide +kernel
theorem dL_weights_7 : decode cL_weights 7 = .ok (.lastore, 1) := by decide +kernel
theorem dL_weights_8 : decode cL_weights 8 = .ok (.goto 6, 3) := by decide +kernel
theorem dL_weights_11 : decode cL_weights 11 = .ok (.astore_n 2, 1) := by decide +kernel
theorem dL_weights_12 : decode cL_weights 12 = .ok (.iconst 1, 1) := by decide +kernel
theorem dL_weights_13 : decode cL_weights 13 = .ok (.ireturn, 1) := by decide +kernel
theorem dL_weights_14 : decode cL_weights 14 = .ok (.iconst 0, 1) := by decide +kernel
theorem dL_weights_15 : decode cL_weights 15 = .ok (.ireturn, 1) := by decide +kernel
theorem dL_weight_0 : decode cL_weight 0 = .ok (.aload_n 2, 1) := by decide +kernel
theorem dL_weight_1 : decode cL_weight 1 = .ok (.iconst 0, 1) := by decide +kernel
theorem dL_weight_2 : decode cL_weight 2 = .ok (.aload_n 0, 1) := by decide +kernel
theorem dL_weight_3 : decode cL_weight 3 = .ok (.iload_n 1, 1) := by decide +kernel
theorem dL_weight_4 : decode cL_weight 4 = .ok (.invokevirtual 73, 3) := by decide +kernel
theorem dL_weight_7 : decode cL_weight 7 = .ok (.i2l, 1) := by decide +kernel
theorem dL_weight_8 : decode cL_weight 8 = .ok (.lastore, 1) := by decide +kernel
theorem dL_weight_9 : decode cL_weight 9 = .ok (.goto 6, 3) := by decide +kernel
theorem dL_weight_12 : decode cL_weight 12 = .ok (.astore_n 3, 1) := by decide +kernel
theorem dL_weight_13 : decode cL_weight 13 = .ok (.iconst 1, 1) := by decide +kernel
theorem dL_weight_14 : decode cL_weight 14 = .ok (.ireturn, 1) := by decide +kernel
theorem dL_weight_15 : decode cL_weight 15 = .ok (.iconst 0, 1) := by decide +kernel
theorem dL_weight_16 : decode cL_weight 16 = .ok (.ireturn, 1) := by decide +kernel
theorem dL_fault_0 : decode cL_fault 0 = .ok (.aload_n 3, 1) := by decide +kernel
theorem dL_fault_1 : decode cL_fault 1 = .ok (.iconst 0, 1) := by decide +kernel
theorem dL_fault_2 : decode cL_fault 2 = .ok (.aload_n 0, 1) := by decide +kernel
theorem dL_fault_3 : decode cL_fault 3 = .ok (.iload_n 1, 1) := by decide +kernel
theorem dL_fault_4 : decode cL_fault 4 = .ok (.iload_n 2, 1) := by decide +kernel
theorem dL_fault_5 : decode cL_fault 5 = .ok (.invokevirtual 76, 3) := by decide +kernel
theorem dL_fault_8 : decode cL_fault 8 = .ok (.i2l, 1) := by decide +kernel
theorem dL_fault_9 : decode cL_fault 9 = .ok (.lastore, 1) := by decide +kernel
theorem dL_fault_10 : decode cL_fault 10 = .ok (.goto 15, 3) := by decide +kernel
theorem dL_fault_13 : decode cL_fault 13 = .ok (.astore 4, 2) := by decide +kernel
theorem dL_fault_15 : decode cL_fault 15 = .ok (.iconst 1, 1) := by decide +kernel
theorem dL_fault_16 : decode cL_fault 16 = .ok (.ireturn, 1) := by decide +kernel
theorem dL_fault_17 : decode cL_fault 17 = .ok (.astore 4, 2) := by decide +kernel
theorem dL_fault_19 : decode cL_fault 19 = .ok (.iconst 2, 1) := by decide +kernel
theorem dL_fault_20 : decode cL_fault 20 = .ok (.ireturn, 1) := by decide +kernel
theorem dL_fault_21 : decode cL_fault 21 = .ok (.astore 4, 2) := by decide +kernel
theorem dL_fault_23 : decode cL_fault 23 = .ok (.iconst 3, 1) := by decide +kernel
theorem dL_fault_24 : decode cL_fault 24 = .ok (.ireturn, 1) := by decide +kernel
theorem dL_fault_25 : decode cL_fault 25 = .ok (.iconst 0, 1) := by decide +kernel
theorem dL_fault_26 : decode cL_fault 26 = .ok (.ireturn, 1) := by decide +kernel
theorem dL_explain_0 : decode cL_explain 0 = .ok (.aload_n 3, 1) := by decide +kernel
theorem dL_explain_1 : decode cL_explain 1 = .ok (.iconst 0, 1) := by decide +kernel
theorem dL_explain_2 : decode cL_explain 2 = .ok (.aload_n 0, 1) := by decide +kernel
theorem dL_explain_3 : decode cL_explain 3 = .ok (.iload_n 1, 1) := by decide +kernel
theorem dL_explain_4 : decode cL_explain 4 = .ok (.iload_n 2, 1) := by decide +kernel
theorem dL_explain_5 : decode cL_explain 5 = .ok (.invokevirtual 79, 3) := by decide +kernel
theorem dL_explain_8 : decode cL_explain 8 = .ok (.i2l, 1) := by decide +kernel
theorem dL_explain_9 : decode cL_explain 9 = .ok (.lastore, 1) := by decide +kernel
theorem dL_explain_10 : decode cL_explain 10 = .ok (.goto 15, 3) := by decide +kernel
theorem dL_explain_13 : decode cL_explain 13 = .ok (.astore 4, 2) := by decide +kernel
theorem dL_explain_15 : decode cL_explain 15 = .ok (.iconst 1, 1) := by decide +kernel
theorem dL_explain_16 : decode cL_explain 16 = .ok (.ireturn, 1) := by decide +kernel
theorem dL_explain_17 : decode cL_explain 17 = .ok (.astore 4, 2) := by decide +kernel
theorem dL_explain_19 : decode cL_explain 19 = .ok (.iconst 2, 1) := by decide +kernel
theorem dL_explain_20 : decode cL_explain 20 = .ok (.ireturn, 1) := by decide +kernel
theorem dL_explain_21 : decode cL_explain 21 = .ok (.astore 4, 2) := by decide +kernel
theorem dL_explain_23 : decode cL_explain 23 = .ok (.iconst 3, 1) := by decide +kernel
theorem dL_explain_24 : decode cL_explain 24 = .ok (.ireturn, 1) := by decide +kernel
theorem dL_explain_25 : decode cL_explain 25 = .ok (.iconst 0, 1) := by decide +kernel
theorem dL_explain_26 : decode cL_explain 26 = .ok (.ireturn, 1) := by decide +kernel
theorem dL_faults_0 : decode cL_faults 0 = .ok (.aload_n 2, 1) := by decide +kernel
theorem dL_faults_1 : decode cL_faults 1 = .ok (.iconst 0, 1) := by decide +kernel
theorem dL_faults_2 : decode cL_faults 2 = .ok (.aload_n 0, 1) := by decide +kernel
theorem dL_faults_3 : decode cL_faults 3 = .ok (.iload_n 1, 1) := by decide +kernel
theorem dL_faults_4 : decode cL_faults 4 = .ok (.invokevirtual 82, 3) := by decide +kernel
theorem dL_faults_7 : decode cL_faults 7 = .ok (.i2l, 1) := by decide +kernel
theorem dL_faults_8 : decode cL_faults 8 = .ok (.lastore, 1) := by decide +kernel
theorem dL_faults_9 : decode cL_faults 9 = .ok (.goto 9, 3) := by decide +kernel
theorem dL_faults_12 : decode cL_faults 12 = .ok (.astore_n 3, 1) := by decide +kernel
theorem dL_faults_13 : decode cL_faults 13 = .ok (.iconst 1, 1) := by decide +kernel
theorem dL_faults_14 : decode cL_faults 14 = .ok (.ireturn, 1) := by decide +kernel
theorem dL_faults_15 : decode cL_faults 15 = .ok (.astore_n 3, 1) := by decide +kernel
theorem dL_faults_16 : decode cL_faults 16 = .ok (.iconst 2, 1) := by decide +kernel
theorem dL_faults_17 : decode cL_faults 17 = .ok (.ireturn, 1) := by decide +kernel
theorem dL_faults_18 : decode cL_faults 18 = .ok (.iconst 0, 1) := by decide +kernel
theorem dL_faults_19 : decode cL_faults 19 = .ok (.ireturn, 1) := by decide +kernel
theorem dL_faultsIn_0 : decode cL_faultsIn 0 = .ok (.aload_n 2, 1) := by decide +kernel
theorem dL_faultsIn_1 : decode cL_faultsIn 1 = .ok (.iconst 0, 1) := by decide +kernel
theorem dL_faultsIn_2 : decode cL_faultsIn 2 = .ok (.aload_n 0, 1) := by decide +kernel
theorem dL_faultsIn_3 : decode cL_faultsIn 3 = .ok (.iload_n 1, 1) := by decide +kernel
theorem dL_faultsIn_4 : decode cL_faultsIn 4 = .ok (.invokevirtual 85, 3) := by decide +kernel
theorem dL_faultsIn_7 : decode cL_faultsIn 7 = .ok (.i2l, 1) := by decide +kernel
theorem dL_faultsIn_8 : decode cL_faultsIn 8 = .ok (.lastore, 1) := by decide +kernel
theorem dL_faultsIn_9 : decode cL_faultsIn 9 = .ok (.goto 9, 3) := by decide +kernel
theorem dL_faultsIn_12 : decode cL_faultsIn 12 = .ok (.astore_n 3, 1) := by decide +kernel
theorem dL_faultsIn_13 : decode cL_faultsIn 13 = .ok (.iconst 1, 1) := by decide +kernel
theorem dL_faultsIn_14 : decode cL_faultsIn 14 = .ok (.ireturn, 1) := by decide +kernel
theorem dL_faultsIn_15 : decode cL_faultsIn 15 = .ok (.astore_n 3, 1) := by decide +kernel
theorem dL_faultsIn_16 : decode cL_faultsIn 16 = .ok (.iconst 2, 1) := by decide +kernel
theorem dL_faultsIn_17 : decode cL_faultsIn 17 = .ok (.ireturn, 1) := by decide +kernel
theorem dL_faultsIn_18 : decode cL_faultsIn 18 = .ok (.iconst 0, 1) := by decide +kernel
theorem dL_faultsIn_19 : decode cL_faultsIn 19 = .ok (.ireturn, 1) := by decide +kernel
theorem dL_cost_0 : decode cL_cost 0 = .ok (.aload_n 1, 1) := by decide +kernel
theorem dL_cost_1 : decode cL_cost 1 = .ok (.iconst 0, 1) := by decide +kernel
theorem dL_cost_2 : decode cL_cost 2 = .ok (.aload_n 0, 1) := by decide +kernel
theorem dL_cost_3 : decode cL_cost 3 = .ok (.invokevirtual 88, 3) := by decide +kernel
theorem dL_cost_6 : decode cL_cost 6 = .ok (.i2l, 1) := by decide +kernel
theorem dL_cost_7 : decode cL_cost 7 = .ok (.lastore, 1) := by decide +kernel
theorem dL_cost_8 : decode cL_cost 8 = .ok (.goto 6, 3) := by decide +kernel
theorem dL_cost_11 : decode cL_cost 11 = .ok (.astore_n 2, 1) := by decide +kernel
theorem dL_cost_12 : decode cL_cost 12 = .ok (.iconst 1, 1) := by decide +kernel
theorem dL_cost_13 : decode cL_cost 13 = .ok (.ireturn, 1) := by decide +kernel
theorem dL_cost_14 : decode cL_cost 14 = .ok (.iconst 0, 1) := by decide +kernel
theorem dL_cost_15 : decode cL_cost 15 = .ok (.ireturn, 1) := by decide +kernel
theorem dL_better_0 : decode cL_better 0 = .ok (.aload_n 3, 1) := by decide +kernel
theorem dL_better_1 : decode cL_better 1 = .ok (.iconst 0, 1) := by decide +kernel
theorem dL_better_2 : decode cL_better 2 = .ok (.aload_n 0, 1) := by decide +kernel
theorem dL_better_3 : decode cL_better 3 = .ok (.iload_n 1, 1) := by decide +kernel
theorem dL_better_4 : decode cL_better 4 = .ok (.iload_n 2, 1) := by decide +kernel
theorem dL_better_5 : decode cL_better 5 = .ok (.invokevirtual 91, 3) := by decide +kernel
theorem dL_better_8 : decode cL_better 8 = .ok (.i2l, 1) := by decide +kernel
theorem dL_better_9 : decode cL_better 9 = .ok (.lastore, 1) := by decide +kernel
theorem dL_better_10 : decode cL_better 10 = .ok (.goto 15, 3) := by decide +kernel
theorem dL_better_13 : decode cL_better 13 = .ok (.astore 4, 2) := by decide +kernel
theorem dL_better_15 : decode cL_better 15 = .ok (.iconst 1, 1) := by decide +kernel
theorem dL_better_16 : decode cL_better 16 = .ok (.ireturn, 1) := by decide +kernel
theorem dL_better_17 : decode cL_better 17 = .ok (.astore 4, 2) := by decide +kernel
theorem dL_better_19 : decode cL_better 19 = .ok (.iconst 2, 1) := by decide +kernel
theorem dL_better_20 : decode cL_better 20 = .ok (.ireturn, 1) := by decide +kernel
theorem dL_better_21 : decode cL_better 21 = .ok (.astore 4, 2) := by decide +kernel
theorem dL_better_23 : decode cL_better 23 = .ok (.iconst 3, 1) := by decide +kernel
theorem dL_better_24 : decode cL_better 24 = .ok (.ireturn, 1) := by decide +kernel
theorem dL_better_25 : decode cL_better 25 = .ok (.iconst 0, 1) := by decide +kernel
theorem dL_better_26 : decode cL_better 26 = .ok (.ireturn, 1) := by decide +kernel
theorem dL_costWith_0 : decode cL_costWith 0 = .ok (.aload 4, 2) := by decide +kernel
theorem dL_costWith_2 : decode cL_costWith 2 = .ok (.iconst 0, 1) := by decide +kernel
theorem dL_costWith_3 : decode cL_costWith 3 = .ok (.aload_n 0, 1) := by decide +kernel
theorem dL_costWith_4 : decode cL_costWith 4 = .ok (.iload_n 1, 1) := by decide +kernel
theorem dL_costWith_5 : decode cL_costWith 5 = .ok (.iload_n 2, 1) := by decide +kernel
theorem dL_costWith_6 : decode cL_costWith 6 = .ok (.iload_n 3, 1) := by decide +kernel
theorem dL_costWith_7 : decode cL_costWith 7 = .ok (.invokevirtual 94, 3) := by decide +kernel
theorem dL_costWith_10 : decode cL_costWith 10 = .ok (.i2l, 1) := by decide +kernel
theorem dL_costWith_11 : decode cL_costWith 11 = .ok (.lastore, 1) := by decide +kernel
theorem dL_costWith_12 : decode cL_costWith 12 = .ok (.goto 19, 3) := by decide +kernel
theorem dL_costWith_15 : decode cL_costWith 15 = .ok (.astore 5, 2) := by decide +kernel
theorem dL_costWith_17 : decode cL_costWith 17 = .ok (.iconst 1, 1) := by decide +kernel
theorem dL_costWith_18 : decode cL_costWith 18 = .ok (.ireturn, 1) := by decide +kernel
theorem dL_costWith_19 : decode cL_costWith 19 = .ok (.astore 5, 2) := by decide +kernel
theorem dL_costWith_21 : decode cL_costWith 21 = .ok (.iconst 2, 1) := by decide +kernel
theorem dL_costWith_22 : decode cL_costWith 22 = .ok (.ireturn, 1) := by decide +kernel
theorem dL_costWith_23 : decode cL_costWith 23 = .ok (.astore 5, 2) := by decide +kernel
theorem dL_costWith_25 : decode cL_costWith 25 = .ok (.iconst 3, 1) := by decide +kernel
theorem dL_costWith_26 : decode cL_costWith 26 = .ok (.ireturn, 1) := by decide +kernel
theorem dL_costWith_27 : decode cL_costWith 27 = .ok (.astore 5, 2) := by decide +kernel
theorem dL_costWith_29 : decode cL_costWith 29 = .ok (.iconst 4, 1) := by decide +kernel
theorem dL_costWith_30 : decode cL_costWith 30 = .ok (.ireturn, 1) := by decide +kernel
theorem dL_costWith_31 : decode cL_costWith 31 = .ok (.iconst 0, 1) := by decide +kernel
theorem dL_costWith_32 : decode cL_costWith 32 = .ok (.ireturn, 1) := by decide +kernel
theorem dL_search_0 : decode cL_search 0 = .ok (.aload_n 1, 1) := by decide +kernel
theorem dL_search_1 : decode cL_search 1 = .ok (.iconst 0, 1) := by decide +kernel
theorem dL_search_2 : decode cL_search 2 = .ok (.aload_n 0, 1) := by decide +kernel
theorem dL_search_3 : decode cL_search 3 = .ok (.invokevirtual 97, 3) := by decide +kernel
theorem dL_search_6 : decode cL_search 6 = .ok (.i2l, 1) := by decide +kernel
theorem dL_search_7 : decode cL_search 7 = .ok (.lastore, 1) := by decide +kernel
theorem dL_search_8 : decode cL_search 8 = .ok (.goto 9, 3) := by decide +kernel
theorem dL_search_11 : decode cL_search 11 = .ok (.astore_n 2, 1) := by decide +kernel
theorem dL_search_12 : decode cL_search 12 = .ok (.iconst 1, 1) := by decide +kernel
theorem dL_search_13 : decode cL_search 13 = .ok (.ireturn, 1) := by decide +kernel
theorem dL_search_14 : decode cL_search 14 = .ok (.astore_n 2, 1) := by decide +kernel
theorem dL_search_15 : decode cL_search 15 = .ok (.iconst 2, 1) := by decide +kernel
theorem dL_search_16 : decode cL_search 16 = .ok (.ireturn, 1) := by decide +kernel
theorem dL_search_17 : decode cL_search 17 = .ok (.iconst 0, 1) := by decide +kernel
theorem dL_search_18 : decode cL_search 18 = .ok (.ireturn, 1) := by decide +kernel
theorem dL_suggested_0 : decode cL_suggested 0 = .ok (.aload_n 2, 1) := by decide +kernel
theorem dL_suggested_1 : decode cL_suggested 1 = .ok (.iconst 0, 1) := by decide +kernel
theorem dL_suggested_2 : decode cL_suggested 2 = .ok (.aload_n 0, 1) := by decide +kernel
theorem dL_suggested_3 : decode cL_suggested 3 = .ok (.iload_n 1, 1) := by decide +kernel
theorem dL_suggested_4 : decode cL_suggested 4 = .ok (.invokevirtual 102, 3) := by decide +kernel
theorem dL_suggested_7 : decode cL_suggested 7 = .ok (.i2l, 1) := by decide +kernel
theorem dL_suggested_8 : decode cL_suggested 8 = .ok (.lastore, 1) := by decide +kernel
theorem dL_suggested_9 : decode cL_suggested 9 = .ok (.goto 9, 3) := by decide +kernel
theorem dL_suggested_12 : decode cL_suggested 12 = .ok (.astore_n 3, 1) := by decide +kernel
theorem dL_suggested_13 : decode cL_suggested 13 = .ok (.iconst 1, 1) := by decide +kernel
theorem dL_suggested_14 : decode cL_suggested 14 = .ok (.ireturn, 1) := by decide +kernel
theorem dL_suggested_15 : decode cL_suggested 15 = .ok (.astore_n 3, 1) := by decide +kernel
theorem dL_suggested_16 : decode cL_suggested 16 = .ok (.iconst 2, 1) := by decide +kernel
theorem dL_suggested_17 : decode cL_suggested 17 = .ok (.ireturn, 1) := by decide +kernel
theorem dL_suggested_18 : decode cL_suggested 18 = .ok (.iconst 0, 1) := by decide +kernel
theorem dL_suggested_19 : decode cL_suggested 19 = .ok (.ireturn, 1) := by decide +kernel
theorem dL_adopt_0 : decode cL_adopt 0 = .ok (.aload_n 1, 1) := by decide +kernel
theorem dL_adopt_1 : decode cL_adopt 1 = .ok (.iconst 0, 1) := by decide +kernel
theorem dL_adopt_2 : decode cL_adopt 2 = .ok (.aload_n 0, 1) := by decide +kernel
theorem dL_adopt_3 : decode cL_adopt 3 = .ok (.invokevirtual 105, 3) := by decide +kernel
theorem dL_adopt_6 : decode cL_adopt 6 = .ok (.i2l, 1) := by decide +kernel
theorem dL_adopt_7 : decode cL_adopt 7 = .ok (.lastore, 1) := by decide +kernel
theorem dL_adopt_8 : decode cL_adopt 8 = .ok (.goto 9, 3) := by decide +kernel
theorem dL_adopt_11 : decode cL_adopt 11 = .ok (.astore_n 2, 1) := by decide +kernel
theorem dL_adopt_12 : decode cL_adopt 12 = .ok (.iconst 1, 1) := by decide +kernel
theorem dL_adopt_13 : decode cL_adopt 13 = .ok (.ireturn, 1) := by decide +kernel
theorem dL_adopt_14 : decode cL_adopt 14 = .ok (.astore_n 2, 1) := by decide +kernel
theorem dL_adopt_15 : decode cL_adopt 15 = .ok (.iconst 2, 1) := by decide +kernel
theorem dL_adopt_16 : decode cL_adopt 16 = .ok (.ireturn, 1) := by decide +kernel
theorem dL_adopt_17 : decode cL_adopt 17 = .ok (.iconst 0, 1) := by decide +kernel
theorem dL_adopt_18 : decode cL_adopt 18 = .ok (.ireturn, 1) := by decide +kernel
theorem dL_count_0 : decode cL_count 0 = .ok (.aload_n 2, 1) := by decide +kernel
theorem dL_count_1 : decode cL_count 1 = .ok (.iconst 0, 1) := by decide +kernel
theorem dL_count_2 : decode cL_count 2 = .ok (.aload_n 0, 1) := by decide +kernel
theorem dL_count_3 : decode cL_count 3 = .ok (.iload_n 1, 1) := by decide +kernel
theorem dL_count_4 : decode cL_count 4 = .ok (.invokevirtual 108, 3) := by decide +kernel
theorem dL_count_7 : decode cL_count 7 = .ok (.i2l, 1) := by decide +kernel
theorem dL_count_8 : decode cL_count 8 = .ok (.lastore, 1) := by decide +kernel
theorem dL_count_9 : decode cL_count 9 = .ok (.goto 6, 3) := by decide +kernel
theorem dL_count_12 : decode cL_count 12 = .ok (.astore_n 3, 1) := by decide +kernel
theorem dL_count_13 : decode cL_count 13 = .ok (.iconst 1, 1) := by decide +kernel
theorem dL_count_14 : decode cL_count 14 = .ok (.ireturn, 1) := by decide +kernel
theorem dL_count_15 : decode cL_count 15 = .ok (.iconst 0, 1) := by decide +kernel
theorem dL_count_16 : decode cL_count 16 = .ok (.ireturn, 1) := by decide +kernel
theorem dL_undo_0 : decode cL_undo 0 = .ok (.aload_n 1, 1) := by decide +kernel
theorem dL_undo_1 : decode cL_undo 1 = .ok (.iconst 0, 1) := by decide +kernel
theorem dL_undo_2 : decode cL_undo 2 = .ok (.aload_n 0, 1) := by decide +kernel
theorem dL_undo_3 : decode cL_undo 3 = .ok (.invokevirtual 111, 3) := by decide +kernel
theorem dL_undo_6 : decode cL_undo 6 = .ok (.i2l, 1) := by decide +kernel
theorem dL_undo_7 : decode cL_undo 7 = .ok (.lastore, 1) := by decide +kernel
theorem dL_undo_8 : decode cL_undo 8 = .ok (.goto 6, 3) := by decide +kernel
theorem dL_undo_11 : decode cL_undo 11 = .ok (.astore_n 2, 1) := by decide +kernel
theorem dL_undo_12 : decode cL_undo 12 = .ok (.iconst 1, 1) := by decide +kernel
theorem dL_undo_13 : decode cL_undo 13 = .ok (.ireturn, 1) := by decide +kernel
theorem dL_undo_14 : decode cL_undo 14 = .ok (.iconst 0, 1) := by decide +kernel
theorem dL_undo_15 : decode cL_undo 15 = .ok (.ireturn, 1) := by decide +kernel
theorem dL_restore_0 : decode cL_restore 0 = .ok (.aload_n 1, 1) := by decide +kernel
theorem dL_restore_1 : decode cL_restore 1 = .ok (.iconst 0, 1) := by decide +kernel
theorem dL_restore_2 : decode cL_restore 2 = .ok (.aload_n 0, 1) := by decide +kernel
theorem dL_restore_3 : decode cL_restore 3 = .ok (.invokevirtual 114, 3) := by decide +kernel
theorem dL_restore_6 : decode cL_restore 6 = .ok (.i2l, 1) := by decide +kernel
theorem dL_restore_7 : decode cL_restore 7 = .ok (.lastore, 1) := by decide +kernel
theorem dL_restore_8 : decode cL_restore 8 = .ok (.goto 6, 3) := by decide +kernel
theorem dL_restore_11 : decode cL_restore 11 = .ok (.astore_n 2, 1) := by decide +kernel
theorem dL_restore_12 : decode cL_restore 12 = .ok (.iconst 1, 1) := by decide +kernel
theorem dL_restore_13 : decode cL_restore 13 = .ok (.ireturn, 1) := by decide +kernel
theorem dL_restore_14 : decode cL_restore 14 = .ok (.iconst 0, 1) := by decide +kernel
theorem dL_restore_15 : decode cL_restore 15 = .ok (.ireturn, 1) := by decide +kernel
theorem dL_law_0 : decode cL_law 0 = .ok (.new 8, 3) := by decide +kernel
theorem dL_law_3 : decode cL_law 3 = .ok (.dup, 1) := by decide +kernel
theorem dL_law_4 : decode cL_law 4 = .ok (.invokespecial 117, 3) := by decide +kernel
theorem dL_law_7 : decode cL_law 7 = .ok (.astore_n 1, 1) := by decide +kernel
theorem dL_law_8 : decode cL_law 8 = .ok (.new 118, 3) := by decide +kernel
theorem dL_law_11 : decode cL_law 11 = .ok (.dup, 1) := by decide +kernel
theorem dL_law_12 : decode cL_law 12 = .ok (.invokespecial 120, 3) := by decide +kernel
theorem dL_law_15 : decode cL_law 15 = .ok (.astore_n 2, 1) := by decide +kernel
theorem dL_law_16 : decode cL_law 16 = .ok (.iconst 1, 1) := by decide +kernel
theorem dL_law_17 : decode cL_law 17 = .ok (.newarray .long, 2) := by decide +kernel
theorem dL_law_19 : decode cL_law 19 = .ok (.astore_n 3, 1) := by decide +kernel
theorem dL_law_20 : decode cL_law 20 = .ok (.iconst 0, 1) := by decide +kernel
theorem dL_law_21 : decode cL_law 21 = .ok (.istore 4, 2) := by decide +kernel
theorem dL_law_23 : decode cL_law 23 = .ok (.iload 4, 2) := by decide +kernel
theorem dL_law_25 : decode cL_law 25 = .ok (.aload_n 0, 1) := by decide +kernel
theorem dL_law_26 : decode cL_law 26 = .ok (.arraylength, 1) := by decide +kernel
theorem dL_law_27 : decode cL_law 27 = .ok (.iconst 4, 1) := by decide +kernel
theorem dL_law_28 : decode cL_law 28 = .ok (.isub, 1) := by decide +kernel
theorem dL_law_29 : decode cL_law 29 = .ok (.if_icmp .gt 1971, 3) := by decide +kernel
theorem dL_law_32 : decode cL_law 32 = .ok (.aload_n 0, 1) := by decide +kernel
theorem dL_law_33 : decode cL_law 33 = .ok (.iload 4, 2) := by decide +kernel
theorem dL_law_35 : decode cL_law 35 = .ok (.iaload, 1) := by decide +kernel
theorem dL_law_36 : decode cL_law 36 = .ok (.bipush 63, 2) := by decide +kernel
theorem dL_law_38 : decode cL_law 38 = .ok (.iand, 1) := by decide +kernel
theorem dL_law_39 : decode cL_law 39 = .ok (.tableswitch 1955 0 32 #[145, 201, 245, 289, 302, 358, 399, 467, 547, 615, 683, 767, 847, 903, 959, 1003, 1046, 1114, 1158, 1214, 1282, 1350, 1406, 1462, 1506, 1574, 1654, 1698, 1754, 1798, 1854, 1898, 1911], 145) := by decide +kernel
theorem dL_law_184 : decode cL_law 184 = .ok (.aload_n 1, 1) := by decide +kernel
theorem dL_law_185 : decode cL_law 185 = .ok (.aload_n 0, 1) := by decide +kernel
theorem dL_law_186 : decode cL_law 186 = .ok (.iload 4, 2) := by decide +kernel
theorem dL_law_188 : decode cL_law 188 = .ok (.iconst 1, 1) := by decide +kernel
theorem dL_law_189 : decode cL_law 189 = .ok (.iadd, 1) := by decide +kernel
theorem dL_law_190 : decode cL_law 190 = .ok (.iaload, 1) := by decide +kernel
theorem dL_law_191 : decode cL_law 191 = .ok (.aload_n 3, 1) := by decide +kernel
theorem dL_law_192 : decode cL_law 192 = .ok (.invokestatic 121, 3) := by decide +kernel
theorem dL_law_195 : decode cL_law 195 = .ok (.istore 5, 2) := by decide +kernel
theorem dL_law_197 : decode cL_law 197 = .ok (.aload_n 2, 1) := by decide +kernel
theorem dL_law_198 : decode cL_law 198 = .ok (.aload_n 0, 1) := by decide +kernel
theorem dL_law_199 : decode cL_law 199 = .ok (.iload 4, 2) := by decide +kernel
theorem dL_law_201 : decode cL_law 201 = .ok (.iconst 1, 1) := by decide +kernel
theorem dL_law_202 : decode cL_law 202 = .ok (.iadd, 1) := by decide +kernel
theorem dL_law_203 : decode cL_law 203 = .ok (.iaload, 1) := by decide +kernel
theorem dL_law_204 : decode cL_law 204 = .ok (.invokevirtual 126, 3) := by decide +kernel
theorem dL_law_207 : decode cL_law 207 = .ok (.istore 6, 2) := by decide +kernel
theorem dL_law_209 : decode cL_law 209 = .ok (.aload_n 2, 1) := by decide +kernel
theorem dL_law_210 : decode cL_law 210 = .ok (.invokevirtual 127, 3) := by decide +kernel
theorem dL_law_213 : decode cL_law 213 = .ok (.iload 5, 2) := by decide +kernel
theorem dL_law_215 : decode cL_law 215 = .ok (.if_icmp .eq 5, 3) := by decide +kernel
theorem dL_law_218 : decode cL_law 218 = .ok (.iconst 0, 1) := by decide +kernel
theorem dL_law_219 : decode cL_law 219 = .ok (.ireturn, 1) := by decide +kernel
theorem dL_law_220 : decode cL_law 220 = .ok (.iload 5, 2) := by decide +kernel
theorem dL_law_222 : decode cL_law 222 = .ok (.ifCond .ne 15, 3) := by decide +kernel
theorem dL_law_225 : decode cL_law 225 = .ok (.aload_n 3, 1) := by decide +kernel
theorem dL_law_226 : decode cL_law 226 = .ok (.iconst 0, 1) := by decide +kernel
theorem dL_law_227 : decode cL_law 227 = .ok (.laload, 1) := by decide +kernel
theorem dL_law_228 : decode cL_law 228 = .ok (.iload 6, 2) := by decide +kernel
theorem dL_law_230 : decode cL_law 230 = .ok (.i2l, 1) := by decide +kernel
theorem dL_law_231 : decode cL_law 231 = .ok (.lcmp, 1) := by decide +kernel
theorem dL_law_232 : decode cL_law 232 = .ok (.ifCond .eq 5, 3) := by decide +kernel
theorem dL_law_235 : decode cL_law 235 = .ok (.iconst 0, 1) := by decide +kernel
theorem dL_law_236 : decode cL_law 236 = .ok (.ireturn, 1) := by decide +kernel
theorem dL_law_237 : decode cL_law 237 = .ok (.goto 1757, 3) := by decide +kernel
theorem dL_law_240 : decode cL_law 240 = .ok (.aload_n 1, 1) := by decide +kernel
theorem dL_law_241 : decode cL_law 241 = .ok (.aload_n 3, 1) := by decide +kernel
theorem dL_law_242 : decode cL_law 242 = .ok (.invokestatic 130, 3) := by decide +kernel
theorem dL_law_245 : decode cL_law 245 = .ok (.istore 5, 2) := by decide +kernel
theorem dL_law_247 : decode cL_law 247 = .ok (.aload_n 2, 1) := by decide +kernel
theorem dL_law_248 : decode cL_law 248 = .ok (.invokevirtual 133, 3) := by decide +kernel
theorem dL_law_251 : decode cL_law 251 = .ok (.istore 6, 2) := by decide +kernel
theorem dL_law_253 : decode cL_law 253 = .ok (.aload_n 2, 1) := by decide +kernel
theorem dL_law_254 : decode cL_law 254 = .ok (.invokevirtual 127, 3) := by decide +kernel
theorem dL_law_257 : decode cL_law 257 = .ok (.iload 5, 2) := by decide +kernel
theorem dL_law_259 : decode cL_law 259 = .ok (.if_icmp .eq 5, 3) := by decide +kernel
theorem dL_law_262 : decode cL_law 262 = .ok (.iconst 0, 1) := by decide +kernel
theorem dL_law_263 : decode cL_law 263 = .ok (.ireturn, 1) := by decide +kernel
theorem dL_law_264 : decode cL_law 264 = .ok (.iload 5, 2) := by decide +kernel
theorem dL_law_266 : decode cL_law 266 = .ok (.ifCond .ne 15, 3) := by decide +kernel
theorem dL_law_269 : decode cL_law 269 = .ok (.aload_n 3, 1) := by decide +kernel
theorem dL_law_270 : decode cL_law 270 = .ok (.iconst 0, 1) := by decide +kernel
theorem dL_law_271 : decode cL_law 271 = .ok (.laload, 1) := by decide +kernel
theorem dL_law_272 : decode cL_law 272 = .ok (.iload 6, 2) := by decide +kernel
theorem dL_law_274 : decode cL_law 274 = .ok (.i2l, 1) := by decide +kernel
theorem dL_law_275 : decode cL_law 275 = .ok (.lcmp, 1) := by decide +kernel
theorem dL_law_276 : decode cL_law 276 = .ok (.ifCond .eq 5, 3) := by decide +kernel
theorem dL_law_279 : decode cL_law 279 = .ok (.iconst 0, 1) := by decide +kernel
theorem dL_law_280 : decode cL_law 280 = .ok (.ireturn, 1) := by decide +kernel
theorem dL_law_281 : decode cL_law 281 = .ok (.goto 1713, 3) := by decide +kernel
theorem dL_law_284 : decode cL_law 284 = .ok (.aload_n 1, 1) := by decide +kernel
theorem dL_law_285 : decode cL_law 285 = .ok (.aload_n 3, 1) := by decide +kernel
theorem dL_law_286 : decode cL_law 286 = .ok (.invokestatic 134, 3) := by decide +kernel
theorem dL_law_289 : decode cL_law 289 = .ok (.istore 5, 2) := by decide +kernel
theorem dL_law_291 : decode cL_law 291 = .ok (.aload_n 2, 1) := by decide +kernel
theorem dL_law_292 : decode cL_law 292 = .ok (.invokevirtual 136, 3) := by decide +kernel
theorem dL_law_295 : decode cL_law 295 = .ok (.istore 6, 2) := by decide +kernel
theorem dL_law_297 : decode cL_law 297 = .ok (.aload_n 2, 1) := by decide +kernel
theorem dL_law_298 : decode cL_law 298 = .ok (.invokevirtual 127, 3) := by decide +kernel
theorem dL_law_301 : decode cL_law 301 = .ok (.iload 5, 2) := by decide +kernel
theorem dL_law_303 : decode cL_law 303 = .ok (.if_icmp .eq 5, 3) := by decide +kernel
theorem dL_law_306 : decode cL_law 306 = .ok (.iconst 0, 1) := by decide +kernel
theorem dL_law_307 : decode cL_law 307 = .ok (.ireturn, 1) := by decide +kernel
theorem dL_law_308 : decode cL_law 308 = .ok (.iload 5, 2) := by decide +kernel
theorem dL_law_310 : decode cL_law 310 = .ok (.ifCond .ne 15, 3) := by decide +kernel
theorem dL_law_313 : decode cL_law 313 = .ok (.aload_n 3, 1) := by decide +kernel
theorem dL_law_314 : decode cL_law 314 = .ok (.iconst 0, 1) := by decide +kernel
theorem dL_law_315 : decode cL_law 315 = .ok (.laload, 1) := by decide +kernel
theorem dL_law_316 : decode cL_law 316 = .ok (.iload 6, 2) := by decide +kernel
theorem dL_law_318 : decode cL_law 318 = .ok (.i2l, 1) := by decide +kernel
theorem dL_law_319 : decode cL_law 319 = .ok (.lcmp, 1) := by decide +kernel
theorem dL_law_320 : decode cL_law 320 = .ok (.ifCond .eq 5, 3) := by decide +kernel
theorem dL_law_323 : decode cL_law 323 = .ok (.iconst 0, 1) := by decide +kernel
theorem dL_law_324 : decode cL_law 324 = .ok (.ireturn, 1) := by decide +kernel
theorem dL_law_325 : decode cL_law 325 = .ok (.goto 1669, 3) := by decide +kernel
theorem dL_law_328 : decode cL_law 328 = .ok (.aload_n 1, 1) := by decide +kernel
theorem dL_law_329 : decode cL_law 329 = .ok (.invokevirtual 137, 3) := by decide +kernel
theorem dL_law_332 : decode cL_law 332 = .ok (.aload_n 2, 1) := by decide +kernel
theorem dL_law_333 : decode cL_law 333 = .ok (.invokevirtual 140, 3) := by decide +kernel
theorem dL_law_336 : decode cL_law 336 = .ok (.if_icmp .eq 1658, 3) := by decide +kernel
theorem dL_law_339 : decode cL_law 339 = .ok (.iconst 0, 1) := by decide +kernel
theorem dL_law_340 : decode cL_law 340 = .ok (.ireturn, 1) := by decide +kernel
theorem dL_law_341 : decode cL_law 341 = .ok (.aload_n 1, 1) := by decide +kernel
theorem dL_law_342 : decode cL_law 342 = .ok (.aload_n 0, 1) := by decide +kernel
theorem dL_law_343 : decode cL_law 343 = .ok (.iload 4, 2) := by decide +kernel
theorem dL_law_345 : decode cL_law 345 = .ok (.iconst 1, 1) := by decide +kernel
theorem dL_law_346 : decode cL_law 346 = .ok (.iadd, 1) := by decide +kernel
theorem dL_law_347 : decode cL_law 347 = .ok (.iaload, 1) := by decide +kernel
theorem dL_law_348 : decode cL_law 348 = .ok (.aload_n 3, 1) := by decide +kernel
theorem dL_law_349 : decode cL_law 349 = .ok (.invokestatic 141, 3) := by decide +kernel
theorem dL_law_352 : decode cL_law 352 = .ok (.istore 5, 2) := by decide +kernel
theorem dL_law_354 : decode cL_law 354 = .ok (.aload_n 2, 1) := by decide +kernel
theorem dL_law_355 : decode cL_law 355 = .ok (.aload_n 0, 1) := by decide +kernel
theorem dL_law_356 : decode cL_law 356 = .ok (.iload 4, 2) := by decide +kernel
theorem dL_law_358 : decode cL_law 358 = .ok (.iconst 1, 1) := by decide +kernel
theorem dL_law_359 : decode cL_law 359 = .ok (.iadd, 1) := by decide +kernel
theorem dL_law_360 : decode cL_law 360 = .ok (.iaload, 1) := by decide +kernel
theorem dL_law_361 : decode cL_law 361 = .ok (.invokevirtual 143, 3) := by decide +kernel
theorem dL_law_364 : decode cL_law 364 = .ok (.istore 6, 2) := by decide +kernel
theorem dL_law_366 : decode cL_law 366 = .ok (.aload_n 2, 1) := by decide +kernel
theorem dL_law_367 : decode cL_law 367 = .ok (.invokevirtual 127, 3) := by decide +kernel
theorem dL_law_370 : decode cL_law 370 = .ok (.iload 5, 2) := by decide +kernel
theorem dL_law_372 : decode cL_law 372 = .ok (.if_icmp .eq 5, 3) := by decide +kernel
theorem dL_law_375 : decode cL_law 375 = .ok (.iconst 0, 1) := by decide +kernel
theorem dL_law_376 : decode cL_law 376 = .ok (.ireturn, 1) := by decide +kernel
theorem dL_law_377 : decode cL_law 377 = .ok (.iload 5, 2) := by decide +kernel
theorem dL_law_379 : decode cL_law 379 = .ok (.ifCond .ne 15, 3) := by decide +kernel
theorem dL_law_382 : decode cL_law 382 = .ok (.aload_n 3, 1) := by decide +kernel
theorem dL_law_383 : decode cL_law 383 = .ok (.iconst 0, 1) := by decide +kernel
theorem dL_law_384 : decode cL_law 384 = .ok (.laload, 1) := by decide +kernel
theorem dL_law_385 : decode cL_law 385 = .ok (.iload 6, 2) := by decide +kernel
theorem dL_law_387 : decode cL_law 387 = .ok (.i2l, 1) := by decide +kernel
theorem dL_law_388 : decode cL_law 388 = .ok (.lcmp, 1) := by decide +kernel
theorem dL_law_389 : decode cL_law 389 = .ok (.ifCond .eq 5, 3) := by decide +kernel
theorem dL_law_392 : decode cL_law 392 = .ok (.iconst 0, 1) := by decide +kernel
theorem dL_law_393 : decode cL_law 393 = .ok (.ireturn, 1) := by decide +kernel
theorem dL_law_394 : decode cL_law 394 = .ok (.goto 1600, 3) := by decide +kernel
theorem dL_law_397 : decode cL_law 397 = .ok (.aload_n 1, 1) := by decide +kernel
theorem dL_law_398 : decode cL_law 398 = .ok (.aload_n 0, 1) := by decide +kernel
theorem dL_law_399 : decode cL_law 399 = .ok (.iload 4, 2) := by decide +kernel
theorem dL_law_401 : decode cL_law 401 = .ok (.iconst 1, 1) := by decide +kernel
theorem dL_law_402 : decode cL_law 402 = .ok (.iadd, 1) := by decide +kernel
theorem dL_law_403 : decode cL_law 403 = .ok (.iaload, 1) := by decide +kernel
theorem dL_law_404 : decode cL_law 404 = .ok (.ifCond .eq 7, 3) := by decide +kernel
theorem dL_law_407 : decode cL_law 407 = .ok (.iconst 1, 1) := by decide +kernel
theorem dL_law_408 : decode cL_law 408 = .ok (.goto 4, 3) := by decide +kernel
theorem dL_law_411 : decode cL_law 411 = .ok (.iconst 0, 1) := by decide +kernel
theorem dL_law_412 : decode cL_law 412 = .ok (.invokevirtual 144, 3) := by decide +kernel
theorem dL_law_415 : decode cL_law 415 = .ok (.aload_n 2, 1) := by decide +kernel
theorem dL_law_416 : decode cL_law 416 = .ok (.aload_n 0, 1) := by decide +kernel
theorem dL_law_417 : decode cL_law 417 = .ok (.iload 4, 2) := by decide +kernel
theorem dL_law_419 : decode cL_law 419 = .ok (.iconst 1, 1) := by decide +kernel
theorem dL_law_420 : decode cL_law 420 = .ok (.iadd, 1) := by decide +kernel
theorem dL_law_421 : decode cL_law 421 = .ok (.iaload, 1) := by decide +kernel
theorem dL_law_422 : decode cL_law 422 = .ok (.ifCond .eq 7, 3) := by decide +kernel
theorem dL_law_425 : decode cL_law 425 = .ok (.iconst 1, 1) := by decide +kernel
theorem dL_law_426 : decode cL_law 426 = .ok (.goto 4, 3) := by decide +kernel
theorem dL_law_429 : decode cL_law 429 = .ok (.iconst 0, 1) := by decide +kernel
theorem dL_law_430 : decode cL_law 430 = .ok (.invokevirtual 148, 3) := by decide +kernel
theorem dL_law_433 : decode cL_law 433 = .ok (.if_icmp .eq 1561, 3) := by decide +kernel
theorem dL_law_436 : decode cL_law 436 = .ok (.iconst 0, 1) := by decide +kernel
theorem dL_law_437 : decode cL_law 437 = .ok (.ireturn, 1) := by decide +kernel
theorem dL_law_438 : decode cL_law 438 = .ok (.aload_n 1, 1) := by decide +kernel
theorem dL_law_439 : decode cL_law 439 = .ok (.aload_n 0, 1) := by decide +kernel
theorem dL_law_440 : decode cL_law 440 = .ok (.iload 4, 2) := by decide +kernel
theorem dL_law_442 : decode cL_law 442 = .ok (.iconst 1, 1) := by decide +kernel
theorem dL_law_443 : decode cL_law 443 = .ok (.iadd, 1) := by decide +kernel
theorem dL_law_444 : decode cL_law 444 = .ok (.iaload, 1) := by decide +kernel
theorem dL_law_445 : decode cL_law 445 = .ok (.aload_n 0, 1) := by decide +kernel
theorem dL_law_446 : decode cL_law 446 = .ok (.iload 4, 2) := by decide +kernel
theorem dL_law_448 : decode cL_law 448 = .ok (.iconst 2, 1) := by decide +kernel
theorem dL_law_449 : decode cL_law 449 = .ok (.iadd, 1) := by decide +kernel
theorem dL_law_450 : decode cL_law 450 = .ok (.iaload, 1) := by decide +kernel
theorem dL_law_451 : decode cL_law 451 = .ok (.aload_n 3, 1) := by decide +kernel
theorem dL_law_452 : decode cL_law 452 = .ok (.invokestatic 149, 3) := by decide +kernel
theorem dL_law_455 : decode cL_law 455 = .ok (.istore 5, 2) := by decide +kernel
theorem dL_law_457 : decode cL_law 457 = .ok (.aload_n 2, 1) := by decide +kernel
theorem dL_law_458 : decode cL_law 458 = .ok (.aload_n 0, 1) := by decide +kernel
theorem dL_law_459 : decode cL_law 459 = .ok (.iload 4, 2) := by decide +kernel
theorem dL_law_461 : decode cL_law 461 = .ok (.iconst 1, 1) := by decide +kernel
theorem dL_law_462 : decode cL_law 462 = .ok (.iadd, 1) := by decide +kernel
theorem dL_law_463 : decode cL_law 463 = .ok (.iaload, 1) := by decide +kernel
theorem dL_law_464 : decode cL_law 464 = .ok (.aload_n 0, 1) := by decide +kernel
theorem dL_law_465 : decode cL_law 465 = .ok (.iload 4, 2) := by decide +kernel
theorem dL_law_467 : decode cL_law 467 = .ok (.iconst 2, 1) := by decide +kernel
theorem dL_law_468 : decode cL_law 468 = .ok (.iadd, 1) := by decide +kernel
theorem dL_law_469 : decode cL_law 469 = .ok (.iaload, 1) := by decide +kernel
theorem dL_law_470 : decode cL_law 470 = .ok (.invokevirtual 152, 3) := by decide +kernel
theorem dL_law_473 : decode cL_law 473 = .ok (.istore 6, 2) := by decide +kernel
theorem dL_law_475 : decode cL_law 475 = .ok (.aload_n 2, 1) := by decide +kernel
theorem dL_law_476 : decode cL_law 476 = .ok (.invokevirtual 127, 3) := by decide +kernel
theorem dL_law_479 : decode cL_law 479 = .ok (.iload 5, 2) := by decide +kernel
theorem dL_law_481 : decode cL_law 481 = .ok (.if_icmp .eq 5, 3) := by decide +kernel
theorem dL_law_484 : decode cL_law 484 = .ok (.iconst 0, 1) := by decide +kernel
theorem dL_law_485 : decode cL_law 485 = .ok (.ireturn, 1) := by decide +kernel
theorem dL_law_486 : decode cL_law 486 = .ok (.iload 5, 2) := by decide +kernel
theorem dL_law_488 : decode cL_law 488 = .ok (.ifCond .ne 15, 3) := by decide +kernel
theorem dL_law_491 : decode cL_law 491 = .ok (.aload_n 3, 1) := by decide +kernel
theorem dL_law_492 : decode cL_law 492 = .ok (.iconst 0, 1) := by decide +kernel
theorem dL_law_493 : decode cL_law 493 = .ok (.laload, 1) := by decide +kernel
theorem dL_law_494 : decode cL_law 494 = .ok (.iload 6, 2) := by decide +kernel
theorem dL_law_496 : decode cL_law 496 = .ok (.i2l, 1) := by decide +kernel
theorem dL_law_497 : decode cL_law 497 = .ok (.lcmp, 1) := by decide +kernel
theorem dL_law_498 : decode cL_law 498 = .ok (.ifCond .eq 5, 3) := by decide +kernel
theorem dL_law_501 : decode cL_law 501 = .ok (.iconst 0, 1) := by decide +kernel
theorem dL_law_502 : decode cL_law 502 = .ok (.ireturn, 1) := by decide +kernel
theorem dL_law_503 : decode cL_law 503 = .ok (.goto 1491, 3) := by decide +kernel
theorem dL_law_506 : decode cL_law 506 = .ok (.aload_n 1, 1) := by decide +kernel
theorem dL_law_507 : decode cL_law 507 = .ok (.aload_n 0, 1) := by decide +kernel
theorem dL_law_508 : decode cL_law 508 = .ok (.iload 4, 2) := by decide +kernel
theorem dL_law_510 : decode cL_law 510 = .ok (.iconst 1, 1) := by decide +kernel
theorem dL_law_511 : decode cL_law 511 = .ok (.iadd, 1) := by decide +kernel
theorem dL_law_512 : decode cL_law 512 = .ok (.iaload, 1) := by decide +kernel
theorem dL_law_513 : decode cL_law 513 = .ok (.aload_n 0, 1) := by decide +kernel
theorem dL_law_514 : decode cL_law 514 = .ok (.iload 4, 2) := by decide +kernel
theorem dL_law_516 : decode cL_law 516 = .ok (.iconst 2, 1) := by decide +kernel
theorem dL_law_517 : decode cL_law 517 = .ok (.iadd, 1) := by decide +kernel
theorem dL_law_518 : decode cL_law 518 = .ok (.iaload, 1) := by decide +kernel
theorem dL_law_519 : decode cL_law 519 = .ok (.aload_n 0, 1) := by decide +kernel
theorem dL_law_520 : decode cL_law 520 = .ok (.iload 4, 2) := by decide +kernel
theorem dL_law_522 : decode cL_law 522 = .ok (.iconst 3, 1) := by decide +kernel
theorem dL_law_523 : decode cL_law 523 = .ok (.iadd, 1) := by decide +kernel
theorem dL_law_524 : decode cL_law 524 = .ok (.iaload, 1) := by decide +kernel
theorem dL_law_525 : decode cL_law 525 = .ok (.aload_n 3, 1) := by decide +kernel
theorem dL_law_526 : decode cL_law 526 = .ok (.invokestatic 153, 3) := by decide +kernel
theorem dL_law_529 : decode cL_law 529 = .ok (.istore 5, 2) := by decide +kernel
theorem dL_law_531 : decode cL_law 531 = .ok (.aload_n 2, 1) := by decide +kernel
theorem dL_law_532 : decode cL_law 532 = .ok (.aload_n 0, 1) := by decide +kernel
theorem dL_law_533 : decode cL_law 533 = .ok (.iload 4, 2) := by decide +kernel
theorem dL_law_535 : decode cL_law 535 = .ok (.iconst 1, 1) := by decide +kernel
theorem dL_law_536 : decode cL_law 536 = .ok (.iadd, 1) := by decide +kernel
theorem dL_law_537 : decode cL_law 537 = .ok (.iaload, 1) := by decide +kernel
theorem dL_law_538 : decode cL_law 538 = .ok (.aload_n 0, 1) := by decide +kernel
theorem dL_law_539 : decode cL_law 539 = .ok (.iload 4, 2) := by decide +kernel
theorem dL_law_541 : decode cL_law 541 = .ok (.iconst 2, 1) := by decide +kernel
theorem dL_law_542 : decode cL_law 542 = .ok (.iadd, 1) := by decide +kernel
theorem dL_law_543 : decode cL_law 543 = .ok (.iaload, 1) := by decide +kernel
theorem dL_law_544 : decode cL_law 544 = .ok (.aload_n 0, 1) := by decide +kernel
theorem dL_law_545 : decode cL_law 545 = .ok (.iload 4, 2) := by decide +kernel
theorem dL_law_547 : decode cL_law 547 = .ok (.iconst 3, 1) := by decide +kernel
theorem dL_law_548 : decode cL_law 548 = .ok (.iadd, 1) := by decide +kernel
theorem dL_law_549 : decode cL_law 549 = .ok (.iaload, 1) := by decide +kernel
theorem dL_law_550 : decode cL_law 550 = .ok (.invokevirtual 156, 3) := by decide +kernel
theorem dL_law_553 : decode cL_law 553 = .ok (.istore 6, 2) := by decide +kernel
theorem dL_law_555 : decode cL_law 555 = .ok (.aload_n 2, 1) := by decide +kernel
theorem dL_law_556 : decode cL_law 556 = .ok (.invokevirtual 127, 3) := by decide +kernel
theorem dL_law_559 : decode cL_law 559 = .ok (.iload 5, 2) := by decide +kernel
theorem dL_law_561 : decode cL_law 561 = .ok (.if_icmp .eq 5, 3) := by decide +kernel
theorem dL_law_564 : decode cL_law 564 = .ok (.iconst 0, 1) := by decide +kernel
theorem dL_law_565 : decode cL_law 565 = .ok (.ireturn, 1) := by decide +kernel
theorem dL_law_566 : decode cL_law 566 = .ok (.iload 5, 2) := by decide +kernel
theorem dL_law_568 : decode cL_law 568 = .ok (.ifCond .ne 15, 3) := by decide +kernel
theorem dL_law_571 : decode cL_law 571 = .ok (.aload_n 3, 1) := by decide +kernel
theorem dL_law_572 : decode cL_law 572 = .ok (.iconst 0, 1) := by decide +kernel
theorem dL_law_573 : decode cL_law 573 = .ok (.laload, 1) := by decide +kernel
theorem dL_law_574 : decode cL_law 574 = .ok (.iload 6, 2) := by decide +kernel
theorem dL_law_576 : decode cL_law 576 = .ok (.i2l, 1) := by decide +kernel
theorem dL_law_577 : decode cL_law 577 = .ok (.lcmp, 1) := by decide +kernel
theorem dL_law_578 : decode cL_law 578 = .ok (.ifCond .eq 5, 3) := by decide +kernel
theorem dL_law_581 : decode cL_law 581 = .ok (.iconst 0, 1) := by decide +kernel
theorem dL_law_582 : decode cL_law 582 = .ok (.ireturn, 1) := by decide +kernel
theorem dL_law_583 : decode cL_law 583 = .ok (.goto 1411, 3) := by decide +kernel
theorem dL_law_586 : decode cL_law 586 = .ok (.aload_n 1, 1) := by decide +kernel
theorem dL_law_587 : decode cL_law 587 = .ok (.aload_n 0, 1) := by decide +kernel
theorem dL_law_588 : decode cL_law 588 = .ok (.iload 4, 2) := by decide +kernel
theorem dL_law_590 : decode cL_law 590 = .ok (.iconst 1, 1) := by decide +kernel
theorem dL_law_591 : decode cL_law 591 = .ok (.iadd, 1) := by decide +kernel
theorem dL_law_592 : decode cL_law 592 = .ok (.iaload, 1) := by decide +kernel
theorem dL_law_593 : decode cL_law 593 = .ok (.aload_n 0, 1) := by decide +kernel
theorem dL_law_594 : decode cL_law 594 = .ok (.iload 4, 2) := by decide +kernel
theorem dL_law_596 : decode cL_law 596 = .ok (.iconst 2, 1) := by decide +kernel
theorem dL_law_597 : decode cL_law 597 = .ok (.iadd, 1) := by decide +kernel
theorem dL_law_598 : decode cL_law 598 = .ok (.iaload, 1) := by decide +kernel
theorem dL_law_599 : decode cL_law 599 = .ok (.aload_n 3, 1) := by decide +kernel
theorem dL_law_600 : decode cL_law 600 = .ok (.invokestatic 157, 3) := by decide +kernel
theorem dL_law_603 : decode cL_law 603 = .ok (.istore 5, 2) := by decide +kernel
theorem dL_law_605 : decode cL_law 605 = .ok (.aload_n 2, 1) := by decide +kernel
theorem dL_law_606 : decode cL_law 606 = .ok (.aload_n 0, 1) := by decide +kernel
theorem dL_law_607 : decode cL_law 607 = .ok (.iload 4, 2) := by decide +kernel
theorem dL_law_609 : decode cL_law 609 = .ok (.iconst 1, 1) := by decide +kernel
theorem dL_law_610 : decode cL_law 610 = .ok (.iadd, 1) := by decide +kernel
theorem dL_law_611 : decode cL_law 611 = .ok (.iaload, 1) := by decide +kernel
theorem dL_law_612 : decode cL_law 612 = .ok (.aload_n 0, 1) := by decide +kernel
theorem dL_law_613 : decode cL_law 613 = .ok (.iload 4, 2) := by decide +kernel
theorem dL_law_615 : decode cL_law 615 = .ok (.iconst 2, 1) := by decide +kernel
theorem dL_law_616 : decode cL_law 616 = .ok (.iadd, 1) := by decide +kernel
theorem dL_law_617 : decode cL_law 617 = .ok (.iaload, 1) := by decide +kernel
theorem dL_law_618 : decode cL_law 618 = .ok (.invokevirtual 159, 3) := by decide +kernel
theorem dL_law_621 : decode cL_law 621 = .ok (.istore 6, 2) := by decide +kernel
theorem dL_law_623 : decode cL_law 623 = .ok (.aload_n 2, 1) := by decide +kernel
theorem dL_law_624 : decode cL_law 624 = .ok (.invokevirtual 127, 3) := by decide +kernel
theorem dL_law_627 : decode cL_law 627 = .ok (.iload 5, 2) := by decide +kernel
theorem dL_law_629 : decode cL_law 629 = .ok (.if_icmp .eq 5, 3) := by decide +kernel
theorem dL_law_632 : decode cL_law 632 = .ok (.iconst 0, 1) := by decide +kernel
theorem dL_law_633 : decode cL_law 633 = .ok (.ireturn, 1) := by decide +kernel
theorem dL_law_634 : decode cL_law 634 = .ok (.iload 5, 2) := by decide +kernel
theorem dL_law_636 : decode cL_law 636 = .ok (.ifCond .ne 15, 3) := by decide +kernel
theorem dL_law_639 : decode cL_law 639 = .ok (.aload_n 3, 1) := by decide +kernel
theorem dL_law_640 : decode cL_law 640 = .ok (.iconst 0, 1) := by decide +kernel
theorem dL_law_641 : decode cL_law 641 = .ok (.laload, 1) := by decide +kernel
theorem dL_law_642 : decode cL_law 642 = .ok (.iload 6, 2) := by decide +kernel
theorem dL_law_644 : decode cL_law 644 = .ok (.i2l, 1) := by decide +kernel
theorem dL_law_645 : decode cL_law 645 = .ok (.lcmp, 1) := by decide +kernel
theorem dL_law_646 : decode cL_law 646 = .ok (.ifCond .eq 5, 3) := by decide +kernel
theorem dL_law_649 : decode cL_law 649 = .ok (.iconst 0, 1) := by decide +kernel
theorem dL_law_650 : decode cL_law 650 = .ok (.ireturn, 1) := by decide +kernel
theorem dL_law_651 : decode cL_law 651 = .ok (.goto 1343, 3) := by decide +kernel
theorem dL_law_654 : decode cL_law 654 = .ok (.aload_n 1, 1) := by decide +kernel
theorem dL_law_655 : decode cL_law 655 = .ok (.aload_n 0, 1) := by decide +kernel
theorem dL_law_656 : decode cL_law 656 = .ok (.iload 4, 2) := by decide +kernel
theorem dL_law_658 : decode cL_law 658 = .ok (.iconst 1, 1) := by decide +kernel
theorem dL_law_659 : decode cL_law 659 = .ok (.iadd, 1) := by decide +kernel
theorem dL_law_660 : decode cL_law 660 = .ok (.iaload, 1) := by decide +kernel
theorem dL_law_661 : decode cL_law 661 = .ok (.aload_n 0, 1) := by decide +kernel
theorem dL_law_662 : decode cL_law 662 = .ok (.iload 4, 2) := by decide +kernel
theorem dL_law_664 : decode cL_law 664 = .ok (.iconst 2, 1) := by decide +kernel
theorem dL_law_665 : decode cL_law 665 = .ok (.iadd, 1) := by decide +kernel
theorem dL_law_666 : decode cL_law 666 = .ok (.iaload, 1) := by decide +kernel
theorem dL_law_667 : decode cL_law 667 = .ok (.aload_n 3, 1) := by decide +kernel
theorem dL_law_668 : decode cL_law 668 = .ok (.invokestatic 160, 3) := by decide +kernel
theorem dL_law_671 : decode cL_law 671 = .ok (.istore 5, 2) := by decide +kernel
theorem dL_law_673 : decode cL_law 673 = .ok (.aload_n 2, 1) := by decide +kernel
theorem dL_law_674 : decode cL_law 674 = .ok (.aload_n 0, 1) := by decide +kernel
theorem dL_law_675 : decode cL_law 675 = .ok (.iload 4, 2) := by decide +kernel
theorem dL_law_677 : decode cL_law 677 = .ok (.iconst 1, 1) := by decide +kernel
theorem dL_law_678 : decode cL_law 678 = .ok (.iadd, 1) := by decide +kernel
theorem dL_law_679 : decode cL_law 679 = .ok (.iaload, 1) := by decide +kernel
theorem dL_law_680 : decode cL_law 680 = .ok (.aload_n 0, 1) := by decide +kernel
theorem dL_law_681 : decode cL_law 681 = .ok (.iload 4, 2) := by decide +kernel
theorem dL_law_683 : decode cL_law 683 = .ok (.iconst 2, 1) := by decide +kernel
theorem dL_law_684 : decode cL_law 684 = .ok (.iadd, 1) := by decide +kernel
theorem dL_law_685 : decode cL_law 685 = .ok (.iaload, 1) := by decide +kernel
theorem dL_law_686 : decode cL_law 686 = .ok (.invokevirtual 162, 3) := by decide +kernel
theorem dL_law_689 : decode cL_law 689 = .ok (.istore 6, 2) := by decide +kernel
theorem dL_law_691 : decode cL_law 691 = .ok (.aload_n 2, 1) := by decide +kernel
theorem dL_law_692 : decode cL_law 692 = .ok (.invokevirtual 127, 3) := by decide +kernel
theorem dL_law_695 : decode cL_law 695 = .ok (.iload 5, 2) := by decide +kernel
theorem dL_law_697 : decode cL_law 697 = .ok (.if_icmp .eq 5, 3) := by decide +kernel
theorem dL_law_700 : decode cL_law 700 = .ok (.iconst 0, 1) := by decide +kernel
theorem dL_law_701 : decode cL_law 701 = .ok (.ireturn, 1) := by decide +kernel
theorem dL_law_702 : decode cL_law 702 = .ok (.iload 5, 2) := by decide +kernel
theorem dL_law_704 : decode cL_law 704 = .ok (.ifCond .ne 15, 3) := by decide +kernel
theorem dL_law_707 : decode cL_law 707 = .ok (.aload_n 3, 1) := by decide +kernel
theorem dL_law_708 : decode cL_law 708 = .ok (.iconst 0, 1) := by decide +kernel
theorem dL_law_709 : decode cL_law 709 = .ok (.laload, 1) := by decide +kernel
theorem dL_law_710 : decode cL_law 710 = .ok (.iload 6, 2) := by decide +kernel
theorem dL_law_712 : decode cL_law 712 = .ok (.i2l, 1) := by decide +kernel
theorem dL_law_713 : decode cL_law 713 = .ok (.lcmp, 1) := by decide +kernel
theorem dL_law_714 : decode cL_law 714 = .ok (.ifCond .eq 5, 3) := by decide +kernel
theorem dL_law_717 : decode cL_law 717 = .ok (.iconst 0, 1) := by decide +kernel
theorem dL_law_718 : decode cL_law 718 = .ok (.ireturn, 1) := by decide +kernel
theorem dL_law_719 : decode cL_law 719 = .ok (.goto 1275, 3) := by decide +kernel
theorem dL_law_722 : decode cL_law 722 = .ok (.aload_n 1, 1) := by decide +kernel
theorem dL_law_723 : decode cL_law 723 = .ok (.aload_n 0, 1) := by decide +kernel
theorem dL_law_724 : decode cL_law 724 = .ok (.iload 4, 2) := by decide +kernel
theorem dL_law_726 : decode cL_law 726 = .ok (.iconst 1, 1) := by decide +kernel
theorem dL_law_727 : decode cL_law 727 = .ok (.iadd, 1) := by decide +kernel
theorem dL_law_728 : decode cL_law 728 = .ok (.iaload, 1) := by decide +kernel
theorem dL_law_729 : decode cL_law 729 = .ok (.ifCond .eq 7, 3) := by decide +kernel
theorem dL_law_732 : decode cL_law 732 = .ok (.iconst 1, 1) := by decide +kernel
theorem dL_law_733 : decode cL_law 733 = .ok (.goto 4, 3) := by decide +kernel
theorem dL_law_736 : decode cL_law 736 = .ok (.iconst 0, 1) := by decide +kernel
theorem dL_law_737 : decode cL_law 737 = .ok (.aload_n 0, 1) := by decide +kernel
theorem dL_law_738 : decode cL_law 738 = .ok (.iload 4, 2) := by decide +kernel
theorem dL_law_740 : decode cL_law 740 = .ok (.iconst 2, 1) := by decide +kernel
theorem dL_law_741 : decode cL_law 741 = .ok (.iadd, 1) := by decide +kernel
theorem dL_law_742 : decode cL_law 742 = .ok (.iaload, 1) := by decide +kernel
theorem dL_law_743 : decode cL_law 743 = .ok (.aload_n 3, 1) := by decide +kernel
theorem dL_law_744 : decode cL_law 744 = .ok (.invokestatic 163, 3) := by decide +kernel
theorem dL_law_747 : decode cL_law 747 = .ok (.istore 5, 2) := by decide +kernel
theorem dL_law_749 : decode cL_law 749 = .ok (.aload_n 2, 1) := by decide +kernel
theorem dL_law_750 : decode cL_law 750 = .ok (.aload_n 0, 1) := by decide +kernel
theorem dL_law_751 : decode cL_law 751 = .ok (.iload 4, 2) := by decide +kernel
theorem dL_law_753 : decode cL_law 753 = .ok (.iconst 1, 1) := by decide +kernel
theorem dL_law_754 : decode cL_law 754 = .ok (.iadd, 1) := by decide +kernel
theorem dL_law_755 : decode cL_law 755 = .ok (.iaload, 1) := by decide +kernel
theorem dL_law_756 : decode cL_law 756 = .ok (.ifCond .eq 7, 3) := by decide +kernel
theorem dL_law_759 : decode cL_law 759 = .ok (.iconst 1, 1) := by decide +kernel
theorem dL_law_760 : decode cL_law 760 = .ok (.goto 4, 3) := by decide +kernel
theorem dL_law_763 : decode cL_law 763 = .ok (.iconst 0, 1) := by decide +kernel
theorem dL_law_764 : decode cL_law 764 = .ok (.aload_n 0, 1) := by decide +kernel
theorem dL_law_765 : decode cL_law 765 = .ok (.iload 4, 2) := by decide +kernel
theorem dL_law_767 : decode cL_law 767 = .ok (.iconst 2, 1) := by decide +kernel
theorem dL_law_768 : decode cL_law 768 = .ok (.iadd, 1) := by decide +kernel
theorem dL_law_769 : decode cL_law 769 = .ok (.iaload, 1) := by decide +kernel
theorem dL_law_770 : decode cL_law 770 = .ok (.invokevirtual 166, 3) := by decide +kernel
theorem dL_law_773 : decode cL_law 773 = .ok (.istore 6, 2) := by decide +kernel
theorem dL_law_775 : decode cL_law 775 = .ok (.aload_n 2, 1) := by decide +kernel
theorem dL_law_776 : decode cL_law 776 = .ok (.invokevirtual 127, 3) := by decide +kernel
theorem dL_law_779 : decode cL_law 779 = .ok (.iload 5, 2) := by decide +kernel
theorem dL_law_781 : decode cL_law 781 = .ok (.if_icmp .eq 5, 3) := by decide +kernel
theorem dL_law_784 : decode cL_law 784 = .ok (.iconst 0, 1) := by decide +kernel
theorem dL_law_785 : decode cL_law 785 = .ok (.ireturn, 1) := by decide +kernel
theorem dL_law_786 : decode cL_law 786 = .ok (.iload 5, 2) := by decide +kernel
theorem dL_law_788 : decode cL_law 788 = .ok (.ifCond .ne 15, 3) := by decide +kernel
theorem dL_law_791 : decode cL_law 791 = .ok (.aload_n 3, 1) := by decide +kernel
theorem dL_law_792 : decode cL_law 792 = .ok (.iconst 0, 1) := by decide +kernel
theorem dL_law_793 : decode cL_law 793 = .ok (.laload, 1) := by decide +kernel
theorem dL_law_794 : decode cL_law 794 = .ok (.iload 6, 2) := by decide +kernel
theorem dL_law_796 : decode cL_law 796 = .ok (.i2l, 1) := by decide +kernel
theorem dL_law_797 : decode cL_law 797 = .ok (.lcmp, 1) := by decide +kernel
theorem dL_law_798 : decode cL_law 798 = .ok (.ifCond .eq 5, 3) := by decide +kernel
theorem dL_law_801 : decode cL_law 801 = .ok (.iconst 0, 1) := by decide +kernel
theorem dL_law_802 : decode cL_law 802 = .ok (.ireturn, 1) := by decide +kernel
theorem dL_law_803 : decode cL_law 803 = .ok (.goto 1191, 3) := by decide +kernel
theorem dL_law_806 : decode cL_law 806 = .ok (.aload_n 1, 1) := by decide +kernel
theorem dL_law_807 : decode cL_law 807 = .ok (.aload_n 0, 1) := by decide +kernel
theorem dL_law_808 : decode cL_law 808 = .ok (.iload 4, 2) := by decide +kernel
theorem dL_law_810 : decode cL_law 810 = .ok (.iconst 1, 1) := by decide +kernel
theorem dL_law_811 : decode cL_law 811 = .ok (.iadd, 1) := by decide +kernel
theorem dL_law_812 : decode cL_law 812 = .ok (.iaload, 1) := by decide +kernel
theorem dL_law_813 : decode cL_law 813 = .ok (.aload_n 0, 1) := by decide +kernel
theorem dL_law_814 : decode cL_law 814 = .ok (.iload 4, 2) := by decide +kernel
theorem dL_law_816 : decode cL_law 816 = .ok (.iconst 2, 1) := by decide +kernel
theorem dL_law_817 : decode cL_law 817 = .ok (.iadd, 1) := by decide +kernel
theorem dL_law_818 : decode cL_law 818 = .ok (.iaload, 1) := by decide +kernel
theorem dL_law_819 : decode cL_law 819 = .ok (.aload_n 0, 1) := by decide +kernel
theorem dL_law_820 : decode cL_law 820 = .ok (.iload 4, 2) := by decide +kernel
theorem dL_law_822 : decode cL_law 822 = .ok (.iconst 3, 1) := by decide +kernel
theorem dL_law_823 : decode cL_law 823 = .ok (.iadd, 1) := by decide +kernel
theorem dL_law_824 : decode cL_law 824 = .ok (.iaload, 1) := by decide +kernel
theorem dL_law_825 : decode cL_law 825 = .ok (.aload_n 3, 1) := by decide +kernel
theorem dL_law_826 : decode cL_law 826 = .ok (.invokestatic 167, 3) := by decide +kernel
theorem dL_law_829 : decode cL_law 829 = .ok (.istore 5, 2) := by decide +kernel
theorem dL_law_831 : decode cL_law 831 = .ok (.aload_n 2, 1) := by decide +kernel
theorem dL_law_832 : decode cL_law 832 = .ok (.aload_n 0, 1) := by decide +kernel
theorem dL_law_833 : decode cL_law 833 = .ok (.iload 4, 2) := by decide +kernel
theorem dL_law_835 : decode cL_law 835 = .ok (.iconst 1, 1) := by decide +kernel
theorem dL_law_836 : decode cL_law 836 = .ok (.iadd, 1) := by decide +kernel
theorem dL_law_837 : decode cL_law 837 = .ok (.iaload, 1) := by decide +kernel
theorem dL_law_838 : decode cL_law 838 = .ok (.aload_n 0, 1) := by decide +kernel
theorem dL_law_839 : decode cL_law 839 = .ok (.iload 4, 2) := by decide +kernel
theorem dL_law_841 : decode cL_law 841 = .ok (.iconst 2, 1) := by decide +kernel
theorem dL_law_842 : decode cL_law 842 = .ok (.iadd, 1) := by decide +kernel
theorem dL_law_843 : decode cL_law 843 = .ok (.iaload, 1) := by decide +kernel
theorem dL_law_844 : decode cL_law 844 = .ok (.aload_n 0, 1) := by decide +kernel
theorem dL_law_845 : decode cL_law 845 = .ok (.iload 4, 2) := by decide +kernel
theorem dL_law_847 : decode cL_law 847 = .ok (.iconst 3, 1) := by decide +kernel
theorem dL_law_848 : decode cL_law 848 = .ok (.iadd, 1) := by decide +kernel
theorem dL_law_849 : decode cL_law 849 = .ok (.iaload, 1) := by decide +kernel
theorem dL_law_850 : decode cL_law 850 = .ok (.invokevirtual 169, 3) := by decide +kernel
theorem dL_law_853 : decode cL_law 853 = .ok (.istore 6, 2) := by decide +kernel
theorem dL_law_855 : decode cL_law 855 = .ok (.aload_n 2, 1) := by decide +kernel
theorem dL_law_856 : decode cL_law 856 = .ok (.invokevirtual 127, 3) := by decide +kernel
theorem dL_law_859 : decode cL_law 859 = .ok (.iload 5, 2) := by decide +kernel
theorem dL_law_861 : decode cL_law 861 = .ok (.if_icmp .eq 5, 3) := by decide +kernel
theorem dL_law_864 : decode cL_law 864 = .ok (.iconst 0, 1) := by decide +kernel
theorem dL_law_865 : decode cL_law 865 = .ok (.ireturn, 1) := by decide +kernel
theorem dL_law_866 : decode cL_law 866 = .ok (.iload 5, 2) := by decide +kernel
theorem dL_law_868 : decode cL_law 868 = .ok (.ifCond .ne 15, 3) := by decide +kernel
theorem dL_law_871 : decode cL_law 871 = .ok (.aload_n 3, 1) := by decide +kernel
theorem dL_law_872 : decode cL_law 872 = .ok (.iconst 0, 1) := by decide +kernel
theorem dL_law_873 : decode cL_law 873 = .ok (.laload, 1) := by decide +kernel
theorem dL_law_874 : decode cL_law 874 = .ok (.iload 6, 2) := by decide +kernel
theorem dL_law_876 : decode cL_law 876 = .ok (.i2l, 1) := by decide +kernel
theorem dL_law_877 : decode cL_law 877 = .ok (.lcmp, 1) := by decide +kernel
theorem dL_law_878 : decode cL_law 878 = .ok (.ifCond .eq 5, 3) := by decide +kernel
theorem dL_law_881 : decode cL_law 881 = .ok (.iconst 0, 1) := by decide +kernel
theorem dL_law_882 : decode cL_law 882 = .ok (.ireturn, 1) := by decide +kernel
theorem dL_law_883 : decode cL_law 883 = .ok (.goto 1111, 3) := by decide +kernel
theorem dL_law_886 : decode cL_law 886 = .ok (.aload_n 1, 1) := by decide +kernel
theorem dL_law_887 : decode cL_law 887 = .ok (.aload_n 0, 1) := by decide +kernel
theorem dL_law_888 : decode cL_law 888 = .ok (.iload 4, 2) := by decide +kernel
theorem dL_law_890 : decode cL_law 890 = .ok (.iconst 1, 1) := by decide +kernel
theorem dL_law_891 : decode cL_law 891 = .ok (.iadd, 1) := by decide +kernel
theorem dL_law_892 : decode cL_law 892 = .ok (.iaload, 1) := by decide +kernel
theorem dL_law_893 : decode cL_law 893 = .ok (.aload_n 3, 1) := by decide +kernel
theorem dL_law_894 : decode cL_law 894 = .ok (.invokestatic 170, 3) := by decide +kernel
theorem dL_law_897 : decode cL_law 897 = .ok (.istore 5, 2) := by decide +kernel
theorem dL_law_899 : decode cL_law 899 = .ok (.aload_n 2, 1) := by decide +kernel
theorem dL_law_900 : decode cL_law 900 = .ok (.aload_n 0, 1) := by decide +kernel
theorem dL_law_901 : decode cL_law 901 = .ok (.iload 4, 2) := by decide +kernel
theorem dL_law_903 : decode cL_law 903 = .ok (.iconst 1, 1) := by decide +kernel
theorem dL_law_904 : decode cL_law 904 = .ok (.iadd, 1) := by decide +kernel
theorem dL_law_905 : decode cL_law 905 = .ok (.iaload, 1) := by decide +kernel
theorem dL_law_906 : decode cL_law 906 = .ok (.invokevirtual 172, 3) := by decide +kernel
theorem dL_law_909 : decode cL_law 909 = .ok (.istore 6, 2) := by decide +kernel
theorem dL_law_911 : decode cL_law 911 = .ok (.aload_n 2, 1) := by decide +kernel
theorem dL_law_912 : decode cL_law 912 = .ok (.invokevirtual 127, 3) := by decide +kernel
theorem dL_law_915 : decode cL_law 915 = .ok (.iload 5, 2) := by decide +kernel
theorem dL_law_917 : decode cL_law 917 = .ok (.if_icmp .eq 5, 3) := by decide +kernel
theorem dL_law_920 : decode cL_law 920 = .ok (.iconst 0, 1) := by decide +kernel
theorem dL_law_921 : decode cL_law 921 = .ok (.ireturn, 1) := by decide +kernel
theorem dL_law_922 : decode cL_law 922 = .ok (.iload 5, 2) := by decide +kernel
theorem dL_law_924 : decode cL_law 924 = .ok (.ifCond .ne 15, 3) := by decide +kernel
theorem dL_law_927 : decode cL_law 927 = .ok (.aload_n 3, 1) := by decide +kernel
theorem dL_law_928 : decode cL_law 928 = .ok (.iconst 0, 1) := by decide +kernel
theorem dL_law_929 : decode cL_law 929 = .ok (.laload, 1) := by decide +kernel
theorem dL_law_930 : decode cL_law 930 = .ok (.iload 6, 2) := by decide +kernel
theorem dL_law_932 : decode cL_law 932 = .ok (.i2l, 1) := by decide +kernel
theorem dL_law_933 : decode cL_law 933 = .ok (.lcmp, 1) := by decide +kernel
theorem dL_law_934 : decode cL_law 934 = .ok (.ifCond .eq 5, 3) := by decide +kernel
theorem dL_law_937 : decode cL_law 937 = .ok (.iconst 0, 1) := by decide +kernel
theorem dL_law_938 : decode cL_law 938 = .ok (.ireturn, 1) := by decide +kernel
theorem dL_law_939 : decode cL_law 939 = .ok (.goto 1055, 3) := by decide +kernel
theorem dL_law_942 : decode cL_law 942 = .ok (.aload_n 1, 1) := by decide +kernel
theorem dL_law_943 : decode cL_law 943 = .ok (.aload_n 0, 1) := by decide +kernel
theorem dL_law_944 : decode cL_law 944 = .ok (.iload 4, 2) := by decide +kernel
theorem dL_law_946 : decode cL_law 946 = .ok (.iconst 1, 1) := by decide +kernel
theorem dL_law_947 : decode cL_law 947 = .ok (.iadd, 1) := by decide +kernel
theorem dL_law_948 : decode cL_law 948 = .ok (.iaload, 1) := by decide +kernel
theorem dL_law_949 : decode cL_law 949 = .ok (.aload_n 3, 1) := by decide +kernel
theorem dL_law_950 : decode cL_law 950 = .ok (.invokestatic 173, 3) := by decide +kernel
theorem dL_law_953 : decode cL_law 953 = .ok (.istore 5, 2) := by decide +kernel
theorem dL_law_955 : decode cL_law 955 = .ok (.aload_n 2, 1) := by decide +kernel
theorem dL_law_956 : decode cL_law 956 = .ok (.aload_n 0, 1) := by decide +kernel
theorem dL_law_957 : decode cL_law 957 = .ok (.iload 4, 2) := by decide +kernel
theorem dL_law_959 : decode cL_law 959 = .ok (.iconst 1, 1) := by decide +kernel
theorem dL_law_960 : decode cL_law 960 = .ok (.iadd, 1) := by decide +kernel
theorem dL_law_961 : decode cL_law 961 = .ok (.iaload, 1) := by decide +kernel
theorem dL_law_962 : decode cL_law 962 = .ok (.invokevirtual 175, 3) := by decide +kernel
theorem dL_law_965 : decode cL_law 965 = .ok (.istore 6, 2) := by decide +kernel
theorem dL_law_967 : decode cL_law 967 = .ok (.aload_n 2, 1) := by decide +kernel
theorem dL_law_968 : decode cL_law 968 = .ok (.invokevirtual 127, 3) := by decide +kernel
theorem dL_law_971 : decode cL_law 971 = .ok (.iload 5, 2) := by decide +kernel
theorem dL_law_973 : decode cL_law 973 = .ok (.if_icmp .eq 5, 3) := by decide +kernel
theorem dL_law_976 : decode cL_law 976 = .ok (.iconst 0, 1) := by decide +kernel
theorem dL_law_977 : decode cL_law 977 = .ok (.ireturn, 1) := by decide +kernel
theorem dL_law_978 : decode cL_law 978 = .ok (.iload 5, 2) := by decide +kernel
theorem dL_law_980 : decode cL_law 980 = .ok (.ifCond .ne 15, 3) := by decide +kernel
theorem dL_law_983 : decode cL_law 983 = .ok (.aload_n 3, 1) := by decide +kernel
theorem dL_law_984 : decode cL_law 984 = .ok (.iconst 0, 1) := by decide +kernel
theorem dL_law_985 : decode cL_law 985 = .ok (.laload, 1) := by decide +kernel
theorem dL_law_986 : decode cL_law 986 = .ok (.iload 6, 2) := by decide +kernel
theorem dL_law_988 : decode cL_law 988 = .ok (.i2l, 1) := by decide +kernel
theorem dL_law_989 : decode cL_law 989 = .ok (.lcmp, 1) := by decide +kernel
theorem dL_law_990 : decode cL_law 990 = .ok (.ifCond .eq 5, 3) := by decide +kernel
theorem dL_law_993 : decode cL_law 993 = .ok (.iconst 0, 1) := by decide +kernel
theorem dL_law_994 : decode cL_law 994 = .ok (.ireturn, 1) := by decide +kernel
theorem dL_law_995 : decode cL_law 995 = .ok (.goto 999, 3) := by decide +kernel
theorem dL_law_998 : decode cL_law 998 = .ok (.aload_n 1, 1) := by decide +kernel
theorem dL_law_999 : decode cL_law 999 = .ok (.aload_n 3, 1) := by decide +kernel
theorem dL_law_1000 : decode cL_law 1000 = .ok (.invokestatic 176, 3) := by decide +kernel
theorem dL_law_1003 : decode cL_law 1003 = .ok (.istore 5, 2) := by decide +kernel
theorem dL_law_1005 : decode cL_law 1005 = .ok (.aload_n 2, 1) := by decide +kernel
theorem dL_law_1006 : decode cL_law 1006 = .ok (.invokevirtual 178, 3) := by decide +kernel
theorem dL_law_1009 : decode cL_law 1009 = .ok (.istore 6, 2) := by decide +kernel
theorem dL_law_1011 : decode cL_law 1011 = .ok (.aload_n 2, 1) := by decide +kernel
theorem dL_law_1012 : decode cL_law 1012 = .ok (.invokevirtual 127, 3) := by decide +kernel
theorem dL_law_1015 : decode cL_law 1015 = .ok (.iload 5, 2) := by decide +kernel
theorem dL_law_1017 : decode cL_law 1017 = .ok (.if_icmp .eq 5, 3) := by decide +kernel
theorem dL_law_1020 : decode cL_law 1020 = .ok (.iconst 0, 1) := by decide +kernel
theorem dL_law_1021 : decode cL_law 1021 = .ok (.ireturn, 1) := by decide +kernel
theorem dL_law_1022 : decode cL_law 1022 = .ok (.iload 5, 2) := by decide +kernel
theorem dL_law_1024 : decode cL_law 1024 = .ok (.ifCond .ne 15, 3) := by decide +kernel
theorem dL_law_1027 : decode cL_law 1027 = .ok (.aload_n 3, 1) := by decide +kernel
theorem dL_law_1028 : decode cL_law 1028 = .ok (.iconst 0, 1) := by decide +kernel
theorem dL_law_1029 : decode cL_law 1029 = .ok (.laload, 1) := by decide +kernel
theorem dL_law_1030 : decode cL_law 1030 = .ok (.iload 6, 2) := by decide +kernel
theorem dL_law_1032 : decode cL_law 1032 = .ok (.i2l, 1) := by decide +kernel
theorem dL_law_1033 : decode cL_law 1033 = .ok (.lcmp, 1) := by decide +kernel
theorem dL_law_1034 : decode cL_law 1034 = .ok (.ifCond .eq 5, 3) := by decide +kernel
theorem dL_law_1037 : decode cL_law 1037 = .ok (.iconst 0, 1) := by decide +kernel
theorem dL_law_1038 : decode cL_law 1038 = .ok (.ireturn, 1) := by decide +kernel
theorem dL_law_1039 : decode cL_law 1039 = .ok (.goto 955, 3) := by decide +kernel
theorem dL_law_1042 : decode cL_law 1042 = .ok (.aload_n 1, 1) := by decide +kernel
theorem dL_law_1043 : decode cL_law 1043 = .ok (.aload_n 3, 1) := by decide +kernel
theorem dL_law_1044 : decode cL_law 1044 = .ok (.invokestatic 179, 3) := by decide +kernel
theorem dL_law_1047 : decode cL_law 1047 = .ok (.istore 5, 2) := by decide +kernel
theorem dL_law_1049 : decode cL_law 1049 = .ok (.aload_n 2, 1) := by decide +kernel
theorem dL_law_1050 : decode cL_law 1050 = .ok (.invokevirtual 181, 3) := by decide +kernel
theorem dL_law_1053 : decode cL_law 1053 = .ok (.lstore 6, 2) := by decide +kernel
theorem dL_law_1055 : decode cL_law 1055 = .ok (.aload_n 2, 1) := by decide +kernel
theorem dL_law_1056 : decode cL_law 1056 = .ok (.invokevirtual 127, 3) := by decide +kernel
theorem dL_law_1059 : decode cL_law 1059 = .ok (.iload 5, 2) := by decide +kernel
theorem dL_law_1061 : decode cL_law 1061 = .ok (.if_icmp .eq 5, 3) := by decide +kernel
theorem dL_law_1064 : decode cL_law 1064 = .ok (.iconst 0, 1) := by decide +kernel
theorem dL_law_1065 : decode cL_law 1065 = .ok (.ireturn, 1) := by decide +kernel
theorem dL_law_1066 : decode cL_law 1066 = .ok (.iload 5, 2) := by decide +kernel
theorem dL_law_1068 : decode cL_law 1068 = .ok (.ifCond .ne 14, 3) := by decide +kernel
theorem dL_law_1071 : decode cL_law 1071 = .ok (.aload_n 3, 1) := by decide +kernel
theorem dL_law_1072 : decode cL_law 1072 = .ok (.iconst 0, 1) := by decide +kernel
theorem dL_law_1073 : decode cL_law 1073 = .ok (.laload, 1) := by decide +kernel
theorem dL_law_1074 : decode cL_law 1074 = .ok (.lload 6, 2) := by decide +kernel
theorem dL_law_1076 : decode cL_law 1076 = .ok (.lcmp, 1) := by decide +kernel
theorem dL_law_1077 : decode cL_law 1077 = .ok (.ifCond .eq 5, 3) := by decide +kernel
theorem dL_law_1080 : decode cL_law 1080 = .ok (.iconst 0, 1) := by decide +kernel
theorem dL_law_1081 : decode cL_law 1081 = .ok (.ireturn, 1) := by decide +kernel
theorem dL_law_1082 : decode cL_law 1082 = .ok (.goto 912, 3) := by decide +kernel
theorem dL_law_1085 : decode cL_law 1085 = .ok (.aload_n 1, 1) := by decide +kernel
theorem dL_law_1086 : decode cL_law 1086 = .ok (.aload_n 0, 1) := by decide +kernel
theorem dL_law_1087 : decode cL_law 1087 = .ok (.iload 4, 2) := by decide +kernel
theorem dL_law_1089 : decode cL_law 1089 = .ok (.iconst 1, 1) := by decide +kernel
theorem dL_law_1090 : decode cL_law 1090 = .ok (.iadd, 1) := by decide +kernel
theorem dL_law_1091 : decode cL_law 1091 = .ok (.iaload, 1) := by decide +kernel
theorem dL_law_1092 : decode cL_law 1092 = .ok (.aload_n 0, 1) := by decide +kernel
theorem dL_law_1093 : decode cL_law 1093 = .ok (.iload 4, 2) := by decide +kernel
theorem dL_law_1095 : decode cL_law 1095 = .ok (.iconst 2, 1) := by decide +kernel
theorem dL_law_1096 : decode cL_law 1096 = .ok (.iadd, 1) := by decide +kernel
theorem dL_law_1097 : decode cL_law 1097 = .ok (.iaload, 1) := by decide +kernel
theorem dL_law_1098 : decode cL_law 1098 = .ok (.aload_n 3, 1) := by decide +kernel
theorem dL_law_1099 : decode cL_law 1099 = .ok (.invokestatic 182, 3) := by decide +kernel
theorem dL_law_1102 : decode cL_law 1102 = .ok (.istore 5, 2) := by decide +kernel
theorem dL_law_1104 : decode cL_law 1104 = .ok (.aload_n 2, 1) := by decide +kernel
theorem dL_law_1105 : decode cL_law 1105 = .ok (.aload_n 0, 1) := by decide +kernel
theorem dL_law_1106 : decode cL_law 1106 = .ok (.iload 4, 2) := by decide +kernel
theorem dL_law_1108 : decode cL_law 1108 = .ok (.iconst 1, 1) := by decide +kernel
theorem dL_law_1109 : decode cL_law 1109 = .ok (.iadd, 1) := by decide +kernel
theorem dL_law_1110 : decode cL_law 1110 = .ok (.iaload, 1) := by decide +kernel
theorem dL_law_1111 : decode cL_law 1111 = .ok (.aload_n 0, 1) := by decide +kernel
theorem dL_law_1112 : decode cL_law 1112 = .ok (.iload 4, 2) := by decide +kernel
theorem dL_law_1114 : decode cL_law 1114 = .ok (.iconst 2, 1) := by decide +kernel
theorem dL_law_1115 : decode cL_law 1115 = .ok (.iadd, 1) := by decide +kernel
theorem dL_law_1116 : decode cL_law 1116 = .ok (.iaload, 1) := by decide +kernel
theorem dL_law_1117 : decode cL_law 1117 = .ok (.invokevirtual 184, 3) := by decide +kernel
theorem dL_law_1120 : decode cL_law 1120 = .ok (.istore 6, 2) := by decide +kernel
theorem dL_law_1122 : decode cL_law 1122 = .ok (.aload_n 2, 1) := by decide +kernel
theorem dL_law_1123 : decode cL_law 1123 = .ok (.invokevirtual 127, 3) := by decide +kernel
theorem dL_law_1126 : decode cL_law 1126 = .ok (.iload 5, 2) := by decide +kernel
theorem dL_law_1128 : decode cL_law 1128 = .ok (.if_icmp .eq 5, 3) := by decide +kernel
theorem dL_law_1131 : decode cL_law 1131 = .ok (.iconst 0, 1) := by decide +kernel
theorem dL_law_1132 : decode cL_law 1132 = .ok (.ireturn, 1) := by decide +kernel
theorem dL_law_1133 : decode cL_law 1133 = .ok (.iload 5, 2) := by decide +kernel
theorem dL_law_1135 : decode cL_law 1135 = .ok (.ifCond .ne 15, 3) := by decide +kernel
theorem dL_law_1138 : decode cL_law 1138 = .ok (.aload_n 3, 1) := by decide +kernel
theorem dL_law_1139 : decode cL_law 1139 = .ok (.iconst 0, 1) := by decide +kernel
theorem dL_law_1140 : decode cL_law 1140 = .ok (.laload, 1) := by decide +kernel
theorem dL_law_1141 : decode cL_law 1141 = .ok (.iload 6, 2) := by decide +kernel
theorem dL_law_1143 : decode cL_law 1143 = .ok (.i2l, 1) := by decide +kernel
theorem dL_law_1144 : decode cL_law 1144 = .ok (.lcmp, 1) := by decide +kernel
theorem dL_law_1145 : decode cL_law 1145 = .ok (.ifCond .eq 5, 3) := by decide +kernel
theorem dL_law_1148 : decode cL_law 1148 = .ok (.iconst 0, 1) := by decide +kernel
theorem dL_law_1149 : decode cL_law 1149 = .ok (.ireturn, 1) := by decide +kernel
theorem dL_law_1150 : decode cL_law 1150 = .ok (.goto 844, 3) := by decide +kernel
theorem dL_law_1153 : decode cL_law 1153 = .ok (.aload_n 1, 1) := by decide +kernel
theorem dL_law_1154 : decode cL_law 1154 = .ok (.aload_n 3, 1) := by decide +kernel
theorem dL_law_1155 : decode cL_law 1155 = .ok (.invokestatic 185, 3) := by decide +kernel
theorem dL_law_1158 : decode cL_law 1158 = .ok (.istore 5, 2) := by decide +kernel
theorem dL_law_1160 : decode cL_law 1160 = .ok (.aload_n 2, 1) := by decide +kernel
theorem dL_law_1161 : decode cL_law 1161 = .ok (.invokevirtual 187, 3) := by decide +kernel
theorem dL_law_1164 : decode cL_law 1164 = .ok (.istore 6, 2) := by decide +kernel
theorem dL_law_1166 : decode cL_law 1166 = .ok (.aload_n 2, 1) := by decide +kernel
theorem dL_law_1167 : decode cL_law 1167 = .ok (.invokevirtual 127, 3) := by decide +kernel
theorem dL_law_1170 : decode cL_law 1170 = .ok (.iload 5, 2) := by decide +kernel
theorem dL_law_1172 : decode cL_law 1172 = .ok (.if_icmp .eq 5, 3) := by decide +kernel
theorem dL_law_1175 : decode cL_law 1175 = .ok (.iconst 0, 1) := by decide +kernel
theorem dL_law_1176 : decode cL_law 1176 = .ok (.ireturn, 1) := by decide +kernel
theorem dL_law_1177 : decode cL_law 1177 = .ok (.iload 5, 2) := by decide +kernel
theorem dL_law_1179 : decode cL_law 1179 = .ok (.ifCond .ne 15, 3) := by decide +kernel
theorem dL_law_1182 : decode cL_law 1182 = .ok (.aload_n 3, 1) := by decide +kernel
theorem dL_law_1183 : decode cL_law 1183 = .ok (.iconst 0, 1) := by decide +kernel
theorem dL_law_1184 : decode cL_law 1184 = .ok (.laload, 1) := by decide +kernel
theorem dL_law_1185 : decode cL_law 1185 = .ok (.iload 6, 2) := by decide +kernel
theorem dL_law_1187 : decode cL_law 1187 = .ok (.i2l, 1) := by decide +kernel
theorem dL_law_1188 : decode cL_law 1188 = .ok (.lcmp, 1) := by decide +kernel
theorem dL_law_1189 : decode cL_law 1189 = .ok (.ifCond .eq 5, 3) := by decide +kernel
theorem dL_law_1192 : decode cL_law 1192 = .ok (.iconst 0, 1) := by decide +kernel
theorem dL_law_1193 : decode cL_law 1193 = .ok (.ireturn, 1) := by decide +kernel
theorem dL_law_1194 : decode cL_law 1194 = .ok (.goto 800, 3) := by decide +kernel
theorem dL_law_1197 : decode cL_law 1197 = .ok (.aload_n 1, 1) := by decide +kernel
theorem dL_law_1198 : decode cL_law 1198 = .ok (.aload_n 0, 1) := by decide +kernel
theorem dL_law_1199 : decode cL_law 1199 = .ok (.iload 4, 2) := by decide +kernel
theorem dL_law_1201 : decode cL_law 1201 = .ok (.iconst 1, 1) := by decide +kernel
theorem dL_law_1202 : decode cL_law 1202 = .ok (.iadd, 1) := by decide +kernel
theorem dL_law_1203 : decode cL_law 1203 = .ok (.iaload, 1) := by decide +kernel
theorem dL_law_1204 : decode cL_law 1204 = .ok (.aload_n 3, 1) := by decide +kernel
theorem dL_law_1205 : decode cL_law 1205 = .ok (.invokestatic 188, 3) := by decide +kernel
theorem dL_law_1208 : decode cL_law 1208 = .ok (.istore 5, 2) := by decide +kernel
theorem dL_law_1210 : decode cL_law 1210 = .ok (.aload_n 2, 1) := by decide +kernel
theorem dL_law_1211 : decode cL_law 1211 = .ok (.aload_n 0, 1) := by decide +kernel
theorem dL_law_1212 : decode cL_law 1212 = .ok (.iload 4, 2) := by decide +kernel
theorem dL_law_1214 : decode cL_law 1214 = .ok (.iconst 1, 1) := by decide +kernel
theorem dL_law_1215 : decode cL_law 1215 = .ok (.iadd, 1) := by decide +kernel
theorem dL_law_1216 : decode cL_law 1216 = .ok (.iaload, 1) := by decide +kernel
theorem dL_law_1217 : decode cL_law 1217 = .ok (.invokevirtual 190, 3) := by decide +kernel
theorem dL_law_1220 : decode cL_law 1220 = .ok (.istore 6, 2) := by decide +kernel
theorem dL_law_1222 : decode cL_law 1222 = .ok (.aload_n 2, 1) := by decide +kernel
theorem dL_law_1223 : decode cL_law 1223 = .ok (.invokevirtual 127, 3) := by decide +kernel
theorem dL_law_1226 : decode cL_law 1226 = .ok (.iload 5, 2) := by decide +kernel
theorem dL_law_1228 : decode cL_law 1228 = .ok (.if_icmp .eq 5, 3) := by decide +kernel
theorem dL_law_1231 : decode cL_law 1231 = .ok (.iconst 0, 1) := by decide +kernel
theorem dL_law_1232 : decode cL_law 1232 = .ok (.ireturn, 1) := by decide +kernel
theorem dL_law_1233 : decode cL_law 1233 = .ok (.iload 5, 2) := by decide +kernel
theorem dL_law_1235 : decode cL_law 1235 = .ok (.ifCond .ne 15, 3) := by decide +kernel
theorem dL_law_1238 : decode cL_law 1238 = .ok (.aload_n 3, 1) := by decide +kernel
theorem dL_law_1239 : decode cL_law 1239 = .ok (.iconst 0, 1) := by decide +kernel
theorem dL_law_1240 : decode cL_law 1240 = .ok (.laload, 1) := by decide +kernel
theorem dL_law_1241 : decode cL_law 1241 = .ok (.iload 6, 2) := by decide +kernel
theorem dL_law_1243 : decode cL_law 1243 = .ok (.i2l, 1) := by decide +kernel
theorem dL_law_1244 : decode cL_law 1244 = .ok (.lcmp, 1) := by decide +kernel
theorem dL_law_1245 : decode cL_law 1245 = .ok (.ifCond .eq 5, 3) := by decide +kernel
theorem dL_law_1248 : decode cL_law 1248 = .ok (.iconst 0, 1) := by decide +kernel
theorem dL_law_1249 : decode cL_law 1249 = .ok (.ireturn, 1) := by decide +kernel
theorem dL_law_1250 : decode cL_law 1250 = .ok (.goto 744, 3) := by decide +kernel
theorem dL_law_1253 : decode cL_law 1253 = .ok (.aload_n 1, 1) := by decide +kernel
theorem dL_law_1254 : decode cL_law 1254 = .ok (.aload_n 0, 1) := by decide +kernel
theorem dL_law_1255 : decode cL_law 1255 = .ok (.iload 4, 2) := by decide +kernel
theorem dL_law_1257 : decode cL_law 1257 = .ok (.iconst 1, 1) := by decide +kernel
theorem dL_law_1258 : decode cL_law 1258 = .ok (.iadd, 1) := by decide +kernel
theorem dL_law_1259 : decode cL_law 1259 = .ok (.iaload, 1) := by decide +kernel
theorem dL_law_1260 : decode cL_law 1260 = .ok (.aload_n 0, 1) := by decide +kernel
theorem dL_law_1261 : decode cL_law 1261 = .ok (.iload 4, 2) := by decide +kernel
theorem dL_law_1263 : decode cL_law 1263 = .ok (.iconst 2, 1) := by decide +kernel
theorem dL_law_1264 : decode cL_law 1264 = .ok (.iadd, 1) := by decide +kernel
theorem dL_law_1265 : decode cL_law 1265 = .ok (.iaload, 1) := by decide +kernel
theorem dL_law_1266 : decode cL_law 1266 = .ok (.aload_n 3, 1) := by decide +kernel
theorem dL_law_1267 : decode cL_law 1267 = .ok (.invokestatic 191, 3) := by decide +kernel
theorem dL_law_1270 : decode cL_law 1270 = .ok (.istore 5, 2) := by decide +kernel
theorem dL_law_1272 : decode cL_law 1272 = .ok (.aload_n 2, 1) := by decide +kernel
theorem dL_law_1273 : decode cL_law 1273 = .ok (.aload_n 0, 1) := by decide +kernel
theorem dL_law_1274 : decode cL_law 1274 = .ok (.iload 4, 2) := by decide +kernel
theorem dL_law_1276 : decode cL_law 1276 = .ok (.iconst 1, 1) := by decide +kernel
theorem dL_law_1277 : decode cL_law 1277 = .ok (.iadd, 1) := by decide +kernel
theorem dL_law_1278 : decode cL_law 1278 = .ok (.iaload, 1) := by decide +kernel
theorem dL_law_1279 : decode cL_law 1279 = .ok (.aload_n 0, 1) := by decide +kernel
theorem dL_law_1280 : decode cL_law 1280 = .ok (.iload 4, 2) := by decide +kernel
theorem dL_law_1282 : decode cL_law 1282 = .ok (.iconst 2, 1) := by decide +kernel
theorem dL_law_1283 : decode cL_law 1283 = .ok (.iadd, 1) := by decide +kernel
theorem dL_law_1284 : decode cL_law 1284 = .ok (.iaload, 1) := by decide +kernel
theorem dL_law_1285 : decode cL_law 1285 = .ok (.invokevirtual 193, 3) := by decide +kernel
theorem dL_law_1288 : decode cL_law 1288 = .ok (.istore 6, 2) := by decide +kernel
theorem dL_law_1290 : decode cL_law 1290 = .ok (.aload_n 2, 1) := by decide +kernel
theorem dL_law_1291 : decode cL_law 1291 = .ok (.invokevirtual 127, 3) := by decide +kernel
theorem dL_law_1294 : decode cL_law 1294 = .ok (.iload 5, 2) := by decide +kernel
theorem dL_law_1296 : decode cL_law 1296 = .ok (.if_icmp .eq 5, 3) := by decide +kernel
theorem dL_law_1299 : decode cL_law 1299 = .ok (.iconst 0, 1) := by decide +kernel
theorem dL_law_1300 : decode cL_law 1300 = .ok (.ireturn, 1) := by decide +kernel
theorem dL_law_1301 : decode cL_law 1301 = .ok (.iload 5, 2) := by decide +kernel
theorem dL_law_1303 : decode cL_law 1303 = .ok (.ifCond .ne 15, 3) := by decide +kernel
theorem dL_law_1306 : decode cL_law 1306 = .ok (.aload_n 3, 1) := by decide +kernel
theorem dL_law_1307 : decode cL_law 1307 = .ok (.iconst 0, 1) := by decide +kernel
theorem dL_law_1308 : decode cL_law 1308 = .ok (.laload, 1) := by decide +kernel
theorem dL_law_1309 : decode cL_law 1309 = .ok (.iload 6, 2) := by decide +kernel
theorem dL_law_1311 : decode cL_law 1311 = .ok (.i2l, 1) := by decide +kernel
theorem dL_law_1312 : decode cL_law 1312 = .ok (.lcmp, 1) := by decide +kernel
theorem dL_law_1313 : decode cL_law 1313 = .ok (.ifCond .eq 5, 3) := by decide +kernel
theorem dL_law_1316 : decode cL_law 1316 = .ok (.iconst 0, 1) := by decide +kernel
theorem dL_law_1317 : decode cL_law 1317 = .ok (.ireturn, 1) := by decide +kernel
theorem dL_law_1318 : decode cL_law 1318 = .ok (.goto 676, 3) := by decide +kernel
theorem dL_law_1321 : decode cL_law 1321 = .ok (.aload_n 1, 1) := by decide +kernel
theorem dL_law_1322 : decode cL_law 1322 = .ok (.aload_n 0, 1) := by decide +kernel
theorem dL_law_1323 : decode cL_law 1323 = .ok (.iload 4, 2) := by decide +kernel
theorem dL_law_1325 : decode cL_law 1325 = .ok (.iconst 1, 1) := by decide +kernel
theorem dL_law_1326 : decode cL_law 1326 = .ok (.iadd, 1) := by decide +kernel
theorem dL_law_1327 : decode cL_law 1327 = .ok (.iaload, 1) := by decide +kernel
theorem dL_law_1328 : decode cL_law 1328 = .ok (.aload_n 0, 1) := by decide +kernel
theorem dL_law_1329 : decode cL_law 1329 = .ok (.iload 4, 2) := by decide +kernel
theorem dL_law_1331 : decode cL_law 1331 = .ok (.iconst 2, 1) := by decide +kernel
theorem dL_law_1332 : decode cL_law 1332 = .ok (.iadd, 1) := by decide +kernel
theorem dL_law_1333 : decode cL_law 1333 = .ok (.iaload, 1) := by decide +kernel
theorem dL_law_1334 : decode cL_law 1334 = .ok (.aload_n 3, 1) := by decide +kernel
theorem dL_law_1335 : decode cL_law 1335 = .ok (.invokestatic 194, 3) := by decide +kernel
theorem dL_law_1338 : decode cL_law 1338 = .ok (.istore 5, 2) := by decide +kernel
theorem dL_law_1340 : decode cL_law 1340 = .ok (.aload_n 2, 1) := by decide +kernel
theorem dL_law_1341 : decode cL_law 1341 = .ok (.aload_n 0, 1) := by decide +kernel
theorem dL_law_1342 : decode cL_law 1342 = .ok (.iload 4, 2) := by decide +kernel
theorem dL_law_1344 : decode cL_law 1344 = .ok (.iconst 1, 1) := by decide +kernel
theorem dL_law_1345 : decode cL_law 1345 = .ok (.iadd, 1) := by decide +kernel
theorem dL_law_1346 : decode cL_law 1346 = .ok (.iaload, 1) := by decide +kernel
theorem dL_law_1347 : decode cL_law 1347 = .ok (.aload_n 0, 1) := by decide +kernel
theorem dL_law_1348 : decode cL_law 1348 = .ok (.iload 4, 2) := by decide +kernel
theorem dL_law_1350 : decode cL_law 1350 = .ok (.iconst 2, 1) := by decide +kernel
theorem dL_law_1351 : decode cL_law 1351 = .ok (.iadd, 1) := by decide +kernel
theorem dL_law_1352 : decode cL_law 1352 = .ok (.iaload, 1) := by decide +kernel
theorem dL_law_1353 : decode cL_law 1353 = .ok (.invokevirtual 196, 3) := by decide +kernel
theorem dL_law_1356 : decode cL_law 1356 = .ok (.istore 6, 2) := by decide +kernel
theorem dL_law_1358 : decode cL_law 1358 = .ok (.aload_n 2, 1) := by decide +kernel
theorem dL_law_1359 : decode cL_law 1359 = .ok (.invokevirtual 127, 3) := by decide +kernel
theorem dL_law_1362 : decode cL_law 1362 = .ok (.iload 5, 2) := by decide +kernel
theorem dL_law_1364 : decode cL_law 1364 = .ok (.if_icmp .eq 5, 3) := by decide +kernel
theorem dL_law_1367 : decode cL_law 1367 = .ok (.iconst 0, 1) := by decide +kernel
theorem dL_law_1368 : decode cL_law 1368 = .ok (.ireturn, 1) := by decide +kernel
theorem dL_law_1369 : decode cL_law 1369 = .ok (.iload 5, 2) := by decide +kernel
theorem dL_law_1371 : decode cL_law 1371 = .ok (.ifCond .ne 15, 3) := by decide +kernel
theorem dL_law_1374 : decode cL_law 1374 = .ok (.aload_n 3, 1) := by decide +kernel
theorem dL_law_1375 : decode cL_law 1375 = .ok (.iconst 0, 1) := by decide +kernel
theorem dL_law_1376 : decode cL_law 1376 = .ok (.laload, 1) := by decide +kernel
theorem dL_law_1377 : decode cL_law 1377 = .ok (.iload 6, 2) := by decide +kernel
theorem dL_law_1379 : decode cL_law 1379 = .ok (.i2l, 1) := by decide +kernel
theorem dL_law_1380 : decode cL_law 1380 = .ok (.lcmp, 1) := by decide +kernel
theorem dL_law_1381 : decode cL_law 1381 = .ok (.ifCond .eq 5, 3) := by decide +kernel
theorem dL_law_1384 : decode cL_law 1384 = .ok (.iconst 0, 1) := by decide +kernel
theorem dL_law_1385 : decode cL_law 1385 = .ok (.ireturn, 1) := by decide +kernel
theorem dL_law_1386 : decode cL_law 1386 = .ok (.goto 608, 3) := by decide +kernel
theorem dL_law_1389 : decode cL_law 1389 = .ok (.aload_n 1, 1) := by decide +kernel
theorem dL_law_1390 : decode cL_law 1390 = .ok (.aload_n 0, 1) := by decide +kernel
theorem dL_law_1391 : decode cL_law 1391 = .ok (.iload 4, 2) := by decide +kernel
theorem dL_law_1393 : decode cL_law 1393 = .ok (.iconst 1, 1) := by decide +kernel
theorem dL_law_1394 : decode cL_law 1394 = .ok (.iadd, 1) := by decide +kernel
theorem dL_law_1395 : decode cL_law 1395 = .ok (.iaload, 1) := by decide +kernel
theorem dL_law_1396 : decode cL_law 1396 = .ok (.aload_n 3, 1) := by decide +kernel
theorem dL_law_1397 : decode cL_law 1397 = .ok (.invokestatic 197, 3) := by decide +kernel
theorem dL_law_1400 : decode cL_law 1400 = .ok (.istore 5, 2) := by decide +kernel
theorem dL_law_1402 : decode cL_law 1402 = .ok (.aload_n 2, 1) := by decide +kernel
theorem dL_law_1403 : decode cL_law 1403 = .ok (.aload_n 0, 1) := by decide +kernel
theorem dL_law_1404 : decode cL_law 1404 = .ok (.iload 4, 2) := by decide +kernel
theorem dL_law_1406 : decode cL_law 1406 = .ok (.iconst 1, 1) := by decide +kernel
theorem dL_law_1407 : decode cL_law 1407 = .ok (.iadd, 1) := by decide +kernel
theorem dL_law_1408 : decode cL_law 1408 = .ok (.iaload, 1) := by decide +kernel
theorem dL_law_1409 : decode cL_law 1409 = .ok (.invokevirtual 199, 3) := by decide +kernel
theorem dL_law_1412 : decode cL_law 1412 = .ok (.istore 6, 2) := by decide +kernel
theorem dL_law_1414 : decode cL_law 1414 = .ok (.aload_n 2, 1) := by decide +kernel
theorem dL_law_1415 : decode cL_law 1415 = .ok (.invokevirtual 127, 3) := by decide +kernel
theorem dL_law_1418 : decode cL_law 1418 = .ok (.iload 5, 2) := by decide +kernel
theorem dL_law_1420 : decode cL_law 1420 = .ok (.if_icmp .eq 5, 3) := by decide +kernel
theorem dL_law_1423 : decode cL_law 1423 = .ok (.iconst 0, 1) := by decide +kernel
theorem dL_law_1424 : decode cL_law 1424 = .ok (.ireturn, 1) := by decide +kernel
theorem dL_law_1425 : decode cL_law 1425 = .ok (.iload 5, 2) := by decide +kernel
theorem dL_law_1427 : decode cL_law 1427 = .ok (.ifCond .ne 15, 3) := by decide +kernel
theorem dL_law_1430 : decode cL_law 1430 = .ok (.aload_n 3, 1) := by decide +kernel
theorem dL_law_1431 : decode cL_law 1431 = .ok (.iconst 0, 1) := by decide +kernel
theorem dL_law_1432 : decode cL_law 1432 = .ok (.laload, 1) := by decide +kernel
theorem dL_law_1433 : decode cL_law 1433 = .ok (.iload 6, 2) := by decide +kernel
theorem dL_law_1435 : decode cL_law 1435 = .ok (.i2l, 1) := by decide +kernel
theorem dL_law_1436 : decode cL_law 1436 = .ok (.lcmp, 1) := by decide +kernel
theorem dL_law_1437 : decode cL_law 1437 = .ok (.ifCond .eq 5, 3) := by decide +kernel
theorem dL_law_1440 : decode cL_law 1440 = .ok (.iconst 0, 1) := by decide +kernel
theorem dL_law_1441 : decode cL_law 1441 = .ok (.ireturn, 1) := by decide +kernel
theorem dL_law_1442 : decode cL_law 1442 = .ok (.goto 552, 3) := by decide +kernel
theorem dL_law_1445 : decode cL_law 1445 = .ok (.aload_n 1, 1) := by decide +kernel
theorem dL_law_1446 : decode cL_law 1446 = .ok (.aload_n 0, 1) := by decide +kernel
theorem dL_law_1447 : decode cL_law 1447 = .ok (.iload 4, 2) := by decide +kernel
theorem dL_law_1449 : decode cL_law 1449 = .ok (.iconst 1, 1) := by decide +kernel
theorem dL_law_1450 : decode cL_law 1450 = .ok (.iadd, 1) := by decide +kernel
theorem dL_law_1451 : decode cL_law 1451 = .ok (.iaload, 1) := by decide +kernel
theorem dL_law_1452 : decode cL_law 1452 = .ok (.aload_n 3, 1) := by decide +kernel
theorem dL_law_1453 : decode cL_law 1453 = .ok (.invokestatic 200, 3) := by decide +kernel
theorem dL_law_1456 : decode cL_law 1456 = .ok (.istore 5, 2) := by decide +kernel
theorem dL_law_1458 : decode cL_law 1458 = .ok (.aload_n 2, 1) := by decide +kernel
theorem dL_law_1459 : decode cL_law 1459 = .ok (.aload_n 0, 1) := by decide +kernel
theorem dL_law_1460 : decode cL_law 1460 = .ok (.iload 4, 2) := by decide +kernel
theorem dL_law_1462 : decode cL_law 1462 = .ok (.iconst 1, 1) := by decide +kernel
theorem dL_law_1463 : decode cL_law 1463 = .ok (.iadd, 1) := by decide +kernel
theorem dL_law_1464 : decode cL_law 1464 = .ok (.iaload, 1) := by decide +kernel
theorem dL_law_1465 : decode cL_law 1465 = .ok (.invokevirtual 202, 3) := by decide +kernel
theorem dL_law_1468 : decode cL_law 1468 = .ok (.istore 6, 2) := by decide +kernel
theorem dL_law_1470 : decode cL_law 1470 = .ok (.aload_n 2, 1) := by decide +kernel
theorem dL_law_1471 : decode cL_law 1471 = .ok (.invokevirtual 127, 3) := by decide +kernel
theorem dL_law_1474 : decode cL_law 1474 = .ok (.iload 5, 2) := by decide +kernel
theorem dL_law_1476 : decode cL_law 1476 = .ok (.if_icmp .eq 5, 3) := by decide +kernel
theorem dL_law_1479 : decode cL_law 1479 = .ok (.iconst 0, 1) := by decide +kernel
theorem dL_law_1480 : decode cL_law 1480 = .ok (.ireturn, 1) := by decide +kernel
theorem dL_law_1481 : decode cL_law 1481 = .ok (.iload 5, 2) := by decide +kernel
theorem dL_law_1483 : decode cL_law 1483 = .ok (.ifCond .ne 15, 3) := by decide +kernel
theorem dL_law_1486 : decode cL_law 1486 = .ok (.aload_n 3, 1) := by decide +kernel
theorem dL_law_1487 : decode cL_law 1487 = .ok (.iconst 0, 1) := by decide +kernel
theorem dL_law_1488 : decode cL_law 1488 = .ok (.laload, 1) := by decide +kernel
theorem dL_law_1489 : decode cL_law 1489 = .ok (.iload 6, 2) := by decide +kernel
theorem dL_law_1491 : decode cL_law 1491 = .ok (.i2l, 1) := by decide +kernel
theorem dL_law_1492 : decode cL_law 1492 = .ok (.lcmp, 1) := by decide +kernel
theorem dL_law_1493 : decode cL_law 1493 = .ok (.ifCond .eq 5, 3) := by decide +kernel
theorem dL_law_1496 : decode cL_law 1496 = .ok (.iconst 0, 1) := by decide +kernel
theorem dL_law_1497 : decode cL_law 1497 = .ok (.ireturn, 1) := by decide +kernel
theorem dL_law_1498 : decode cL_law 1498 = .ok (.goto 496, 3) := by decide +kernel
theorem dL_law_1501 : decode cL_law 1501 = .ok (.aload_n 1, 1) := by decide +kernel
theorem dL_law_1502 : decode cL_law 1502 = .ok (.aload_n 3, 1) := by decide +kernel
theorem dL_law_1503 : decode cL_law 1503 = .ok (.invokestatic 203, 3) := by decide +kernel
theorem dL_law_1506 : decode cL_law 1506 = .ok (.istore 5, 2) := by decide +kernel
theorem dL_law_1508 : decode cL_law 1508 = .ok (.aload_n 2, 1) := by decide +kernel
theorem dL_law_1509 : decode cL_law 1509 = .ok (.invokevirtual 205, 3) := by decide +kernel
theorem dL_law_1512 : decode cL_law 1512 = .ok (.istore 6, 2) := by decide +kernel
theorem dL_law_1514 : decode cL_law 1514 = .ok (.aload_n 2, 1) := by decide +kernel
theorem dL_law_1515 : decode cL_law 1515 = .ok (.invokevirtual 127, 3) := by decide +kernel
theorem dL_law_1518 : decode cL_law 1518 = .ok (.iload 5, 2) := by decide +kernel
theorem dL_law_1520 : decode cL_law 1520 = .ok (.if_icmp .eq 5, 3) := by decide +kernel
theorem dL_law_1523 : decode cL_law 1523 = .ok (.iconst 0, 1) := by decide +kernel
theorem dL_law_1524 : decode cL_law 1524 = .ok (.ireturn, 1) := by decide +kernel
theorem dL_law_1525 : decode cL_law 1525 = .ok (.iload 5, 2) := by decide +kernel
theorem dL_law_1527 : decode cL_law 1527 = .ok (.ifCond .ne 15, 3) := by decide +kernel
theorem dL_law_1530 : decode cL_law 1530 = .ok (.aload_n 3, 1) := by decide +kernel
theorem dL_law_1531 : decode cL_law 1531 = .ok (.iconst 0, 1) := by decide +kernel
theorem dL_law_1532 : decode cL_law 1532 = .ok (.laload, 1) := by decide +kernel
theorem dL_law_1533 : decode cL_law 1533 = .ok (.iload 6, 2) := by decide +kernel
theorem dL_law_1535 : decode cL_law 1535 = .ok (.i2l, 1) := by decide +kernel
theorem dL_law_1536 : decode cL_law 1536 = .ok (.lcmp, 1) := by decide +kernel
theorem dL_law_1537 : decode cL_law 1537 = .ok (.ifCond .eq 5, 3) := by decide +kernel
theorem dL_law_1540 : decode cL_law 1540 = .ok (.iconst 0, 1) := by decide +kernel
theorem dL_law_1541 : decode cL_law 1541 = .ok (.ireturn, 1) := by decide +kernel
theorem dL_law_1542 : decode cL_law 1542 = .ok (.goto 452, 3) := by decide +kernel
theorem dL_law_1545 : decode cL_law 1545 = .ok (.aload_n 1, 1) := by decide +kernel
theorem dL_law_1546 : decode cL_law 1546 = .ok (.aload_n 0, 1) := by decide +kernel
theorem dL_law_1547 : decode cL_law 1547 = .ok (.iload 4, 2) := by decide +kernel
theorem dL_law_1549 : decode cL_law 1549 = .ok (.iconst 1, 1) := by decide +kernel
theorem dL_law_1550 : decode cL_law 1550 = .ok (.iadd, 1) := by decide +kernel
theorem dL_law_1551 : decode cL_law 1551 = .ok (.iaload, 1) := by decide +kernel
theorem dL_law_1552 : decode cL_law 1552 = .ok (.aload_n 0, 1) := by decide +kernel
theorem dL_law_1553 : decode cL_law 1553 = .ok (.iload 4, 2) := by decide +kernel
theorem dL_law_1555 : decode cL_law 1555 = .ok (.iconst 2, 1) := by decide +kernel
theorem dL_law_1556 : decode cL_law 1556 = .ok (.iadd, 1) := by decide +kernel
theorem dL_law_1557 : decode cL_law 1557 = .ok (.iaload, 1) := by decide +kernel
theorem dL_law_1558 : decode cL_law 1558 = .ok (.aload_n 3, 1) := by decide +kernel
theorem dL_law_1559 : decode cL_law 1559 = .ok (.invokestatic 206, 3) := by decide +kernel
theorem dL_law_1562 : decode cL_law 1562 = .ok (.istore 5, 2) := by decide +kernel
theorem dL_law_1564 : decode cL_law 1564 = .ok (.aload_n 2, 1) := by decide +kernel
theorem dL_law_1565 : decode cL_law 1565 = .ok (.aload_n 0, 1) := by decide +kernel
theorem dL_law_1566 : decode cL_law 1566 = .ok (.iload 4, 2) := by decide +kernel
theorem dL_law_1568 : decode cL_law 1568 = .ok (.iconst 1, 1) := by decide +kernel
theorem dL_law_1569 : decode cL_law 1569 = .ok (.iadd, 1) := by decide +kernel
theorem dL_law_1570 : decode cL_law 1570 = .ok (.iaload, 1) := by decide +kernel
theorem dL_law_1571 : decode cL_law 1571 = .ok (.aload_n 0, 1) := by decide +kernel
theorem dL_law_1572 : decode cL_law 1572 = .ok (.iload 4, 2) := by decide +kernel
theorem dL_law_1574 : decode cL_law 1574 = .ok (.iconst 2, 1) := by decide +kernel
theorem dL_law_1575 : decode cL_law 1575 = .ok (.iadd, 1) := by decide +kernel
theorem dL_law_1576 : decode cL_law 1576 = .ok (.iaload, 1) := by decide +kernel
theorem dL_law_1577 : decode cL_law 1577 = .ok (.invokevirtual 208, 3) := by decide +kernel
theorem dL_law_1580 : decode cL_law 1580 = .ok (.istore 6, 2) := by decide +kernel
theorem dL_law_1582 : decode cL_law 1582 = .ok (.aload_n 2, 1) := by decide +kernel
theorem dL_law_1583 : decode cL_law 1583 = .ok (.invokevirtual 127, 3) := by decide +kernel
theorem dL_law_1586 : decode cL_law 1586 = .ok (.iload 5, 2) := by decide +kernel
theorem dL_law_1588 : decode cL_law 1588 = .ok (.if_icmp .eq 5, 3) := by decide +kernel
theorem dL_law_1591 : decode cL_law 1591 = .ok (.iconst 0, 1) := by decide +kernel
theorem dL_law_1592 : decode cL_law 1592 = .ok (.ireturn, 1) := by decide +kernel
theorem dL_law_1593 : decode cL_law 1593 = .ok (.iload 5, 2) := by decide +kernel
theorem dL_law_1595 : decode cL_law 1595 = .ok (.ifCond .ne 15, 3) := by decide +kernel
theorem dL_law_1598 : decode cL_law 1598 = .ok (.aload_n 3, 1) := by decide +kernel
theorem dL_law_1599 : decode cL_law 1599 = .ok (.iconst 0, 1) := by decide +kernel
theorem dL_law_1600 : decode cL_law 1600 = .ok (.laload, 1) := by decide +kernel
theorem dL_law_1601 : decode cL_law 1601 = .ok (.iload 6, 2) := by decide +kernel
theorem dL_law_1603 : decode cL_law 1603 = .ok (.i2l, 1) := by decide +kernel
theorem dL_law_1604 : decode cL_law 1604 = .ok (.lcmp, 1) := by decide +kernel
theorem dL_law_1605 : decode cL_law 1605 = .ok (.ifCond .eq 5, 3) := by decide +kernel
theorem dL_law_1608 : decode cL_law 1608 = .ok (.iconst 0, 1) := by decide +kernel
theorem dL_law_1609 : decode cL_law 1609 = .ok (.ireturn, 1) := by decide +kernel
theorem dL_law_1610 : decode cL_law 1610 = .ok (.goto 384, 3) := by decide +kernel
theorem dL_law_1613 : decode cL_law 1613 = .ok (.aload_n 1, 1) := by decide +kernel
theorem dL_law_1614 : decode cL_law 1614 = .ok (.aload_n 0, 1) := by decide +kernel
theorem dL_law_1615 : decode cL_law 1615 = .ok (.iload 4, 2) := by decide +kernel
theorem dL_law_1617 : decode cL_law 1617 = .ok (.iconst 1, 1) := by decide +kernel
theorem dL_law_1618 : decode cL_law 1618 = .ok (.iadd, 1) := by decide +kernel
theorem dL_law_1619 : decode cL_law 1619 = .ok (.iaload, 1) := by decide +kernel
theorem dL_law_1620 : decode cL_law 1620 = .ok (.aload_n 0, 1) := by decide +kernel
theorem dL_law_1621 : decode cL_law 1621 = .ok (.iload 4, 2) := by decide +kernel
theorem dL_law_1623 : decode cL_law 1623 = .ok (.iconst 2, 1) := by decide +kernel
theorem dL_law_1624 : decode cL_law 1624 = .ok (.iadd, 1) := by decide +kernel
theorem dL_law_1625 : decode cL_law 1625 = .ok (.iaload, 1) := by decide +kernel
theorem dL_law_1626 : decode cL_law 1626 = .ok (.aload_n 0, 1) := by decide +kernel
theorem dL_law_1627 : decode cL_law 1627 = .ok (.iload 4, 2) := by decide +kernel
theorem dL_law_1629 : decode cL_law 1629 = .ok (.iconst 3, 1) := by decide +kernel
theorem dL_law_1630 : decode cL_law 1630 = .ok (.iadd, 1) := by decide +kernel
theorem dL_law_1631 : decode cL_law 1631 = .ok (.iaload, 1) := by decide +kernel
theorem dL_law_1632 : decode cL_law 1632 = .ok (.aload_n 3, 1) := by decide +kernel
theorem dL_law_1633 : decode cL_law 1633 = .ok (.invokestatic 209, 3) := by decide +kernel
theorem dL_law_1636 : decode cL_law 1636 = .ok (.istore 5, 2) := by decide +kernel
theorem dL_law_1638 : decode cL_law 1638 = .ok (.aload_n 2, 1) := by decide +kernel
theorem dL_law_1639 : decode cL_law 1639 = .ok (.aload_n 0, 1) := by decide +kernel
theorem dL_law_1640 : decode cL_law 1640 = .ok (.iload 4, 2) := by decide +kernel
theorem dL_law_1642 : decode cL_law 1642 = .ok (.iconst 1, 1) := by decide +kernel
theorem dL_law_1643 : decode cL_law 1643 = .ok (.iadd, 1) := by decide +kernel
theorem dL_law_1644 : decode cL_law 1644 = .ok (.iaload, 1) := by decide +kernel
theorem dL_law_1645 : decode cL_law 1645 = .ok (.aload_n 0, 1) := by decide +kernel
theorem dL_law_1646 : decode cL_law 1646 = .ok (.iload 4, 2) := by decide +kernel
theorem dL_law_1648 : decode cL_law 1648 = .ok (.iconst 2, 1) := by decide +kernel
theorem dL_law_1649 : decode cL_law 1649 = .ok (.iadd, 1) := by decide +kernel
theorem dL_law_1650 : decode cL_law 1650 = .ok (.iaload, 1) := by decide +kernel
theorem dL_law_1651 : decode cL_law 1651 = .ok (.aload_n 0, 1) := by decide +kernel
theorem dL_law_1652 : decode cL_law 1652 = .ok (.iload 4, 2) := by decide +kernel
theorem dL_law_1654 : decode cL_law 1654 = .ok (.iconst 3, 1) := by decide +kernel
theorem dL_law_1655 : decode cL_law 1655 = .ok (.iadd, 1) := by decide +kernel
theorem dL_law_1656 : decode cL_law 1656 = .ok (.iaload, 1) := by decide +kernel
theorem dL_law_1657 : decode cL_law 1657 = .ok (.invokevirtual 211, 3) := by decide +kernel
theorem dL_law_1660 : decode cL_law 1660 = .ok (.istore 6, 2) := by decide +kernel
theorem dL_law_1662 : decode cL_law 1662 = .ok (.aload_n 2, 1) := by decide +kernel
theorem dL_law_1663 : decode cL_law 1663 = .ok (.invokevirtual 127, 3) := by decide +kernel
theorem dL_law_1666 : decode cL_law 1666 = .ok (.iload 5, 2) := by decide +kernel
theorem dL_law_1668 : decode cL_law 1668 = .ok (.if_icmp .eq 5, 3) := by decide +kernel
theorem dL_law_1671 : decode cL_law 1671 = .ok (.iconst 0, 1) := by decide +kernel
theorem dL_law_1672 : decode cL_law 1672 = .ok (.ireturn, 1) := by decide +kernel
theorem dL_law_1673 : decode cL_law 1673 = .ok (.iload 5, 2) := by decide +kernel
theorem dL_law_1675 : decode cL_law 1675 = .ok (.ifCond .ne 15, 3) := by decide +kernel
theorem dL_law_1678 : decode cL_law 1678 = .ok (.aload_n 3, 1) := by decide +kernel
theorem dL_law_1679 : decode cL_law 1679 = .ok (.iconst 0, 1) := by decide +kernel
theorem dL_law_1680 : decode cL_law 1680 = .ok (.laload, 1) := by decide +kernel
theorem dL_law_1681 : decode cL_law 1681 = .ok (.iload 6, 2) := by decide +kernel
theorem dL_law_1683 : decode cL_law 1683 = .ok (.i2l, 1) := by decide +kernel
theorem dL_law_1684 : decode cL_law 1684 = .ok (.lcmp, 1) := by decide +kernel
theorem dL_law_1685 : decode cL_law 1685 = .ok (.ifCond .eq 5, 3) := by decide +kernel
theorem dL_law_1688 : decode cL_law 1688 = .ok (.iconst 0, 1) := by decide +kernel
theorem dL_law_1689 : decode cL_law 1689 = .ok (.ireturn, 1) := by decide +kernel
theorem dL_law_1690 : decode cL_law 1690 = .ok (.goto 304, 3) := by decide +kernel
theorem dL_law_1693 : decode cL_law 1693 = .ok (.aload_n 1, 1) := by decide +kernel
theorem dL_law_1694 : decode cL_law 1694 = .ok (.aload_n 3, 1) := by decide +kernel
theorem dL_law_1695 : decode cL_law 1695 = .ok (.invokestatic 212, 3) := by decide +kernel
theorem dL_law_1698 : decode cL_law 1698 = .ok (.istore 5, 2) := by decide +kernel
theorem dL_law_1700 : decode cL_law 1700 = .ok (.aload_n 2, 1) := by decide +kernel
theorem dL_law_1701 : decode cL_law 1701 = .ok (.invokevirtual 214, 3) := by decide +kernel
theorem dL_law_1704 : decode cL_law 1704 = .ok (.istore 6, 2) := by decide +kernel
theorem dL_law_1706 : decode cL_law 1706 = .ok (.aload_n 2, 1) := by decide +kernel
theorem dL_law_1707 : decode cL_law 1707 = .ok (.invokevirtual 127, 3) := by decide +kernel
theorem dL_law_1710 : decode cL_law 1710 = .ok (.iload 5, 2) := by decide +kernel
theorem dL_law_1712 : decode cL_law 1712 = .ok (.if_icmp .eq 5, 3) := by decide +kernel
theorem dL_law_1715 : decode cL_law 1715 = .ok (.iconst 0, 1) := by decide +kernel
theorem dL_law_1716 : decode cL_law 1716 = .ok (.ireturn, 1) := by decide +kernel
theorem dL_law_1717 : decode cL_law 1717 = .ok (.iload 5, 2) := by decide +kernel
theorem dL_law_1719 : decode cL_law 1719 = .ok (.ifCond .ne 15, 3) := by decide +kernel
theorem dL_law_1722 : decode cL_law 1722 = .ok (.aload_n 3, 1) := by decide +kernel
theorem dL_law_1723 : decode cL_law 1723 = .ok (.iconst 0, 1) := by decide +kernel
theorem dL_law_1724 : decode cL_law 1724 = .ok (.laload, 1) := by decide +kernel
theorem dL_law_1725 : decode cL_law 1725 = .ok (.iload 6, 2) := by decide +kernel
theorem dL_law_1727 : decode cL_law 1727 = .ok (.i2l, 1) := by decide +kernel
theorem dL_law_1728 : decode cL_law 1728 = .ok (.lcmp, 1) := by decide +kernel
theorem dL_law_1729 : decode cL_law 1729 = .ok (.ifCond .eq 5, 3) := by decide +kernel
theorem dL_law_1732 : decode cL_law 1732 = .ok (.iconst 0, 1) := by decide +kernel
theorem dL_law_1733 : decode cL_law 1733 = .ok (.ireturn, 1) := by decide +kernel
theorem dL_law_1734 : decode cL_law 1734 = .ok (.goto 260, 3) := by decide +kernel
theorem dL_law_1737 : decode cL_law 1737 = .ok (.aload_n 1, 1) := by decide +kernel
theorem dL_law_1738 : decode cL_law 1738 = .ok (.aload_n 0, 1) := by decide +kernel
theorem dL_law_1739 : decode cL_law 1739 = .ok (.iload 4, 2) := by decide +kernel
theorem dL_law_1741 : decode cL_law 1741 = .ok (.iconst 1, 1) := by decide +kernel
theorem dL_law_1742 : decode cL_law 1742 = .ok (.iadd, 1) := by decide +kernel
theorem dL_law_1743 : decode cL_law 1743 = .ok (.iaload, 1) := by decide +kernel
theorem dL_law_1744 : decode cL_law 1744 = .ok (.aload_n 3, 1) := by decide +kernel
theorem dL_law_1745 : decode cL_law 1745 = .ok (.invokestatic 215, 3) := by decide +kernel
theorem dL_law_1748 : decode cL_law 1748 = .ok (.istore 5, 2) := by decide +kernel
theorem dL_law_1750 : decode cL_law 1750 = .ok (.aload_n 2, 1) := by decide +kernel
theorem dL_law_1751 : decode cL_law 1751 = .ok (.aload_n 0, 1) := by decide +kernel
theorem dL_law_1752 : decode cL_law 1752 = .ok (.iload 4, 2) := by decide +kernel
theorem dL_law_1754 : decode cL_law 1754 = .ok (.iconst 1, 1) := by decide +kernel
theorem dL_law_1755 : decode cL_law 1755 = .ok (.iadd, 1) := by decide +kernel
theorem dL_law_1756 : decode cL_law 1756 = .ok (.iaload, 1) := by decide +kernel
theorem dL_law_1757 : decode cL_law 1757 = .ok (.invokevirtual 217, 3) := by decide +kernel
theorem dL_law_1760 : decode cL_law 1760 = .ok (.istore 6, 2) := by decide +kernel
theorem dL_law_1762 : decode cL_law 1762 = .ok (.aload_n 2, 1) := by decide +kernel
theorem dL_law_1763 : decode cL_law 1763 = .ok (.invokevirtual 127, 3) := by decide +kernel
theorem dL_law_1766 : decode cL_law 1766 = .ok (.iload 5, 2) := by decide +kernel
theorem dL_law_1768 : decode cL_law 1768 = .ok (.if_icmp .eq 5, 3) := by decide +kernel
theorem dL_law_1771 : decode cL_law 1771 = .ok (.iconst 0, 1) := by decide +kernel
theorem dL_law_1772 : decode cL_law 1772 = .ok (.ireturn, 1) := by decide +kernel
theorem dL_law_1773 : decode cL_law 1773 = .ok (.iload 5, 2) := by decide +kernel
theorem dL_law_1775 : decode cL_law 1775 = .ok (.ifCond .ne 15, 3) := by decide +kernel
theorem dL_law_1778 : decode cL_law 1778 = .ok (.aload_n 3, 1) := by decide +kernel
theorem dL_law_1779 : decode cL_law 1779 = .ok (.iconst 0, 1) := by decide +kernel
theorem dL_law_1780 : decode cL_law 1780 = .ok (.laload, 1) := by decide +kernel
theorem dL_law_1781 : decode cL_law 1781 = .ok (.iload 6, 2) := by decide +kernel
theorem dL_law_1783 : decode cL_law 1783 = .ok (.i2l, 1) := by decide +kernel
theorem dL_law_1784 : decode cL_law 1784 = .ok (.lcmp, 1) := by decide +kernel
theorem dL_law_1785 : decode cL_law 1785 = .ok (.ifCond .eq 5, 3) := by decide +kernel
theorem dL_law_1788 : decode cL_law 1788 = .ok (.iconst 0, 1) := by decide +kernel
theorem dL_law_1789 : decode cL_law 1789 = .ok (.ireturn, 1) := by decide +kernel
theorem dL_law_1790 : decode cL_law 1790 = .ok (.goto 204, 3) := by decide +kernel
theorem dL_law_1793 : decode cL_law 1793 = .ok (.aload_n 1, 1) := by decide +kernel
theorem dL_law_1794 : decode cL_law 1794 = .ok (.aload_n 3, 1) := by decide +kernel
theorem dL_law_1795 : decode cL_law 1795 = .ok (.invokestatic 218, 3) := by decide +kernel
theorem dL_law_1798 : decode cL_law 1798 = .ok (.istore 5, 2) := by decide +kernel
theorem dL_law_1800 : decode cL_law 1800 = .ok (.aload_n 2, 1) := by decide +kernel
theorem dL_law_1801 : decode cL_law 1801 = .ok (.invokevirtual 220, 3) := by decide +kernel
theorem dL_law_1804 : decode cL_law 1804 = .ok (.istore 6, 2) := by decide +kernel
theorem dL_law_1806 : decode cL_law 1806 = .ok (.aload_n 2, 1) := by decide +kernel
theorem dL_law_1807 : decode cL_law 1807 = .ok (.invokevirtual 127, 3) := by decide +kernel
theorem dL_law_1810 : decode cL_law 1810 = .ok (.iload 5, 2) := by decide +kernel
theorem dL_law_1812 : decode cL_law 1812 = .ok (.if_icmp .eq 5, 3) := by decide +kernel
theorem dL_law_1815 : decode cL_law 1815 = .ok (.iconst 0, 1) := by decide +kernel
theorem dL_law_1816 : decode cL_law 1816 = .ok (.ireturn, 1) := by decide +kernel
theorem dL_law_1817 : decode cL_law 1817 = .ok (.iload 5, 2) := by decide +kernel
theorem dL_law_1819 : decode cL_law 1819 = .ok (.ifCond .ne 15, 3) := by decide +kernel
theorem dL_law_1822 : decode cL_law 1822 = .ok (.aload_n 3, 1) := by decide +kernel
theorem dL_law_1823 : decode cL_law 1823 = .ok (.iconst 0, 1) := by decide +kernel
theorem dL_law_1824 : decode cL_law 1824 = .ok (.laload, 1) := by decide +kernel
theorem dL_law_1825 : decode cL_law 1825 = .ok (.iload 6, 2) := by decide +kernel
theorem dL_law_1827 : decode cL_law 1827 = .ok (.i2l, 1) := by decide +kernel
theorem dL_law_1828 : decode cL_law 1828 = .ok (.lcmp, 1) := by decide +kernel
theorem dL_law_1829 : decode cL_law 1829 = .ok (.ifCond .eq 5, 3) := by decide +kernel
theorem dL_law_1832 : decode cL_law 1832 = .ok (.iconst 0, 1) := by decide +kernel
theorem dL_law_1833 : decode cL_law 1833 = .ok (.ireturn, 1) := by decide +kernel
theorem dL_law_1834 : decode cL_law 1834 = .ok (.goto 160, 3) := by decide +kernel
theorem dL_law_1837 : decode cL_law 1837 = .ok (.aload_n 1, 1) := by decide +kernel
theorem dL_law_1838 : decode cL_law 1838 = .ok (.aload_n 0, 1) := by decide +kernel
theorem dL_law_1839 : decode cL_law 1839 = .ok (.iload 4, 2) := by decide +kernel
theorem dL_law_1841 : decode cL_law 1841 = .ok (.iconst 1, 1) := by decide +kernel
theorem dL_law_1842 : decode cL_law 1842 = .ok (.iadd, 1) := by decide +kernel
theorem dL_law_1843 : decode cL_law 1843 = .ok (.iaload, 1) := by decide +kernel
theorem dL_law_1844 : decode cL_law 1844 = .ok (.aload_n 3, 1) := by decide +kernel
theorem dL_law_1845 : decode cL_law 1845 = .ok (.invokestatic 221, 3) := by decide +kernel
theorem dL_law_1848 : decode cL_law 1848 = .ok (.istore 5, 2) := by decide +kernel
theorem dL_law_1850 : decode cL_law 1850 = .ok (.aload_n 2, 1) := by decide +kernel
theorem dL_law_1851 : decode cL_law 1851 = .ok (.aload_n 0, 1) := by decide +kernel
theorem dL_law_1852 : decode cL_law 1852 = .ok (.iload 4, 2) := by decide +kernel
theorem dL_law_1854 : decode cL_law 1854 = .ok (.iconst 1, 1) := by decide +kernel
theorem dL_law_1855 : decode cL_law 1855 = .ok (.iadd, 1) := by decide +kernel
theorem dL_law_1856 : decode cL_law 1856 = .ok (.iaload, 1) := by decide +kernel
theorem dL_law_1857 : decode cL_law 1857 = .ok (.invokevirtual 223, 3) := by decide +kernel
theorem dL_law_1860 : decode cL_law 1860 = .ok (.istore 6, 2) := by decide +kernel
theorem dL_law_1862 : decode cL_law 1862 = .ok (.aload_n 2, 1) := by decide +kernel
theorem dL_law_1863 : decode cL_law 1863 = .ok (.invokevirtual 127, 3) := by decide +kernel
theorem dL_law_1866 : decode cL_law 1866 = .ok (.iload 5, 2) := by decide +kernel
theorem dL_law_1868 : decode cL_law 1868 = .ok (.if_icmp .eq 5, 3) := by decide +kernel
theorem dL_law_1871 : decode cL_law 1871 = .ok (.iconst 0, 1) := by decide +kernel
theorem dL_law_1872 : decode cL_law 1872 = .ok (.ireturn, 1) := by decide +kernel
theorem dL_law_1873 : decode cL_law 1873 = .ok (.iload 5, 2) := by decide +kernel
theorem dL_law_1875 : decode cL_law 1875 = .ok (.ifCond .ne 15, 3) := by decide +kernel
theorem dL_law_1878 : decode cL_law 1878 = .ok (.aload_n 3, 1) := by decide +kernel
theorem dL_law_1879 : decode cL_law 1879 = .ok (.iconst 0, 1) := by decide +kernel
theorem dL_law_1880 : decode cL_law 1880 = .ok (.laload, 1) := by decide +kernel
theorem dL_law_1881 : decode cL_law 1881 = .ok (.iload 6, 2) := by decide +kernel
theorem dL_law_1883 : decode cL_law 1883 = .ok (.i2l, 1) := by decide +kernel
theorem dL_law_1884 : decode cL_law 1884 = .ok (.lcmp, 1) := by decide +kernel
theorem dL_law_1885 : decode cL_law 1885 = .ok (.ifCond .eq 5, 3) := by decide +kernel
theorem dL_law_1888 : decode cL_law 1888 = .ok (.iconst 0, 1) := by decide +kernel
theorem dL_law_1889 : decode cL_law 1889 = .ok (.ireturn, 1) := by decide +kernel
theorem dL_law_1890 : decode cL_law 1890 = .ok (.goto 104, 3) := by decide +kernel
theorem dL_law_1893 : decode cL_law 1893 = .ok (.aload_n 1, 1) := by decide +kernel
theorem dL_law_1894 : decode cL_law 1894 = .ok (.aload_n 3, 1) := by decide +kernel
theorem dL_law_1895 : decode cL_law 1895 = .ok (.invokestatic 224, 3) := by decide +kernel
theorem dL_law_1898 : decode cL_law 1898 = .ok (.istore 5, 2) := by decide +kernel
theorem dL_law_1900 : decode cL_law 1900 = .ok (.aload_n 2, 1) := by decide +kernel
theorem dL_law_1901 : decode cL_law 1901 = .ok (.invokevirtual 226, 3) := by decide +kernel
theorem dL_law_1904 : decode cL_law 1904 = .ok (.istore 6, 2) := by decide +kernel
theorem dL_law_1906 : decode cL_law 1906 = .ok (.aload_n 2, 1) := by decide +kernel
theorem dL_law_1907 : decode cL_law 1907 = .ok (.invokevirtual 127, 3) := by decide +kernel
theorem dL_law_1910 : decode cL_law 1910 = .ok (.iload 5, 2) := by decide +kernel
theorem dL_law_1912 : decode cL_law 1912 = .ok (.if_icmp .eq 5, 3) := by decide +kernel
theorem dL_law_1915 : decode cL_law 1915 = .ok (.iconst 0, 1) := by decide +kernel
theorem dL_law_1916 : decode cL_law 1916 = .ok (.ireturn, 1) := by decide +kernel
theorem dL_law_1917 : decode cL_law 1917 = .ok (.iload 5, 2) := by decide +kernel
theorem dL_law_1919 : decode cL_law 1919 = .ok (.ifCond .ne 15, 3) := by decide +kernel
theorem dL_law_1922 : decode cL_law 1922 = .ok (.aload_n 3, 1) := by decide +kernel
theorem dL_law_1923 : decode cL_law 1923 = .ok (.iconst 0, 1) := by decide +kernel
theorem dL_law_1924 : decode cL_law 1924 = .ok (.laload, 1) := by decide +kernel
theorem dL_law_1925 : decode cL_law 1925 = .ok (.iload 6, 2) := by decide +kernel
theorem dL_law_1927 : decode cL_law 1927 = .ok (.i2l, 1) := by decide +kernel
theorem dL_law_1928 : decode cL_law 1928 = .ok (.lcmp, 1) := by decide +kernel
theorem dL_law_1929 : decode cL_law 1929 = .ok (.ifCond .eq 5, 3) := by decide +kernel
theorem dL_law_1932 : decode cL_law 1932 = .ok (.iconst 0, 1) := by decide +kernel
theorem dL_law_1933 : decode cL_law 1933 = .ok (.ireturn, 1) := by decide +kernel
theorem dL_law_1934 : decode cL_law 1934 = .ok (.goto 60, 3) := by decide +kernel
theorem dL_law_1937 : decode cL_law 1937 = .ok (.aload_n 1, 1) := by decide +kernel
theorem dL_law_1938 : decode cL_law 1938 = .ok (.invokevirtual 227, 3) := by decide +kernel
theorem dL_law_1941 : decode cL_law 1941 = .ok (.aload_n 2, 1) := by decide +kernel
theorem dL_law_1942 : decode cL_law 1942 = .ok (.invokevirtual 230, 3) := by decide +kernel
theorem dL_law_1945 : decode cL_law 1945 = .ok (.if_icmp .eq 49, 3) := by decide +kernel
theorem dL_law_1948 : decode cL_law 1948 = .ok (.iconst 0, 1) := by decide +kernel
theorem dL_law_1949 : decode cL_law 1949 = .ok (.ireturn, 1) := by decide +kernel
theorem dL_law_1950 : decode cL_law 1950 = .ok (.aload_n 1, 1) := by decide +kernel
theorem dL_law_1951 : decode cL_law 1951 = .ok (.aload_n 3, 1) := by decide +kernel
theorem dL_law_1952 : decode cL_law 1952 = .ok (.invokestatic 231, 3) := by decide +kernel
theorem dL_law_1955 : decode cL_law 1955 = .ok (.istore 5, 2) := by decide +kernel
theorem dL_law_1957 : decode cL_law 1957 = .ok (.aload_n 2, 1) := by decide +kernel
theorem dL_law_1958 : decode cL_law 1958 = .ok (.invokevirtual 233, 3) := by decide +kernel
theorem dL_law_1961 : decode cL_law 1961 = .ok (.istore 6, 2) := by decide +kernel
theorem dL_law_1963 : decode cL_law 1963 = .ok (.aload_n 2, 1) := by decide +kernel
theorem dL_law_1964 : decode cL_law 1964 = .ok (.invokevirtual 127, 3) := by decide +kernel
theorem dL_law_1967 : decode cL_law 1967 = .ok (.iload 5, 2) := by decide +kernel
theorem dL_law_1969 : decode cL_law 1969 = .ok (.if_icmp .eq 5, 3) := by decide +kernel
theorem dL_law_1972 : decode cL_law 1972 = .ok (.iconst 0, 1) := by decide +kernel
theorem dL_law_1973 : decode cL_law 1973 = .ok (.ireturn, 1) := by decide +kernel
theorem dL_law_1974 : decode cL_law 1974 = .ok (.iload 5, 2) := by decide +kernel
theorem dL_law_1976 : decode cL_law 1976 = .ok (.ifCond .ne 15, 3) := by decide +kernel
theorem dL_law_1979 : decode cL_law 1979 = .ok (.aload_n 3, 1) := by decide +kernel
theorem dL_law_1980 : decode cL_law 1980 = .ok (.iconst 0, 1) := by decide +kernel
theorem dL_law_1981 : decode cL_law 1981 = .ok (.laload, 1) := by decide +kernel
theorem dL_law_1982 : decode cL_law 1982 = .ok (.iload 6, 2) := by decide +kernel
theorem dL_law_1984 : decode cL_law 1984 = .ok (.i2l, 1) := by decide +kernel
theorem dL_law_1985 : decode cL_law 1985 = .ok (.lcmp, 1) := by decide +kernel
theorem dL_law_1986 : decode cL_law 1986 = .ok (.ifCond .eq 5, 3) := by decide +kernel
theorem dL_law_1989 : decode cL_law 1989 = .ok (.iconst 0, 1) := by decide +kernel
theorem dL_law_1990 : decode cL_law 1990 = .ok (.ireturn, 1) := by decide +kernel
theorem dL_law_1991 : decode cL_law 1991 = .ok (.goto 3, 3) := by decide +kernel
theorem dL_law_1994 : decode cL_law 1994 = .ok (.iinc 4 4, 3) := by decide +kernel
theorem dL_law_1997 : decode cL_law 1997 = .ok (.goto (-1974), 3) := by decide +kernel
theorem dL_law_2000 : decode cL_law 2000 = .ok (.iconst 1, 1) := by decide +kernel
theorem dL_law_2001 : decode cL_law 2001 = .ok (.ireturn, 1) := by decide +kernel
