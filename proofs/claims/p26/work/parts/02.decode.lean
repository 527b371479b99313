theorem dX0_init_0 : decode cX0_init 0 = .ok (.aload_n 0, 1) := by decide +kernel
theorem dX0_init_1 : decode cX0_init 1 = .ok (.invokespecial 3, 3) := by decide +kernel
theorem dX0_init_4 : decode cX0_init 4 = .ok (.aload_n 0, 1) := by decide +kernel
theorem dX0_init_5 : decode cX0_init 5 = .ok (.iconst 5, 1) := by decide +kernel
theorem dX0_init_6 : decode cX0_init 6 = .ok (.anewarray 9, 3) := by decide +kernel
theorem dX0_init_9 : decode cX0_init 9 = .ok (.putfield 11, 3) := by decide +kernel
theorem dX0_init_12 : decode cX0_init 12 = .ok (.aload_n 0, 1) := by decide +kernel
theorem dX0_init_13 : decode cX0_init 13 = .ok (.iconst 0, 1) := by decide +kernel
theorem dX0_init_14 : decode cX0_init 14 = .ok (.putfield 17, 3) := by decide +kernel
theorem dX0_init_17 : decode cX0_init 17 = .ok (.aload_n 0, 1) := by decide +kernel
theorem dX0_init_18 : decode cX0_init 18 = .ok (.iconst 0, 1) := by decide +kernel
theorem dX0_init_19 : decode cX0_init 19 = .ok (.putfield 21, 3) := by decide +kernel
theorem dX0_init_22 : decode cX0_init 22 = .ok (.iconst 0, 1) := by decide +kernel
theorem dX0_init_23 : decode cX0_init 23 = .ok (.istore_n 1, 1) := by decide +kernel
theorem dX0_init_24 : decode cX0_init 24 = .ok (.iload_n 1, 1) := by decide +kernel
theorem dX0_init_25 : decode cX0_init 25 = .ok (.iconst 5, 1) := by decide +kernel
theorem dX0_init_26 : decode cX0_init 26 = .ok (.if_icmp .ge 22, 3) := by decide +kernel
theorem dX0_init_29 : decode cX0_init 29 = .ok (.aload_n 0, 1) := by decide +kernel
theorem dX0_init_30 : decode cX0_init 30 = .ok (.getfield 11, 3) := by decide +kernel
theorem dX0_init_33 : decode cX0_init 33 = .ok (.iload_n 1, 1) := by decide +kernel
theorem dX0_init_34 : decode cX0_init 34 = .ok (.new 9, 3) := by decide +kernel
theorem dX0_init_37 : decode cX0_init 37 = .ok (.dup, 1) := by decide +kernel
theorem dX0_init_38 : decode cX0_init 38 = .ok (.invokespecial 24, 3) := by decide +kernel
theorem dX0_init_41 : decode cX0_init 41 = .ok (.aastore, 1) := by decide +kernel
theorem dX0_init_42 : decode cX0_init 42 = .ok (.iinc 1 1, 3) := by decide +kernel
theorem dX0_init_45 : decode cX0_init 45 = .ok (.goto (-21), 3) := by decide +kernel
theorem dX0_init_48 : decode cX0_init 48 = .ok (.return_, 1) := by decide +kernel
theorem dX0_keep_0 : decode cX0_keep 0 = .ok (.aload_n 0, 1) := by decide +kernel
theorem dX0_keep_1 : decode cX0_keep 1 = .ok (.getfield 11, 3) := by decide +kernel
theorem dX0_keep_4 : decode cX0_keep 4 = .ok (.aload_n 0, 1) := by decide +kernel
theorem dX0_keep_5 : decode cX0_keep 5 = .ok (.getfield 21, 3) := by decide +kernel
theorem dX0_keep_8 : decode cX0_keep 8 = .ok (.aaload, 1) := by decide +kernel
theorem dX0_keep_9 : decode cX0_keep 9 = .ok (.aload_n 1, 1) := by decide +kernel
theorem dX0_keep_10 : decode cX0_keep 10 = .ok (.invokevirtual 25, 3) := by decide +kernel
theorem dX0_keep_13 : decode cX0_keep 13 = .ok (.aload_n 0, 1) := by decide +kernel
theorem dX0_keep_14 : decode cX0_keep 14 = .ok (.aload_n 0, 1) := by decide +kernel
theorem dX0_keep_15 : decode cX0_keep 15 = .ok (.getfield 21, 3) := by decide +kernel
theorem dX0_keep_18 : decode cX0_keep 18 = .ok (.iconst 1, 1) := by decide +kernel
theorem dX0_keep_19 : decode cX0_keep 19 = .ok (.iadd, 1) := by decide +kernel
theorem dX0_keep_20 : decode cX0_keep 20 = .ok (.iconst 5, 1) := by decide +kernel
theorem dX0_keep_21 : decode cX0_keep 21 = .ok (.irem, 1) := by decide +kernel
theorem dX0_keep_22 : decode cX0_keep 22 = .ok (.putfield 21, 3) := by decide +kernel
theorem dX0_keep_25 : decode cX0_keep 25 = .ok (.aload_n 0, 1) := by decide +kernel
theorem dX0_keep_26 : decode cX0_keep 26 = .ok (.aload_n 0, 1) := by decide +kernel
theorem dX0_keep_27 : decode cX0_keep 27 = .ok (.getfield 17, 3) := by decide +kernel
theorem dX0_keep_30 : decode cX0_keep 30 = .ok (.iconst 1, 1) := by decide +kernel
theorem dX0_keep_31 : decode cX0_keep 31 = .ok (.iadd, 1) := by decide +kernel
theorem dX0_keep_32 : decode cX0_keep 32 = .ok (.iconst 5, 1) := by decide +kernel
theorem dX0_keep_33 : decode cX0_keep 33 = .ok (.invokestatic 29, 3) := by decide +kernel
theorem dX0_keep_36 : decode cX0_keep 36 = .ok (.putfield 17, 3) := by decide +kernel
theorem dX0_keep_39 : decode cX0_keep 39 = .ok (.return_, 1) := by decide +kernel
theorem dX0_restore_0 : decode cX0_restore 0 = .ok (.aload_n 0, 1) := by decide +kernel
theorem dX0_restore_1 : decode cX0_restore 1 = .ok (.aload_n 0, 1) := by decide +kernel
theorem dX0_restore_2 : decode cX0_restore 2 = .ok (.getfield 21, 3) := by decide +kernel
theorem dX0_restore_5 : decode cX0_restore 5 = .ok (.iconst 5, 1) := by decide +kernel
theorem dX0_restore_6 : decode cX0_restore 6 = .ok (.iadd, 1) := by decide +kernel
theorem dX0_restore_7 : decode cX0_restore 7 = .ok (.iconst 1, 1) := by decide +kernel
theorem dX0_restore_8 : decode cX0_restore 8 = .ok (.isub, 1) := by decide +kernel
theorem dX0_restore_9 : decode cX0_restore 9 = .ok (.iconst 5, 1) := by decide +kernel
theorem dX0_restore_10 : decode cX0_restore 10 = .ok (.irem, 1) := by decide +kernel
theorem dX0_restore_11 : decode cX0_restore 11 = .ok (.putfield 21, 3) := by decide +kernel
theorem dX0_restore_14 : decode cX0_restore 14 = .ok (.aload_n 0, 1) := by decide +kernel
theorem dX0_restore_15 : decode cX0_restore 15 = .ok (.dup, 1) := by decide +kernel
theorem dX0_restore_16 : decode cX0_restore 16 = .ok (.getfield 17, 3) := by decide +kernel
theorem dX0_restore_19 : decode cX0_restore 19 = .ok (.iconst 1, 1) := by decide +kernel
theorem dX0_restore_20 : decode cX0_restore 20 = .ok (.isub, 1) := by decide +kernel
theorem dX0_restore_21 : decode cX0_restore 21 = .ok (.putfield 17, 3) := by decide +kernel
theorem dX0_restore_24 : decode cX0_restore 24 = .ok (.aload_n 1, 1) := by decide +kernel
theorem dX0_restore_25 : decode cX0_restore 25 = .ok (.aload_n 0, 1) := by decide +kernel
theorem dX0_restore_26 : decode cX0_restore 26 = .ok (.getfield 11, 3) := by decide +kernel
theorem dX0_restore_29 : decode cX0_restore 29 = .ok (.aload_n 0, 1) := by decide +kernel
theorem dX0_restore_30 : decode cX0_restore 30 = .ok (.getfield 21, 3) := by decide +kernel
theorem dX0_restore_33 : decode cX0_restore 33 = .ok (.aaload, 1) := by decide +kernel
theorem dX0_restore_34 : decode cX0_restore 34 = .ok (.invokevirtual 25, 3) := by decide +kernel
theorem dX0_restore_37 : decode cX0_restore 37 = .ok (.return_, 1) := by decide +kernel
theorem dX1_init_0 : decode cX1_init 0 = .ok (.aload_n 0, 1) := by decide +kernel
theorem dX1_init_1 : decode cX1_init 1 = .ok (.invokespecial 3, 3) := by decide +kernel
theorem dX1_init_4 : decode cX1_init 4 = .ok (.aload_n 0, 1) := by decide +kernel
theorem dX1_init_5 : decode cX1_init 5 = .ok (.bipush 120, 2) := by decide +kernel
theorem dX1_init_7 : decode cX1_init 7 = .ok (.newarray .int, 2) := by decide +kernel
theorem dX1_init_9 : decode cX1_init 9 = .ok (.putfield 9, 3) := by decide +kernel
theorem dX1_init_12 : decode cX1_init 12 = .ok (.aload_n 0, 1) := by decide +kernel
theorem dX1_init_13 : decode cX1_init 13 = .ok (.bipush 120, 2) := by decide +kernel
theorem dX1_init_15 : decode cX1_init 15 = .ok (.newarray .int, 2) := by decide +kernel
theorem dX1_init_17 : decode cX1_init 17 = .ok (.putfield 15, 3) := by decide +kernel
theorem dX1_init_20 : decode cX1_init 20 = .ok (.aload_n 0, 1) := by decide +kernel
theorem dX1_init_21 : decode cX1_init 21 = .ok (.bipush 120, 2) := by decide +kernel
theorem dX1_init_23 : decode cX1_init 23 = .ok (.newarray .int, 2) := by decide +kernel
theorem dX1_init_25 : decode cX1_init 25 = .ok (.putfield 18, 3) := by decide +kernel
theorem dX1_init_28 : decode cX1_init 28 = .ok (.aload_n 0, 1) := by decide +kernel
theorem dX1_init_29 : decode cX1_init 29 = .ok (.bipush 120, 2) := by decide +kernel
theorem dX1_init_31 : decode cX1_init 31 = .ok (.newarray .int, 2) := by decide +kernel
theorem dX1_init_33 : decode cX1_init 33 = .ok (.putfield 21, 3) := by decide +kernel
theorem dX1_init_36 : decode cX1_init 36 = .ok (.return_, 1) := by decide +kernel
theorem dX1_copyFrom_0 : decode cX1_copyFrom 0 = .ok (.aload_n 1, 1) := by decide +kernel
theorem dX1_copyFrom_1 : decode cX1_copyFrom 1 = .ok (.getfield 9, 3) := by decide +kernel
theorem dX1_copyFrom_4 : decode cX1_copyFrom 4 = .ok (.aload_n 0, 1) := by decide +kernel
theorem dX1_copyFrom_5 : decode cX1_copyFrom 5 = .ok (.getfield 9, 3) := by decide +kernel
theorem dX1_copyFrom_8 : decode cX1_copyFrom 8 = .ok (.invokestatic 24, 3) := by decide +kernel
theorem dX1_copyFrom_11 : decode cX1_copyFrom 11 = .ok (.aload_n 1, 1) := by decide +kernel
theorem dX1_copyFrom_12 : decode cX1_copyFrom 12 = .ok (.getfield 15, 3) := by decide +kernel
theorem dX1_copyFrom_15 : decode cX1_copyFrom 15 = .ok (.aload_n 0, 1) := by decide +kernel
theorem dX1_copyFrom_16 : decode cX1_copyFrom 16 = .ok (.getfield 15, 3) := by decide +kernel
theorem dX1_copyFrom_19 : decode cX1_copyFrom 19 = .ok (.invokestatic 24, 3) := by decide +kernel
theorem dX1_copyFrom_22 : decode cX1_copyFrom 22 = .ok (.aload_n 1, 1) := by decide +kernel
theorem dX1_copyFrom_23 : decode cX1_copyFrom 23 = .ok (.getfield 18, 3) := by decide +kernel
theorem dX1_copyFrom_26 : decode cX1_copyFrom 26 = .ok (.aload_n 0, 1) := by decide +kernel
theorem dX1_copyFrom_27 : decode cX1_copyFrom 27 = .ok (.getfield 18, 3) := by decide +kernel
theorem dX1_copyFrom_30 : decode cX1_copyFrom 30 = .ok (.invokestatic 24, 3) := by decide +kernel
theorem dX1_copyFrom_33 : decode cX1_copyFrom 33 = .ok (.aload_n 1, 1) := by decide +kernel
theorem dX1_copyFrom_34 : decode cX1_copyFrom 34 = .ok (.getfield 21, 3) := by decide +kernel
theorem dX1_copyFrom_37 : decode cX1_copyFrom 37 = .ok (.aload_n 0, 1) := by decide +kernel
theorem dX1_copyFrom_38 : decode cX1_copyFrom 38 = .ok (.getfield 21, 3) := by decide +kernel
theorem dX1_copyFrom_41 : decode cX1_copyFrom 41 = .ok (.invokestatic 24, 3) := by decide +kernel
theorem dX1_copyFrom_44 : decode cX1_copyFrom 44 = .ok (.return_, 1) := by decide +kernel
theorem dX1_fade_0 : decode cX1_fade 0 = .ok (.iconst 0, 1) := by decide +kernel
theorem dX1_fade_1 : decode cX1_fade 1 = .ok (.istore_n 1, 1) := by decide +kernel
theorem dX1_fade_2 : decode cX1_fade 2 = .ok (.iload_n 1, 1) := by decide +kernel
theorem dX1_fade_3 : decode cX1_fade 3 = .ok (.bipush 120, 2) := by decide +kernel
theorem dX1_fade_5 : decode cX1_fade 5 = .ok (.if_icmp .ge 27, 3) := by decide +kernel
theorem dX1_fade_8 : decode cX1_fade 8 = .ok (.aload_n 0, 1) := by decide +kernel
theorem dX1_fade_9 : decode cX1_fade 9 = .ok (.getfield 9, 3) := by decide +kernel
theorem dX1_fade_12 : decode cX1_fade 12 = .ok (.iload_n 1, 1) := by decide +kernel
theorem dX1_fade_13 : decode cX1_fade 13 = .ok (.iconst 0, 1) := by decide +kernel
theorem dX1_fade_14 : decode cX1_fade 14 = .ok (.aload_n 0, 1) := by decide +kernel
theorem dX1_fade_15 : decode cX1_fade 15 = .ok (.getfield 9, 3) := by decide +kernel
theorem dX1_fade_18 : decode cX1_fade 18 = .ok (.iload_n 1, 1) := by decide +kernel
theorem dX1_fade_19 : decode cX1_fade 19 = .ok (.iaload, 1) := by decide +kernel
theorem dX1_fade_20 : decode cX1_fade 20 = .ok (.iconst 1, 1) := by decide +kernel
theorem dX1_fade_21 : decode cX1_fade 21 = .ok (.isub, 1) := by decide +kernel
theorem dX1_fade_22 : decode cX1_fade 22 = .ok (.invokestatic 28, 3) := by decide +kernel
theorem dX1_fade_25 : decode cX1_fade 25 = .ok (.iastore, 1) := by decide +kernel
theorem dX1_fade_26 : decode cX1_fade 26 = .ok (.iinc 1 1, 3) := by decide +kernel
theorem dX1_fade_29 : decode cX1_fade 29 = .ok (.goto (-27), 3) := by decide +kernel
theorem dX1_fade_32 : decode cX1_fade 32 = .ok (.return_, 1) := by decide +kernel
theorem dX1_limit_0 : decode cX1_limit 0 = .ok (.iconst 0, 1) := by decide +kernel
theorem dX1_limit_1 : decode cX1_limit 1 = .ok (.istore_n 2, 1) := by decide +kernel
theorem dX1_limit_2 : decode cX1_limit 2 = .ok (.iload_n 2, 1) := by decide +kernel
theorem dX1_limit_3 : decode cX1_limit 3 = .ok (.bipush 120, 2) := by decide +kernel
theorem dX1_limit_5 : decode cX1_limit 5 = .ok (.if_icmp .ge 25, 3) := by decide +kernel
theorem dX1_limit_8 : decode cX1_limit 8 = .ok (.aload_n 0, 1) := by decide +kernel
theorem dX1_limit_9 : decode cX1_limit 9 = .ok (.getfield 9, 3) := by decide +kernel
theorem dX1_limit_12 : decode cX1_limit 12 = .ok (.iload_n 2, 1) := by decide +kernel
theorem dX1_limit_13 : decode cX1_limit 13 = .ok (.aload_n 0, 1) := by decide +kernel
theorem dX1_limit_14 : decode cX1_limit 14 = .ok (.getfield 9, 3) := by decide +kernel
theorem dX1_limit_17 : decode cX1_limit 17 = .ok (.iload_n 2, 1) := by decide +kernel
theorem dX1_limit_18 : decode cX1_limit 18 = .ok (.iaload, 1) := by decide +kernel
theorem dX1_limit_19 : decode cX1_limit 19 = .ok (.iload_n 1, 1) := by decide +kernel
theorem dX1_limit_20 : decode cX1_limit 20 = .ok (.invokestatic 34, 3) := by decide +kernel
theorem dX1_limit_23 : decode cX1_limit 23 = .ok (.iastore, 1) := by decide +kernel
theorem dX1_limit_24 : decode cX1_limit 24 = .ok (.iinc 2 1, 3) := by decide +kernel
theorem dX1_limit_27 : decode cX1_limit 27 = .ok (.goto (-25), 3) := by decide +kernel
theorem dX1_limit_30 : decode cX1_limit 30 = .ok (.return_, 1) := by decide +kernel
theorem dX1_countNotFogged_0 : decode cX1_countNotFogged 0 = .ok (.iconst 0, 1) := by decide +kernel
theorem dX1_countNotFogged_1 : decode cX1_countNotFogged 1 = .ok (.istore_n 1, 1) := by decide +kernel
theorem dX1_countNotFogged_2 : decode cX1_countNotFogged 2 = .ok (.iconst 0, 1) := by decide +kernel
theorem dX1_countNotFogged_3 : decode cX1_countNotFogged 3 = .ok (.istore_n 2, 1) := by decide +kernel
theorem dX1_countNotFogged_4 : decode cX1_countNotFogged 4 = .ok (.iload_n 2, 1) := by decide +kernel
theorem dX1_countNotFogged_5 : decode cX1_countNotFogged 5 = .ok (.bipush 120, 2) := by decide +kernel
theorem dX1_countNotFogged_7 : decode cX1_countNotFogged 7 = .ok (.if_icmp .ge 21, 3) := by decide +kernel
theorem dX1_countNotFogged_10 : decode cX1_countNotFogged 10 = .ok (.aload_n 0, 1) := by decide +kernel
theorem dX1_countNotFogged_11 : decode cX1_countNotFogged 11 = .ok (.getfield 9, 3) := by decide +kernel
theorem dX1_countNotFogged_14 : decode cX1_countNotFogged 14 = .ok (.iload_n 2, 1) := by decide +kernel
theorem dX1_countNotFogged_15 : decode cX1_countNotFogged 15 = .ok (.iaload, 1) := by decide +kernel
theorem dX1_countNotFogged_16 : decode cX1_countNotFogged 16 = .ok (.ifCond .le 6, 3) := by decide +kernel
theorem dX1_countNotFogged_19 : decode cX1_countNotFogged 19 = .ok (.iinc 1 1, 3) := by decide +kernel
theorem dX1_countNotFogged_22 : decode cX1_countNotFogged 22 = .ok (.iinc 2 1, 3) := by decide +kernel
theorem dX1_countNotFogged_25 : decode cX1_countNotFogged 25 = .ok (.goto (-21), 3) := by decide +kernel
theorem dX1_countNotFogged_28 : decode cX1_countNotFogged 28 = .ok (.iload_n 1, 1) := by decide +kernel
theorem dX1_countNotFogged_29 : decode cX1_countNotFogged 29 = .ok (.ireturn, 1) := by decide +kernel
theorem dX1_canStep_0 : decode cX1_canStep 0 = .ok (.aload_n 0, 1) := by decide +kernel
theorem dX1_canStep_1 : decode cX1_canStep 1 = .ok (.getfield 9, 3) := by decide +kernel
theorem dX1_canStep_4 : decode cX1_canStep 4 = .ok (.iload_n 2, 1) := by decide +kernel
theorem dX1_canStep_5 : decode cX1_canStep 5 = .ok (.iaload, 1) := by decide +kernel
theorem dX1_canStep_6 : decode cX1_canStep 6 = .ok (.ifCond .le 45, 3) := by decide +kernel
theorem dX1_canStep_9 : decode cX1_canStep 9 = .ok (.aload_n 0, 1) := by decide +kernel
theorem dX1_canStep_10 : decode cX1_canStep 10 = .ok (.getfield 18, 3) := by decide +kernel
theorem dX1_canStep_13 : decode cX1_canStep 13 = .ok (.iload_n 2, 1) := by decide +kernel
theorem dX1_canStep_14 : decode cX1_canStep 14 = .ok (.iaload, 1) := by decide +kernel
theorem dX1_canStep_15 : decode cX1_canStep 15 = .ok (.ifCond .ne 36, 3) := by decide +kernel
theorem dX1_canStep_18 : decode cX1_canStep 18 = .ok (.aload_n 0, 1) := by decide +kernel
theorem dX1_canStep_19 : decode cX1_canStep 19 = .ok (.getfield 21, 3) := by decide +kernel
theorem dX1_canStep_22 : decode cX1_canStep 22 = .ok (.iload_n 2, 1) := by decide +kernel
theorem dX1_canStep_23 : decode cX1_canStep 23 = .ok (.iaload, 1) := by decide +kernel
theorem dX1_canStep_24 : decode cX1_canStep 24 = .ok (.ifCond .ne 27, 3) := by decide +kernel
theorem dX1_canStep_27 : decode cX1_canStep 27 = .ok (.aload_n 0, 1) := by decide +kernel
theorem dX1_canStep_28 : decode cX1_canStep 28 = .ok (.getfield 15, 3) := by decide +kernel
theorem dX1_canStep_31 : decode cX1_canStep 31 = .ok (.iload_n 1, 1) := by decide +kernel
theorem dX1_canStep_32 : decode cX1_canStep 32 = .ok (.iaload, 1) := by decide +kernel
theorem dX1_canStep_33 : decode cX1_canStep 33 = .ok (.aload_n 0, 1) := by decide +kernel
theorem dX1_canStep_34 : decode cX1_canStep 34 = .ok (.getfield 15, 3) := by decide +kernel
theorem dX1_canStep_37 : decode cX1_canStep 37 = .ok (.iload_n 2, 1) := by decide +kernel
theorem dX1_canStep_38 : decode cX1_canStep 38 = .ok (.iaload, 1) := by decide +kernel
theorem dX1_canStep_39 : decode cX1_canStep 39 = .ok (.isub, 1) := by decide +kernel
theorem dX1_canStep_40 : decode cX1_canStep 40 = .ok (.invokestatic 37, 3) := by decide +kernel
theorem dX1_canStep_43 : decode cX1_canStep 43 = .ok (.iconst 2, 1) := by decide +kernel
theorem dX1_canStep_44 : decode cX1_canStep 44 = .ok (.if_icmp .gt 7, 3) := by decide +kernel
theorem dX1_canStep_47 : decode cX1_canStep 47 = .ok (.iconst 1, 1) := by decide +kernel
theorem dX1_canStep_48 : decode cX1_canStep 48 = .ok (.goto 4, 3) := by decide +kernel
theorem dX1_canStep_51 : decode cX1_canStep 51 = .ok (.iconst 0, 1) := by decide +kernel
theorem dX1_canStep_52 : decode cX1_canStep 52 = .ok (.ireturn, 1) := by decide +kernel
theorem dX2_init_0 : decode cX2_init 0 = .ok (.aload_n 0, 1) := by decide +kernel
theorem dX2_init_1 : decode cX2_init 1 = .ok (.invokespecial 3, 3) := by decide +kernel
theorem dX2_init_4 : decode cX2_init 4 = .ok (.aload_n 0, 1) := by decide +kernel
theorem dX2_init_5 : decode cX2_init 5 = .ok (.bipush 120, 2) := by decide +kernel
theorem dX2_init_7 : decode cX2_init 7 = .ok (.newarray .int, 2) := by decide +kernel
theorem dX2_init_9 : decode cX2_init 9 = .ok (.putfield 9, 3) := by decide +kernel
theorem dX2_init_12 : decode cX2_init 12 = .ok (.aload_n 0, 1) := by decide +kernel
theorem dX2_init_13 : decode cX2_init 13 = .ok (.bipush 120, 2) := by decide +kernel
theorem dX2_init_15 : decode cX2_init 15 = .ok (.newarray .int, 2) := by decide +kernel
theorem dX2_init_17 : decode cX2_init 17 = .ok (.putfield 15, 3) := by decide +kernel
theorem dX2_init_20 : decode cX2_init 20 = .ok (.return_, 1) := by decide +kernel
theorem dX2_refresh_0 : decode cX2_refresh 0 = .ok (.iconst 0, 1) := by decide +kernel
theorem dX2_refresh_1 : decode cX2_refresh 1 = .ok (.istore_n 2, 1) := by decide +kernel
theorem dX2_refresh_2 : decode cX2_refresh 2 = .ok (.iload_n 2, 1) := by decide +kernel
theorem dX2_refresh_3 : decode cX2_refresh 3 = .ok (.bipush 120, 2) := by decide +kernel
theorem dX2_refresh_5 : decode cX2_refresh 5 = .ok (.if_icmp .ge 85, 3) := by decide +kernel
theorem dX2_refresh_8 : decode cX2_refresh 8 = .ok (.aload_n 0, 1) := by decide +kernel
theorem dX2_refresh_9 : decode cX2_refresh 9 = .ok (.getfield 9, 3) := by decide +kernel
theorem dX2_refresh_12 : decode cX2_refresh 12 = .ok (.iload_n 2, 1) := by decide +kernel
theorem dX2_refresh_13 : decode cX2_refresh 13 = .ok (.aload_n 1, 1) := by decide +kernel
theorem dX2_refresh_14 : decode cX2_refresh 14 = .ok (.iload_n 2, 1) := by decide +kernel
theorem dX2_refresh_15 : decode cX2_refresh 15 = .ok (.invokevirtual 18, 3) := by decide +kernel
theorem dX2_refresh_18 : decode cX2_refresh 18 = .ok (.ifCond .eq 7, 3) := by decide +kernel
theorem dX2_refresh_21 : decode cX2_refresh 21 = .ok (.iconst 1, 1) := by decide +kernel
theorem dX2_refresh_22 : decode cX2_refresh 22 = .ok (.goto 4, 3) := by decide +kernel
theorem dX2_refresh_25 : decode cX2_refresh 25 = .ok (.iconst 0, 1) := by decide +kernel
theorem dX2_refresh_26 : decode cX2_refresh 26 = .ok (.iastore, 1) := by decide +kernel
theorem dX2_refresh_27 : decode cX2_refresh 27 = .ok (.aload_n 0, 1) := by decide +kernel
theorem dX2_refresh_28 : decode cX2_refresh 28 = .ok (.getfield 15, 3) := by decide +kernel
theorem dX2_refresh_31 : decode cX2_refresh 31 = .ok (.iload_n 2, 1) := by decide +kernel
theorem dX2_refresh_32 : decode cX2_refresh 32 = .ok (.iconst 0, 1) := by decide +kernel
theorem dX2_refresh_33 : decode cX2_refresh 33 = .ok (.iastore, 1) := by decide +kernel
theorem dX2_refresh_34 : decode cX2_refresh 34 = .ok (.iconst 0, 1) := by decide +kernel
theorem dX2_refresh_35 : decode cX2_refresh 35 = .ok (.istore_n 3, 1) := by decide +kernel
theorem dX2_refresh_36 : decode cX2_refresh 36 = .ok (.iload_n 3, 1) := by decide +kernel
theorem dX2_refresh_37 : decode cX2_refresh 37 = .ok (.aload_n 1, 1) := by decide +kernel
theorem dX2_refresh_38 : decode cX2_refresh 38 = .ok (.getfield 24, 3) := by decide +kernel
theorem dX2_refresh_41 : decode cX2_refresh 41 = .ok (.if_icmp .ge 43, 3) := by decide +kernel
theorem dX2_refresh_44 : decode cX2_refresh 44 = .ok (.aload_n 0, 1) := by decide +kernel
theorem dX2_refresh_45 : decode cX2_refresh 45 = .ok (.aload_n 1, 1) := by decide +kernel
theorem dX2_refresh_46 : decode cX2_refresh 46 = .ok (.aload_n 1, 1) := by decide +kernel
theorem dX2_refresh_47 : decode cX2_refresh 47 = .ok (.getfield 28, 3) := by decide +kernel
theorem dX2_refresh_50 : decode cX2_refresh 50 = .ok (.iload_n 3, 1) := by decide +kernel
theorem dX2_refresh_51 : decode cX2_refresh 51 = .ok (.iaload, 1) := by decide +kernel
theorem dX2_refresh_52 : decode cX2_refresh 52 = .ok (.aload_n 1, 1) := by decide +kernel
theorem dX2_refresh_53 : decode cX2_refresh 53 = .ok (.getfield 31, 3) := by decide +kernel
theorem dX2_refresh_56 : decode cX2_refresh 56 = .ok (.iload_n 3, 1) := by decide +kernel
theorem dX2_refresh_57 : decode cX2_refresh 57 = .ok (.iaload, 1) := by decide +kernel
theorem dX2_refresh_58 : decode cX2_refresh 58 = .ok (.iload_n 2, 1) := by decide +kernel
theorem dX2_refresh_59 : decode cX2_refresh 59 = .ok (.invokevirtual 34, 3) := by decide +kernel
theorem dX2_refresh_62 : decode cX2_refresh 62 = .ok (.ifCond .eq 16, 3) := by decide +kernel
theorem dX2_refresh_65 : decode cX2_refresh 65 = .ok (.aload_n 0, 1) := by decide +kernel
theorem dX2_refresh_66 : decode cX2_refresh 66 = .ok (.getfield 15, 3) := by decide +kernel
theorem dX2_refresh_69 : decode cX2_refresh 69 = .ok (.iload_n 2, 1) := by decide +kernel
theorem dX2_refresh_70 : decode cX2_refresh 70 = .ok (.dup2, 1) := by decide +kernel
theorem dX2_refresh_71 : decode cX2_refresh 71 = .ok (.iaload, 1) := by decide +kernel
theorem dX2_refresh_72 : decode cX2_refresh 72 = .ok (.iload_n 3, 1) := by decide +kernel
theorem dX2_refresh_73 : decode cX2_refresh 73 = .ok (.invokestatic 38, 3) := by decide +kernel
theorem dX2_refresh_76 : decode cX2_refresh 76 = .ok (.ior, 1) := by decide +kernel
theorem dX2_refresh_77 : decode cX2_refresh 77 = .ok (.iastore, 1) := by decide +kernel
theorem dX2_refresh_78 : decode cX2_refresh 78 = .ok (.iinc 3 1, 3) := by decide +kernel
theorem dX2_refresh_81 : decode cX2_refresh 81 = .ok (.goto (-45), 3) := by decide +kernel
theorem dX2_refresh_84 : decode cX2_refresh 84 = .ok (.iinc 2 1, 3) := by decide +kernel
theorem dX2_refresh_87 : decode cX2_refresh 87 = .ok (.goto (-85), 3) := by decide +kernel
theorem dX2_refresh_90 : decode cX2_refresh 90 = .ok (.return_, 1) := by decide +kernel
theorem dX2_canSee_0 : decode cX2_canSee 0 = .ok (.aload_n 0, 1) := by decide +kernel
theorem dX2_canSee_1 : decode cX2_canSee 1 = .ok (.getfield 9, 3) := by decide +kernel
theorem dX2_canSee_4 : decode cX2_canSee 4 = .ok (.iload 4, 2) := by decide +kernel
theorem dX2_canSee_6 : decode cX2_canSee 6 = .ok (.iaload, 1) := by decide +kernel
theorem dX2_canSee_7 : decode cX2_canSee 7 = .ok (.iconst 1, 1) := by decide +kernel
theorem dX2_canSee_8 : decode cX2_canSee 8 = .ok (.if_icmp .ne 9, 3) := by decide +kernel
theorem dX2_canSee_11 : decode cX2_canSee 11 = .ok (.iconst 2, 1) := by decide +kernel
theorem dX2_canSee_12 : decode cX2_canSee 12 = .ok (.iload_n 3, 1) := by decide +kernel
theorem dX2_canSee_13 : decode cX2_canSee 13 = .ok (.imul, 1) := by decide +kernel
theorem dX2_canSee_14 : decode cX2_canSee 14 = .ok (.goto 4, 3) := by decide +kernel
theorem dX2_canSee_17 : decode cX2_canSee 17 = .ok (.iload_n 3, 1) := by decide +kernel
theorem dX2_canSee_18 : decode cX2_canSee 18 = .ok (.istore 5, 2) := by decide +kernel
theorem dX2_canSee_20 : decode cX2_canSee 20 = .ok (.iload_n 2, 1) := by decide +kernel
theorem dX2_canSee_21 : decode cX2_canSee 21 = .ok (.iload 4, 2) := by decide +kernel
theorem dX2_canSee_23 : decode cX2_canSee 23 = .ok (.invokestatic 42, 3) := by decide +kernel
theorem dX2_canSee_26 : decode cX2_canSee 26 = .ok (.iload 5, 2) := by decide +kernel
theorem dX2_canSee_28 : decode cX2_canSee 28 = .ok (.if_icmp .gt 17, 3) := by decide +kernel
theorem dX2_canSee_31 : decode cX2_canSee 31 = .ok (.aload_n 1, 1) := by decide +kernel
theorem dX2_canSee_32 : decode cX2_canSee 32 = .ok (.iload_n 2, 1) := by decide +kernel
theorem dX2_canSee_33 : decode cX2_canSee 33 = .ok (.iload 4, 2) := by decide +kernel
theorem dX2_canSee_35 : decode cX2_canSee 35 = .ok (.invokestatic 46, 3) := by decide +kernel
theorem dX2_canSee_38 : decode cX2_canSee 38 = .ok (.ifCond .eq 7, 3) := by decide +kernel
theorem dX2_canSee_41 : decode cX2_canSee 41 = .ok (.iconst 1, 1) := by decide +kernel
theorem dX2_canSee_42 : decode cX2_canSee 42 = .ok (.goto 4, 3) := by decide +kernel
theorem dX2_canSee_45 : decode cX2_canSee 45 = .ok (.iconst 0, 1) := by decide +kernel
theorem dX2_canSee_46 : decode cX2_canSee 46 = .ok (.ireturn, 1) := by decide +kernel
theorem dX2_countSeenFrom_0 : decode cX2_countSeenFrom 0 = .ok (.iconst 0, 1) := by decide +kernel
theorem dX2_countSeenFrom_1 : decode cX2_countSeenFrom 1 = .ok (.istore 4, 2) := by decide +kernel
theorem dX2_countSeenFrom_3 : decode cX2_countSeenFrom 3 = .ok (.iconst 0, 1) := by decide +kernel
theorem dX2_countSeenFrom_4 : decode cX2_countSeenFrom 4 = .ok (.istore 5, 2) := by decide +kernel
theorem dX2_countSeenFrom_6 : decode cX2_countSeenFrom 6 = .ok (.iload 5, 2) := by decide +kernel
theorem dX2_countSeenFrom_8 : decode cX2_countSeenFrom 8 = .ok (.bipush 120, 2) := by decide +kernel
theorem dX2_countSeenFrom_10 : decode cX2_countSeenFrom 10 = .ok (.if_icmp .ge 24, 3) := by decide +kernel
theorem dX2_countSeenFrom_13 : decode cX2_countSeenFrom 13 = .ok (.aload_n 0, 1) := by decide +kernel
theorem dX2_countSeenFrom_14 : decode cX2_countSeenFrom 14 = .ok (.aload_n 1, 1) := by decide +kernel
theorem dX2_countSeenFrom_15 : decode cX2_countSeenFrom 15 = .ok (.iload_n 2, 1) := by decide +kernel
theorem dX2_countSeenFrom_16 : decode cX2_countSeenFrom 16 = .ok (.iload_n 3, 1) := by decide +kernel
theorem dX2_countSeenFrom_17 : decode cX2_countSeenFrom 17 = .ok (.iload 5, 2) := by decide +kernel
theorem dX2_countSeenFrom_19 : decode cX2_countSeenFrom 19 = .ok (.invokevirtual 34, 3) := by decide +kernel
theorem dX2_countSeenFrom_22 : decode cX2_countSeenFrom 22 = .ok (.ifCond .eq 6, 3) := by decide +kernel
theorem dX2_countSeenFrom_25 : decode cX2_countSeenFrom 25 = .ok (.iinc 4 1, 3) := by decide +kernel
theorem dX2_countSeenFrom_28 : decode cX2_countSeenFrom 28 = .ok (.iinc 5 1, 3) := by decide +kernel
theorem dX2_countSeenFrom_31 : decode cX2_countSeenFrom 31 = .ok (.goto (-25), 3) := by decide +kernel
theorem dX2_countSeenFrom_34 : decode cX2_countSeenFrom 34 = .ok (.iload 4, 2) := by decide +kernel
theorem dX2_countSeenFrom_36 : decode cX2_countSeenFrom 36 = .ok (.ireturn, 1) := by decide +kernel
theorem dX2_isSeen_0 : decode cX2_isSeen 0 = .ok (.aload_n 0, 1) := by decide +kernel
theorem dX2_isSeen_1 : decode cX2_isSeen 1 = .ok (.getfield 15, 3) := by decide +kernel
theorem dX2_isSeen_4 : decode cX2_isSeen 4 = .ok (.iload_n 1, 1) := by decide +kernel
theorem dX2_isSeen_5 : decode cX2_isSeen 5 = .ok (.iaload, 1) := by decide +kernel
theorem dX2_isSeen_6 : decode cX2_isSeen 6 = .ok (.iload_n 2, 1) := by decide +kernel
theorem dX2_isSeen_7 : decode cX2_isSeen 7 = .ok (.iand, 1) := by decide +kernel
theorem dX2_isSeen_8 : decode cX2_isSeen 8 = .ok (.ifCond .eq 7, 3) := by decide +kernel
theorem dX2_isSeen_11 : decode cX2_isSeen 11 = .ok (.iconst 1, 1) := by decide +kernel
theorem dX2_isSeen_12 : decode cX2_isSeen 12 = .ok (.goto 4, 3) := by decide +kernel
theorem dX2_isSeen_15 : decode cX2_isSeen 15 = .ok (.iconst 0, 1) := by decide +kernel
theorem dX2_isSeen_16 : decode cX2_isSeen 16 = .ok (.ireturn, 1) := by decide +kernel
theorem dX2_countSeen_0 : decode cX2_countSeen 0 = .ok (.iconst 0, 1) := by decide +kernel
theorem dX2_countSeen_1 : decode cX2_countSeen 1 = .ok (.istore_n 2, 1) := by decide +kernel
theorem dX2_countSeen_2 : decode cX2_countSeen 2 = .ok (.iconst 0, 1) := by decide +kernel
theorem dX2_countSeen_3 : decode cX2_countSeen 3 = .ok (.istore_n 3, 1) := by decide +kernel
theorem dX2_countSeen_4 : decode cX2_countSeen 4 = .ok (.iload_n 3, 1) := by decide +kernel
theorem dX2_countSeen_5 : decode cX2_countSeen 5 = .ok (.bipush 120, 2) := by decide +kernel
theorem dX2_countSeen_7 : decode cX2_countSeen 7 = .ok (.if_icmp .ge 21, 3) := by decide +kernel
theorem dX2_countSeen_10 : decode cX2_countSeen 10 = .ok (.aload_n 0, 1) := by decide +kernel
theorem dX2_countSeen_11 : decode cX2_countSeen 11 = .ok (.iload_n 3, 1) := by decide +kernel
theorem dX2_countSeen_12 : decode cX2_countSeen 12 = .ok (.iload_n 1, 1) := by decide +kernel
theorem dX2_countSeen_13 : decode cX2_countSeen 13 = .ok (.invokevirtual 50, 3) := by decide +kernel
theorem dX2_countSeen_16 : decode cX2_countSeen 16 = .ok (.ifCond .eq 6, 3) := by decide +kernel
theorem dX2_countSeen_19 : decode cX2_countSeen 19 = .ok (.iinc 2 1, 3) := by decide +kernel
theorem dX2_countSeen_22 : decode cX2_countSeen 22 = .ok (.iinc 3 1, 3) := by decide +kernel
theorem dX2_countSeen_25 : decode cX2_countSeen 25 = .ok (.goto (-21), 3) := by decide +kernel
theorem dX2_countSeen_28 : decode cX2_countSeen 28 = .ok (.iload_n 2, 1) := by decide +kernel
theorem dX2_countSeen_29 : decode cX2_countSeen 29 = .ok (.ireturn, 1) := by decide +kernel
theorem dX2_countLit_0 : decode cX2_countLit 0 = .ok (.iconst 0, 1) := by decide +kernel
theorem dX2_countLit_1 : decode cX2_countLit 1 = .ok (.istore_n 1, 1) := by decide +kernel
theorem dX2_countLit_2 : decode cX2_countLit 2 = .ok (.iconst 0, 1) := by decide +kernel
theorem dX2_countLit_3 : decode cX2_countLit 3 = .ok (.istore_n 2, 1) := by decide +kernel
theorem dX2_countLit_4 : decode cX2_countLit 4 = .ok (.iload_n 2, 1) := by decide +kernel
theorem dX2_countLit_5 : decode cX2_countLit 5 = .ok (.bipush 120, 2) := by decide +kernel
theorem dX2_countLit_7 : decode cX2_countLit 7 = .ok (.if_icmp .ge 18, 3) := by decide +kernel
theorem dX2_countLit_10 : decode cX2_countLit 10 = .ok (.iload_n 1, 1) := by decide +kernel
theorem dX2_countLit_11 : decode cX2_countLit 11 = .ok (.aload_n 0, 1) := by decide +kernel
theorem dX2_countLit_12 : decode cX2_countLit 12 = .ok (.getfield 9, 3) := by decide +kernel
theorem dX2_countLit_15 : decode cX2_countLit 15 = .ok (.iload_n 2, 1) := by decide +kernel
theorem dX2_countLit_16 : decode cX2_countLit 16 = .ok (.iaload, 1) := by decide +kernel
theorem dX2_countLit_17 : decode cX2_countLit 17 = .ok (.iadd, 1) := by decide +kernel
theorem dX2_countLit_18 : decode cX2_countLit 18 = .ok (.istore_n 1, 1) := by decide +kernel
theorem dX2_countLit_19 : decode cX2_countLit 19 = .ok (.iinc 2 1, 3) := by decide +kernel
theorem dX2_countLit_22 : decode cX2_countLit 22 = .ok (.goto (-18), 3) := by decide +kernel
theorem dX2_countLit_25 : decode cX2_countLit 25 = .ok (.iload_n 1, 1) := by decide +kernel
theorem dX2_countLit_26 : decode cX2_countLit 26 = .ok (.ireturn, 1) := by decide +kernel
theorem dX2_isViewFree_0 : decode cX2_isViewFree 0 = .ok (.iload_n 1, 1) := by decide +kernel
theorem dX2_isViewFree_1 : decode cX2_isViewFree 1 = .ok (.iload_n 2, 1) := by decide +kernel
theorem dX2_isViewFree_2 : decode cX2_isViewFree 2 = .ok (.invokestatic 42, 3) := by decide +kernel
theorem dX2_isViewFree_5 : decode cX2_isViewFree 5 = .ok (.istore_n 3, 1) := by decide +kernel
theorem dX2_isViewFree_6 : decode cX2_isViewFree 6 = .ok (.iconst 2, 1) := by decide +kernel
theorem dX2_isViewFree_7 : decode cX2_isViewFree 7 = .ok (.aload_n 0, 1) := by decide +kernel
theorem dX2_isViewFree_8 : decode cX2_isViewFree 8 = .ok (.getfield 54, 3) := by decide +kernel
theorem dX2_isViewFree_11 : decode cX2_isViewFree 11 = .ok (.iload_n 1, 1) := by decide +kernel
theorem dX2_isViewFree_12 : decode cX2_isViewFree 12 = .ok (.iaload, 1) := by decide +kernel
theorem dX2_isViewFree_13 : decode cX2_isViewFree 13 = .ok (.imul, 1) := by decide +kernel
theorem dX2_isViewFree_14 : decode cX2_isViewFree 14 = .ok (.iconst 1, 1) := by decide +kernel
theorem dX2_isViewFree_15 : decode cX2_isViewFree 15 = .ok (.iadd, 1) := by decide +kernel
theorem dX2_isViewFree_16 : decode cX2_isViewFree 16 = .ok (.istore 4, 2) := by decide +kernel
theorem dX2_isViewFree_18 : decode cX2_isViewFree 18 = .ok (.iconst 2, 1) := by decide +kernel
theorem dX2_isViewFree_19 : decode cX2_isViewFree 19 = .ok (.aload_n 0, 1) := by decide +kernel
theorem dX2_isViewFree_20 : decode cX2_isViewFree 20 = .ok (.getfield 54, 3) := by decide +kernel
theorem dX2_isViewFree_23 : decode cX2_isViewFree 23 = .ok (.iload_n 2, 1) := by decide +kernel
theorem dX2_isViewFree_24 : decode cX2_isViewFree 24 = .ok (.iaload, 1) := by decide +kernel
theorem dX2_isViewFree_25 : decode cX2_isViewFree 25 = .ok (.imul, 1) := by decide +kernel
theorem dX2_isViewFree_26 : decode cX2_isViewFree 26 = .ok (.iconst 1, 1) := by decide +kernel
theorem dX2_isViewFree_27 : decode cX2_isViewFree 27 = .ok (.iadd, 1) := by decide +kernel
theorem dX2_isViewFree_28 : decode cX2_isViewFree 28 = .ok (.istore 5, 2) := by decide +kernel
theorem dX2_isViewFree_30 : decode cX2_isViewFree 30 = .ok (.iconst 1, 1) := by decide +kernel
theorem dX2_isViewFree_31 : decode cX2_isViewFree 31 = .ok (.istore 6, 2) := by decide +kernel
theorem dX2_isViewFree_33 : decode cX2_isViewFree 33 = .ok (.iload 6, 2) := by decide +kernel
theorem dX2_isViewFree_35 : decode cX2_isViewFree 35 = .ok (.iload_n 3, 1) := by decide +kernel
theorem dX2_isViewFree_36 : decode cX2_isViewFree 36 = .ok (.if_icmp .ge 67, 3) := by decide +kernel
theorem dX2_isViewFree_39 : decode cX2_isViewFree 39 = .ok (.iload_n 1, 1) := by decide +kernel
theorem dX2_isViewFree_40 : decode cX2_isViewFree 40 = .ok (.iload_n 2, 1) := by decide +kernel
theorem dX2_isViewFree_41 : decode cX2_isViewFree 41 = .ok (.iload_n 3, 1) := by decide +kernel
theorem dX2_isViewFree_42 : decode cX2_isViewFree 42 = .ok (.iload 6, 2) := by decide +kernel
theorem dX2_isViewFree_44 : decode cX2_isViewFree 44 = .ok (.invokestatic 57, 3) := by decide +kernel
theorem dX2_isViewFree_47 : decode cX2_isViewFree 47 = .ok (.istore 7, 2) := by decide +kernel
theorem dX2_isViewFree_49 : decode cX2_isViewFree 49 = .ok (.iconst 2, 1) := by decide +kernel
theorem dX2_isViewFree_50 : decode cX2_isViewFree 50 = .ok (.aload_n 0, 1) := by decide +kernel
theorem dX2_isViewFree_51 : decode cX2_isViewFree 51 = .ok (.getfield 54, 3) := by decide +kernel
theorem dX2_isViewFree_54 : decode cX2_isViewFree 54 = .ok (.iload 7, 2) := by decide +kernel
theorem dX2_isViewFree_56 : decode cX2_isViewFree 56 = .ok (.iaload, 1) := by decide +kernel
theorem dX2_isViewFree_57 : decode cX2_isViewFree 57 = .ok (.imul, 1) := by decide +kernel
theorem dX2_isViewFree_58 : decode cX2_isViewFree 58 = .ok (.bipush 100, 2) := by decide +kernel
theorem dX2_isViewFree_60 : decode cX2_isViewFree 60 = .ok (.aload_n 0, 1) := by decide +kernel
theorem dX2_isViewFree_61 : decode cX2_isViewFree 61 = .ok (.getfield 61, 3) := by decide +kernel
theorem dX2_isViewFree_64 : decode cX2_isViewFree 64 = .ok (.iload 7, 2) := by decide +kernel
theorem dX2_isViewFree_66 : decode cX2_isViewFree 66 = .ok (.iaload, 1) := by decide +kernel
theorem dX2_isViewFree_67 : decode cX2_isViewFree 67 = .ok (.imul, 1) := by decide +kernel
theorem dX2_isViewFree_68 : decode cX2_isViewFree 68 = .ok (.iadd, 1) := by decide +kernel
theorem dX2_isViewFree_69 : decode cX2_isViewFree 69 = .ok (.istore 8, 2) := by decide +kernel
theorem dX2_isViewFree_71 : decode cX2_isViewFree 71 = .ok (.iload 4, 2) := by decide +kernel
theorem dX2_isViewFree_73 : decode cX2_isViewFree 73 = .ok (.iload_n 3, 1) := by decide +kernel
theorem dX2_isViewFree_74 : decode cX2_isViewFree 74 = .ok (.iload 6, 2) := by decide +kernel
theorem dX2_isViewFree_76 : decode cX2_isViewFree 76 = .ok (.isub, 1) := by decide +kernel
theorem dX2_isViewFree_77 : decode cX2_isViewFree 77 = .ok (.imul, 1) := by decide +kernel
theorem dX2_isViewFree_78 : decode cX2_isViewFree 78 = .ok (.iload 5, 2) := by decide +kernel
theorem dX2_isViewFree_80 : decode cX2_isViewFree 80 = .ok (.iload 6, 2) := by decide +kernel
theorem dX2_isViewFree_82 : decode cX2_isViewFree 82 = .ok (.imul, 1) := by decide +kernel
theorem dX2_isViewFree_83 : decode cX2_isViewFree 83 = .ok (.iadd, 1) := by decide +kernel
theorem dX2_isViewFree_84 : decode cX2_isViewFree 84 = .ok (.iload_n 3, 1) := by decide +kernel
theorem dX2_isViewFree_85 : decode cX2_isViewFree 85 = .ok (.idiv, 1) := by decide +kernel
theorem dX2_isViewFree_86 : decode cX2_isViewFree 86 = .ok (.istore 9, 2) := by decide +kernel
theorem dX2_isViewFree_88 : decode cX2_isViewFree 88 = .ok (.iload 8, 2) := by decide +kernel
theorem dX2_isViewFree_90 : decode cX2_isViewFree 90 = .ok (.iload 9, 2) := by decide +kernel
theorem dX2_isViewFree_92 : decode cX2_isViewFree 92 = .ok (.if_icmp .le 5, 3) := by decide +kernel
theorem dX2_isViewFree_95 : decode cX2_isViewFree 95 = .ok (.iconst 0, 1) := by decide +kernel
theorem dX2_isViewFree_96 : decode cX2_isViewFree 96 = .ok (.ireturn, 1) := by decide +kernel
theorem dX2_isViewFree_97 : decode cX2_isViewFree 97 = .ok (.iinc 6 1, 3) := by decide +kernel
theorem dX2_isViewFree_100 : decode cX2_isViewFree 100 = .ok (.goto (-67), 3) := by decide +kernel
theorem dX2_isViewFree_103 : decode cX2_isViewFree 103 = .ok (.iconst 1, 1) := by decide +kernel
theorem dX2_isViewFree_104 : decode cX2_isViewFree 104 = .ok (.ireturn, 1) := by decide +kernel
theorem dX2_innerCell_0 : decode cX2_innerCell 0 = .ok (.iload_n 3, 1) := by decide +kernel
theorem dX2_innerCell_1 : decode cX2_innerCell 1 = .ok (.iload_n 1, 1) := by decide +kernel
theorem dX2_innerCell_2 : decode cX2_innerCell 2 = .ok (.invokestatic 64, 3) := by decide +kernel
theorem dX2_innerCell_5 : decode cX2_innerCell 5 = .ok (.iload_n 0, 1) := by decide +kernel
theorem dX2_innerCell_6 : decode cX2_innerCell 6 = .ok (.invokestatic 64, 3) := by decide +kernel
theorem dX2_innerCell_9 : decode cX2_innerCell 9 = .ok (.isub, 1) := by decide +kernel
theorem dX2_innerCell_10 : decode cX2_innerCell 10 = .ok (.imul, 1) := by decide +kernel
theorem dX2_innerCell_11 : decode cX2_innerCell 11 = .ok (.iload_n 2, 1) := by decide +kernel
theorem dX2_innerCell_12 : decode cX2_innerCell 12 = .ok (.invokestatic 67, 3) := by decide +kernel
theorem dX2_innerCell_15 : decode cX2_innerCell 15 = .ok (.istore 4, 2) := by decide +kernel
theorem dX2_innerCell_17 : decode cX2_innerCell 17 = .ok (.iload_n 3, 1) := by decide +kernel
theorem dX2_innerCell_18 : decode cX2_innerCell 18 = .ok (.iload_n 1, 1) := by decide +kernel
theorem dX2_innerCell_19 : decode cX2_innerCell 19 = .ok (.invokestatic 70, 3) := by decide +kernel
theorem dX2_innerCell_22 : decode cX2_innerCell 22 = .ok (.iload_n 0, 1) := by decide +kernel
theorem dX2_innerCell_23 : decode cX2_innerCell 23 = .ok (.invokestatic 70, 3) := by decide +kernel
theorem dX2_innerCell_26 : decode cX2_innerCell 26 = .ok (.isub, 1) := by decide +kernel
theorem dX2_innerCell_27 : decode cX2_innerCell 27 = .ok (.imul, 1) := by decide +kernel
theorem dX2_innerCell_28 : decode cX2_innerCell 28 = .ok (.iload_n 2, 1) := by decide +kernel
theorem dX2_innerCell_29 : decode cX2_innerCell 29 = .ok (.invokestatic 67, 3) := by decide +kernel
theorem dX2_innerCell_32 : decode cX2_innerCell 32 = .ok (.istore 5, 2) := by decide +kernel
theorem dX2_innerCell_34 : decode cX2_innerCell 34 = .ok (.iload_n 0, 1) := by decide +kernel
theorem dX2_innerCell_35 : decode cX2_innerCell 35 = .ok (.invokestatic 64, 3) := by decide +kernel
theorem dX2_innerCell_38 : decode cX2_innerCell 38 = .ok (.iload 4, 2) := by decide +kernel
theorem dX2_innerCell_40 : decode cX2_innerCell 40 = .ok (.iadd, 1) := by decide +kernel
theorem dX2_innerCell_41 : decode cX2_innerCell 41 = .ok (.iload_n 0, 1) := by decide +kernel
theorem dX2_innerCell_42 : decode cX2_innerCell 42 = .ok (.invokestatic 70, 3) := by decide +kernel
theorem dX2_innerCell_45 : decode cX2_innerCell 45 = .ok (.iload 5, 2) := by decide +kernel
theorem dX2_innerCell_47 : decode cX2_innerCell 47 = .ok (.iadd, 1) := by decide +kernel
theorem dX2_innerCell_48 : decode cX2_innerCell 48 = .ok (.invokestatic 73, 3) := by decide +kernel
theorem dX2_innerCell_51 : decode cX2_innerCell 51 = .ok (.ireturn, 1) := by decide +kernel
theorem dX2_part_0 : decode cX2_part 0 = .ok (.iconst 2, 1) := by decide +kernel
theorem dX2_part_1 : decode cX2_part 1 = .ok (.iload_n 0, 1) := by decide +kernel
theorem dX2_part_2 : decode cX2_part 2 = .ok (.imul, 1) := by decide +kernel
theorem dX2_part_3 : decode cX2_part 3 = .ok (.iload_n 1, 1) := by decide +kernel
theorem dX2_part_4 : decode cX2_part 4 = .ok (.iadd, 1) := by decide +kernel
theorem dX2_part_5 : decode cX2_part 5 = .ok (.iconst 2, 1) := by decide +kernel
theorem dX2_part_6 : decode cX2_part 6 = .ok (.iload_n 1, 1) := by decide +kernel
theorem dX2_part_7 : decode cX2_part 7 = .ok (.imul, 1) := by decide +kernel
theorem dX2_part_8 : decode cX2_part 8 = .ok (.invokestatic 76, 3) := by decide +kernel
theorem dX2_part_11 : decode cX2_part 11 = .ok (.ireturn, 1) := by decide +kernel
theorem dX3_init_0 : decode cX3_init 0 = .ok (.aload_n 0, 1) := by decide +kernel
theorem dX3_init_1 : decode cX3_init 1 = .ok (.invokespecial 3, 3) := by decide +kernel
theorem dX3_init_4 : decode cX3_init 4 = .ok (.aload_n 0, 1) := by decide +kernel
theorem dX3_init_5 : decode cX3_init 5 = .ok (.bipush 120, 2) := by decide +kernel
theorem dX3_init_7 : decode cX3_init 7 = .ok (.newarray .int, 2) := by decide +kernel
theorem dX3_init_9 : decode cX3_init 9 = .ok (.putfield 9, 3) := by decide +kernel
theorem dX3_init_12 : decode cX3_init 12 = .ok (.aload_n 0, 1) := by decide +kernel
theorem dX3_init_13 : decode cX3_init 13 = .ok (.bipush 120, 2) := by decide +kernel
theorem dX3_init_15 : decode cX3_init 15 = .ok (.newarray .int, 2) := by decide +kernel
theorem dX3_init_17 : decode cX3_init 17 = .ok (.putfield 15, 3) := by decide +kernel
theorem dX3_init_20 : decode cX3_init 20 = .ok (.aload_n 0, 1) := by decide +kernel
theorem dX3_init_21 : decode cX3_init 21 = .ok (.iconst 0, 1) := by decide +kernel
theorem dX3_init_22 : decode cX3_init 22 = .ok (.putfield 18, 3) := by decide +kernel
theorem dX3_init_25 : decode cX3_init 25 = .ok (.aload_n 0, 1) := by decide +kernel
theorem dX3_init_26 : decode cX3_init 26 = .ok (.bipush 10, 2) := by decide +kernel
theorem dX3_init_28 : decode cX3_init 28 = .ok (.newarray .int, 2) := by decide +kernel
theorem dX3_init_30 : decode cX3_init 30 = .ok (.putfield 22, 3) := by decide +kernel
theorem dX3_init_33 : decode cX3_init 33 = .ok (.aload_n 0, 1) := by decide +kernel
theorem dX3_init_34 : decode cX3_init 34 = .ok (.bipush 10, 2) := by decide +kernel
theorem dX3_init_36 : decode cX3_init 36 = .ok (.newarray .int, 2) := by decide +kernel
theorem dX3_init_38 : decode cX3_init 38 = .ok (.putfield 25, 3) := by decide +kernel
theorem dX3_init_41 : decode cX3_init 41 = .ok (.aload_n 0, 1) := by decide +kernel
theorem dX3_init_42 : decode cX3_init 42 = .ok (.bipush 10, 2) := by decide +kernel
theorem dX3_init_44 : decode cX3_init 44 = .ok (.newarray .int, 2) := by decide +kernel
theorem dX3_init_46 : decode cX3_init 46 = .ok (.putfield 28, 3) := by decide +kernel
theorem dX3_init_49 : decode cX3_init 49 = .ok (.aload_n 0, 1) := by decide +kernel
theorem dX3_init_50 : decode cX3_init 50 = .ok (.iconst 0, 1) := by decide +kernel
theorem dX3_init_51 : decode cX3_init 51 = .ok (.putfield 31, 3) := by decide +kernel
theorem dX3_init_54 : decode cX3_init 54 = .ok (.aload_n 0, 1) := by decide +kernel
theorem dX3_init_55 : decode cX3_init 55 = .ok (.bipush 6, 2) := by decide +kernel
theorem dX3_init_57 : decode cX3_init 57 = .ok (.newarray .int, 2) := by decide +kernel
theorem dX3_init_59 : decode cX3_init 59 = .ok (.putfield 34, 3) := by decide +kernel
theorem dX3_init_62 : decode cX3_init 62 = .ok (.aload_n 0, 1) := by decide +kernel
theorem dX3_init_63 : decode cX3_init 63 = .ok (.bipush 6, 2) := by decide +kernel
theorem dX3_init_65 : decode cX3_init 65 = .ok (.newarray .int, 2) := by decide +kernel
theorem dX3_init_67 : decode cX3_init 67 = .ok (.putfield 37, 3) := by decide +kernel
theorem dX3_init_70 : decode cX3_init 70 = .ok (.aload_n 0, 1) := by decide +kernel
theorem dX3_init_71 : decode cX3_init 71 = .ok (.bipush 6, 2) := by decide +kernel
theorem dX3_init_73 : decode cX3_init 73 = .ok (.newarray .int, 2) := by decide +kernel
theorem dX3_init_75 : decode cX3_init 75 = .ok (.putfield 40, 3) := by decide +kernel
theorem dX3_init_78 : decode cX3_init 78 = .ok (.aload_n 0, 1) := by decide +kernel
theorem dX3_init_79 : decode cX3_init 79 = .ok (.bipush 10, 2) := by decide +kernel
theorem dX3_init_81 : decode cX3_init 81 = .ok (.putfield 43, 3) := by decide +kernel
theorem dX3_init_84 : decode cX3_init 84 = .ok (.aload_n 0, 1) := by decide +kernel
theorem dX3_init_85 : decode cX3_init 85 = .ok (.iconst 0, 1) := by decide +kernel
theorem dX3_init_86 : decode cX3_init 86 = .ok (.putfield 46, 3) := by decide +kernel
theorem dX3_init_89 : decode cX3_init 89 = .ok (.aload_n 0, 1) := by decide +kernel
theorem dX3_init_90 : decode cX3_init 90 = .ok (.iconst 2, 1) := by decide +kernel
theorem dX3_init_91 : decode cX3_init 91 = .ok (.anewarray 49, 3) := by decide +kernel
theorem dX3_init_94 : decode cX3_init 94 = .ok (.dup, 1) := by decide +kernel
theorem dX3_init_95 : decode cX3_init 95 = .ok (.iconst 0, 1) := by decide +kernel
theorem dX3_init_96 : decode cX3_init 96 = .ok (.new 49, 3) := by decide +kernel
theorem dX3_init_99 : decode cX3_init 99 = .ok (.dup, 1) := by decide +kernel
theorem dX3_init_100 : decode cX3_init 100 = .ok (.invokespecial 51, 3) := by decide +kernel
theorem dX3_init_103 : decode cX3_init 103 = .ok (.aastore, 1) := by decide +kernel
theorem dX3_init_104 : decode cX3_init 104 = .ok (.dup, 1) := by decide +kernel
theorem dX3_init_105 : decode cX3_init 105 = .ok (.iconst 1, 1) := by decide +kernel
theorem dX3_init_106 : decode cX3_init 106 = .ok (.new 49, 3) := by decide +kernel
theorem dX3_init_109 : decode cX3_init 109 = .ok (.dup, 1) := by decide +kernel
theorem dX3_init_110 : decode cX3_init 110 = .ok (.invokespecial 51, 3) := by decide +kernel
theorem dX3_init_113 : decode cX3_init 113 = .ok (.aastore, 1) := by decide +kernel
theorem dX3_init_114 : decode cX3_init 114 = .ok (.putfield 52, 3) := by decide +kernel
theorem dX3_init_117 : decode cX3_init 117 = .ok (.return_, 1) := by decide +kernel
theorem dX3_copyFrom_0 : decode cX3_copyFrom 0 = .ok (.aload_n 1, 1) := by decide +kernel
theorem dX3_copyFrom_1 : decode cX3_copyFrom 1 = .ok (.getfield 9, 3) := by decide +kernel
theorem dX3_copyFrom_4 : decode cX3_copyFrom 4 = .ok (.aload_n 0, 1) := by decide +kernel
theorem dX3_copyFrom_5 : decode cX3_copyFrom 5 = .ok (.getfield 9, 3) := by decide +kernel
theorem dX3_copyFrom_8 : decode cX3_copyFrom 8 = .ok (.invokestatic 56, 3) := by decide +kernel
theorem dX3_copyFrom_11 : decode cX3_copyFrom 11 = .ok (.aload_n 1, 1) := by decide +kernel
theorem dX3_copyFrom_12 : decode cX3_copyFrom 12 = .ok (.getfield 15, 3) := by decide +kernel
theorem dX3_copyFrom_15 : decode cX3_copyFrom 15 = .ok (.aload_n 0, 1) := by decide +kernel
theorem dX3_copyFrom_16 : decode cX3_copyFrom 16 = .ok (.getfield 15, 3) := by decide +kernel
theorem dX3_copyFrom_19 : decode cX3_copyFrom 19 = .ok (.invokestatic 56, 3) := by decide +kernel
theorem dX3_copyFrom_22 : decode cX3_copyFrom 22 = .ok (.aload_n 0, 1) := by decide +kernel
theorem dX3_copyFrom_23 : decode cX3_copyFrom 23 = .ok (.aload_n 1, 1) := by decide +kernel
theorem dX3_copyFrom_24 : decode cX3_copyFrom 24 = .ok (.getfield 18, 3) := by decide +kernel
theorem dX3_copyFrom_27 : decode cX3_copyFrom 27 = .ok (.putfield 18, 3) := by decide +kernel
theorem dX3_copyFrom_30 : decode cX3_copyFrom 30 = .ok (.aload_n 1, 1) := by decide +kernel
theorem dX3_copyFrom_31 : decode cX3_copyFrom 31 = .ok (.getfield 22, 3) := by decide +kernel
theorem dX3_copyFrom_34 : decode cX3_copyFrom 34 = .ok (.aload_n 0, 1) := by decide +kernel
theorem dX3_copyFrom_35 : decode cX3_copyFrom 35 = .ok (.getfield 22, 3) := by decide +kernel
theorem dX3_copyFrom_38 : decode cX3_copyFrom 38 = .ok (.invokestatic 56, 3) := by decide +kernel
theorem dX3_copyFrom_41 : decode cX3_copyFrom 41 = .ok (.aload_n 1, 1) := by decide +kernel
theorem dX3_copyFrom_42 : decode cX3_copyFrom 42 = .ok (.getfield 25, 3) := by decide +kernel
theorem dX3_copyFrom_45 : decode cX3_copyFrom 45 = .ok (.aload_n 0, 1) := by decide +kernel
theorem dX3_copyFrom_46 : decode cX3_copyFrom 46 = .ok (.getfield 25, 3) := by decide +kernel
theorem dX3_copyFrom_49 : decode cX3_copyFrom 49 = .ok (.invokestatic 56, 3) := by decide +kernel
theorem dX3_copyFrom_52 : decode cX3_copyFrom 52 = .ok (.aload_n 1, 1) := by decide +kernel
theorem dX3_copyFrom_53 : decode cX3_copyFrom 53 = .ok (.getfield 28, 3) := by decide +kernel
theorem dX3_copyFrom_56 : decode cX3_copyFrom 56 = .ok (.aload_n 0, 1) := by decide +kernel
theorem dX3_copyFrom_57 : decode cX3_copyFrom 57 = .ok (.getfield 28, 3) := by decide +kernel
theorem dX3_copyFrom_60 : decode cX3_copyFrom 60 = .ok (.invokestatic 56, 3) := by decide +kernel
theorem dX3_copyFrom_63 : decode cX3_copyFrom 63 = .ok (.aload_n 0, 1) := by decide +kernel
theorem dX3_copyFrom_64 : decode cX3_copyFrom 64 = .ok (.aload_n 1, 1) := by decide +kernel
theorem dX3_copyFrom_65 : decode cX3_copyFrom 65 = .ok (.getfield 31, 3) := by decide +kernel
theorem dX3_copyFrom_68 : decode cX3_copyFrom 68 = .ok (.putfield 31, 3) := by decide +kernel
theorem dX3_copyFrom_71 : decode cX3_copyFrom 71 = .ok (.aload_n 1, 1) := by decide +kernel
theorem dX3_copyFrom_72 : decode cX3_copyFrom 72 = .ok (.getfield 34, 3) := by decide +kernel
theorem dX3_copyFrom_75 : decode cX3_copyFrom 75 = .ok (.aload_n 0, 1) := by decide +kernel
theorem dX3_copyFrom_76 : decode cX3_copyFrom 76 = .ok (.getfield 34, 3) := by decide +kernel
theorem dX3_copyFrom_79 : decode cX3_copyFrom 79 = .ok (.invokestatic 56, 3) := by decide +kernel
theorem dX3_copyFrom_82 : decode cX3_copyFrom 82 = .ok (.aload_n 1, 1) := by decide +kernel
theorem dX3_copyFrom_83 : decode cX3_copyFrom 83 = .ok (.getfield 37, 3) := by decide +kernel
theorem dX3_copyFrom_86 : decode cX3_copyFrom 86 = .ok (.aload_n 0, 1) := by decide +kernel
theorem dX3_copyFrom_87 : decode cX3_copyFrom 87 = .ok (.getfield 37, 3) := by decide +kernel
theorem dX3_copyFrom_90 : decode cX3_copyFrom 90 = .ok (.invokestatic 56, 3) := by decide +kernel
theorem dX3_copyFrom_93 : decode cX3_copyFrom 93 = .ok (.aload_n 1, 1) := by decide +kernel
theorem dX3_copyFrom_94 : decode cX3_copyFrom 94 = .ok (.getfield 40, 3) := by decide +kernel
theorem dX3_copyFrom_97 : decode cX3_copyFrom 97 = .ok (.aload_n 0, 1) := by decide +kernel
theorem dX3_copyFrom_98 : decode cX3_copyFrom 98 = .ok (.getfield 40, 3) := by decide +kernel
theorem dX3_copyFrom_101 : decode cX3_copyFrom 101 = .ok (.invokestatic 56, 3) := by decide +kernel
theorem dX3_copyFrom_104 : decode cX3_copyFrom 104 = .ok (.aload_n 0, 1) := by decide +kernel
theorem dX3_copyFrom_105 : decode cX3_copyFrom 105 = .ok (.aload_n 1, 1) := by decide +kernel
theorem dX3_copyFrom_106 : decode cX3_copyFrom 106 = .ok (.getfield 43, 3) := by decide +kernel
theorem dX3_copyFrom_109 : decode cX3_copyFrom 109 = .ok (.putfield 43, 3) := by decide +kernel
theorem dX3_copyFrom_112 : decode cX3_copyFrom 112 = .ok (.aload_n 0, 1) := by decide +kernel
theorem dX3_copyFrom_113 : decode cX3_copyFrom 113 = .ok (.aload_n 1, 1) := by decide +kernel
theorem dX3_copyFrom_114 : decode cX3_copyFrom 114 = .ok (.getfield 46, 3) := by decide +kernel
theorem dX3_copyFrom_117 : decode cX3_copyFrom 117 = .ok (.putfield 46, 3) := by decide +kernel
theorem dX3_copyFrom_120 : decode cX3_copyFrom 120 = .ok (.iconst 0, 1) := by decide +kernel
theorem dX3_copyFrom_121 : decode cX3_copyFrom 121 = .ok (.istore_n 2, 1) := by decide +kernel
theorem dX3_copyFrom_122 : decode cX3_copyFrom 122 = .ok (.iload_n 2, 1) := by decide +kernel
theorem dX3_copyFrom_123 : decode cX3_copyFrom 123 = .ok (.iconst 2, 1) := by decide +kernel
theorem dX3_copyFrom_124 : decode cX3_copyFrom 124 = .ok (.if_icmp .ge 24, 3) := by decide +kernel
theorem dX3_copyFrom_127 : decode cX3_copyFrom 127 = .ok (.aload_n 0, 1) := by decide +kernel
theorem dX3_copyFrom_128 : decode cX3_copyFrom 128 = .ok (.getfield 52, 3) := by decide +kernel
theorem dX3_copyFrom_131 : decode cX3_copyFrom 131 = .ok (.iload_n 2, 1) := by decide +kernel
theorem dX3_copyFrom_132 : decode cX3_copyFrom 132 = .ok (.aaload, 1) := by decide +kernel
theorem dX3_copyFrom_133 : decode cX3_copyFrom 133 = .ok (.aload_n 1, 1) := by decide +kernel
theorem dX3_copyFrom_134 : decode cX3_copyFrom 134 = .ok (.getfield 52, 3) := by decide +kernel
theorem dX3_copyFrom_137 : decode cX3_copyFrom 137 = .ok (.iload_n 2, 1) := by decide +kernel
theorem dX3_copyFrom_138 : decode cX3_copyFrom 138 = .ok (.aaload, 1) := by decide +kernel
theorem dX3_copyFrom_139 : decode cX3_copyFrom 139 = .ok (.invokevirtual 60, 3) := by decide +kernel
theorem dX3_copyFrom_142 : decode cX3_copyFrom 142 = .ok (.iinc 2 1, 3) := by decide +kernel
theorem dX3_copyFrom_145 : decode cX3_copyFrom 145 = .ok (.goto (-23), 3) := by decide +kernel
theorem dX3_copyFrom_148 : decode cX3_copyFrom 148 = .ok (.return_, 1) := by decide +kernel
theorem dX3_scoutIn_0 : decode cX3_scoutIn 0 = .ok (.iconst 0, 1) := by decide +kernel
theorem dX3_scoutIn_1 : decode cX3_scoutIn 1 = .ok (.istore_n 2, 1) := by decide +kernel
theorem dX3_scoutIn_2 : decode cX3_scoutIn 2 = .ok (.iload_n 2, 1) := by decide +kernel
theorem dX3_scoutIn_3 : decode cX3_scoutIn 3 = .ok (.aload_n 0, 1) := by decide +kernel
theorem dX3_scoutIn_4 : decode cX3_scoutIn 4 = .ok (.getfield 18, 3) := by decide +kernel
theorem dX3_scoutIn_7 : decode cX3_scoutIn 7 = .ok (.if_icmp .ge 21, 3) := by decide +kernel
theorem dX3_scoutIn_10 : decode cX3_scoutIn 10 = .ok (.aload_n 0, 1) := by decide +kernel
theorem dX3_scoutIn_11 : decode cX3_scoutIn 11 = .ok (.getfield 25, 3) := by decide +kernel
theorem dX3_scoutIn_14 : decode cX3_scoutIn 14 = .ok (.iload_n 2, 1) := by decide +kernel
theorem dX3_scoutIn_15 : decode cX3_scoutIn 15 = .ok (.iaload, 1) := by decide +kernel
theorem dX3_scoutIn_16 : decode cX3_scoutIn 16 = .ok (.iload_n 1, 1) := by decide +kernel
theorem dX3_scoutIn_17 : decode cX3_scoutIn 17 = .ok (.if_icmp .ne 5, 3) := by decide +kernel
theorem dX3_scoutIn_20 : decode cX3_scoutIn 20 = .ok (.iload_n 2, 1) := by decide +kernel
theorem dX3_scoutIn_21 : decode cX3_scoutIn 21 = .ok (.ireturn, 1) := by decide +kernel
theorem dX3_scoutIn_22 : decode cX3_scoutIn 22 = .ok (.iinc 2 1, 3) := by decide +kernel
theorem dX3_scoutIn_25 : decode cX3_scoutIn 25 = .ok (.goto (-23), 3) := by decide +kernel
theorem dX3_scoutIn_28 : decode cX3_scoutIn 28 = .ok (.bipush (-19), 2) := by decide +kernel
theorem dX3_scoutIn_30 : decode cX3_scoutIn 30 = .ok (.ireturn, 1) := by decide +kernel
theorem dX3_isFree_0 : decode cX3_isFree 0 = .ok (.aload_n 0, 1) := by decide +kernel
theorem dX3_isFree_1 : decode cX3_isFree 1 = .ok (.getfield 15, 3) := by decide +kernel
theorem dX3_isFree_4 : decode cX3_isFree 4 = .ok (.iload_n 1, 1) := by decide +kernel
theorem dX3_isFree_5 : decode cX3_isFree 5 = .ok (.iaload, 1) := by decide +kernel
theorem dX3_isFree_6 : decode cX3_isFree 6 = .ok (.ifCond .ne 17, 3) := by decide +kernel
theorem dX3_isFree_9 : decode cX3_isFree 9 = .ok (.aload_n 0, 1) := by decide +kernel
theorem dX3_isFree_10 : decode cX3_isFree 10 = .ok (.iload_n 1, 1) := by decide +kernel
theorem dX3_isFree_11 : decode cX3_isFree 11 = .ok (.invokevirtual 64, 3) := by decide +kernel
theorem dX3_isFree_14 : decode cX3_isFree 14 = .ok (.bipush (-19), 2) := by decide +kernel
theorem dX3_isFree_16 : decode cX3_isFree 16 = .ok (.if_icmp .ne 7, 3) := by decide +kernel
theorem dX3_isFree_19 : decode cX3_isFree 19 = .ok (.iconst 1, 1) := by decide +kernel
theorem dX3_isFree_20 : decode cX3_isFree 20 = .ok (.goto 4, 3) := by decide +kernel
theorem dX3_isFree_23 : decode cX3_isFree 23 = .ok (.iconst 0, 1) := by decide +kernel
theorem dX3_isFree_24 : decode cX3_isFree 24 = .ok (.ireturn, 1) := by decide +kernel
theorem dX3_scoutsOf_0 : decode cX3_scoutsOf 0 = .ok (.iconst 0, 1) := by decide +kernel
theorem dX3_scoutsOf_1 : decode cX3_scoutsOf 1 = .ok (.istore_n 2, 1) := by decide +kernel
theorem dX3_scoutsOf_2 : decode cX3_scoutsOf 2 = .ok (.iconst 0, 1) := by decide +kernel
theorem dX3_scoutsOf_3 : decode cX3_scoutsOf 3 = .ok (.istore_n 3, 1) := by decide +kernel
theorem dX3_scoutsOf_4 : decode cX3_scoutsOf 4 = .ok (.iload_n 3, 1) := by decide +kernel
theorem dX3_scoutsOf_5 : decode cX3_scoutsOf 5 = .ok (.aload_n 0, 1) := by decide +kernel
theorem dX3_scoutsOf_6 : decode cX3_scoutsOf 6 = .ok (.getfield 18, 3) := by decide +kernel
theorem dX3_scoutsOf_9 : decode cX3_scoutsOf 9 = .ok (.if_icmp .ge 26, 3) := by decide +kernel
theorem dX3_scoutsOf_12 : decode cX3_scoutsOf 12 = .ok (.aload_n 0, 1) := by decide +kernel
theorem dX3_scoutsOf_13 : decode cX3_scoutsOf 13 = .ok (.getfield 22, 3) := by decide +kernel
theorem dX3_scoutsOf_16 : decode cX3_scoutsOf 16 = .ok (.iload_n 3, 1) := by decide +kernel
theorem dX3_scoutsOf_17 : decode cX3_scoutsOf 17 = .ok (.iaload, 1) := by decide +kernel
theorem dX3_scoutsOf_18 : decode cX3_scoutsOf 18 = .ok (.iload_n 1, 1) := by decide +kernel
theorem dX3_scoutsOf_19 : decode cX3_scoutsOf 19 = .ok (.if_icmp .ne 10, 3) := by decide +kernel
theorem dX3_scoutsOf_22 : decode cX3_scoutsOf 22 = .ok (.iload_n 2, 1) := by decide +kernel
theorem dX3_scoutsOf_23 : decode cX3_scoutsOf 23 = .ok (.iload_n 3, 1) := by decide +kernel
theorem dX3_scoutsOf_24 : decode cX3_scoutsOf 24 = .ok (.invokestatic 68, 3) := by decide +kernel
theorem dX3_scoutsOf_27 : decode cX3_scoutsOf 27 = .ok (.ior, 1) := by decide +kernel
theorem dX3_scoutsOf_28 : decode cX3_scoutsOf 28 = .ok (.istore_n 2, 1) := by decide +kernel
theorem dX3_scoutsOf_29 : decode cX3_scoutsOf 29 = .ok (.iinc 3 1, 3) := by decide +kernel
theorem dX3_scoutsOf_32 : decode cX3_scoutsOf 32 = .ok (.goto (-28), 3) := by decide +kernel
theorem dX3_scoutsOf_35 : decode cX3_scoutsOf 35 = .ok (.iload_n 2, 1) := by decide +kernel
theorem dX3_scoutsOf_36 : decode cX3_scoutsOf 36 = .ok (.ireturn, 1) := by decide +kernel
theorem dX3_putScout_0 : decode cX3_putScout 0 = .ok (.aload_n 0, 1) := by decide +kernel
theorem dX3_putScout_1 : decode cX3_putScout 1 = .ok (.getfield 22, 3) := by decide +kernel
theorem dX3_putScout_4 : decode cX3_putScout 4 = .ok (.aload_n 0, 1) := by decide +kernel
theorem dX3_putScout_5 : decode cX3_putScout 5 = .ok (.getfield 18, 3) := by decide +kernel
theorem dX3_putScout_8 : decode cX3_putScout 8 = .ok (.iload_n 1, 1) := by decide +kernel
theorem dX3_putScout_9 : decode cX3_putScout 9 = .ok (.iastore, 1) := by decide +kernel
theorem dX3_putScout_10 : decode cX3_putScout 10 = .ok (.aload_n 0, 1) := by decide +kernel
theorem dX3_putScout_11 : decode cX3_putScout 11 = .ok (.getfield 25, 3) := by decide +kernel
theorem dX3_putScout_14 : decode cX3_putScout 14 = .ok (.aload_n 0, 1) := by decide +kernel
theorem dX3_putScout_15 : decode cX3_putScout 15 = .ok (.getfield 18, 3) := by decide +kernel
theorem dX3_putScout_18 : decode cX3_putScout 18 = .ok (.iload_n 2, 1) := by decide +kernel
theorem dX3_putScout_19 : decode cX3_putScout 19 = .ok (.iastore, 1) := by decide +kernel
theorem dX3_putScout_20 : decode cX3_putScout 20 = .ok (.aload_n 0, 1) := by decide +kernel
theorem dX3_putScout_21 : decode cX3_putScout 21 = .ok (.getfield 28, 3) := by decide +kernel
theorem dX3_putScout_24 : decode cX3_putScout 24 = .ok (.aload_n 0, 1) := by decide +kernel
theorem dX3_putScout_25 : decode cX3_putScout 25 = .ok (.getfield 18, 3) := by decide +kernel
theorem dX3_putScout_28 : decode cX3_putScout 28 = .ok (.iload_n 3, 1) := by decide +kernel
theorem dX3_putScout_29 : decode cX3_putScout 29 = .ok (.iastore, 1) := by decide +kernel
theorem dX3_putScout_30 : decode cX3_putScout 30 = .ok (.aload_n 0, 1) := by decide +kernel
theorem dX3_putScout_31 : decode cX3_putScout 31 = .ok (.dup, 1) := by decide +kernel
theorem dX3_putScout_32 : decode cX3_putScout 32 = .ok (.getfield 18, 3) := by decide +kernel
theorem dX3_putScout_35 : decode cX3_putScout 35 = .ok (.iconst 1, 1) := by decide +kernel
theorem dX3_putScout_36 : decode cX3_putScout 36 = .ok (.iadd, 1) := by decide +kernel
theorem dX3_putScout_37 : decode cX3_putScout 37 = .ok (.putfield 18, 3) := by decide +kernel
theorem dX3_putScout_40 : decode cX3_putScout 40 = .ok (.return_, 1) := by decide +kernel
theorem dX3_dropScout_0 : decode cX3_dropScout 0 = .ok (.aload_n 0, 1) := by decide +kernel
theorem dX3_dropScout_1 : decode cX3_dropScout 1 = .ok (.getfield 22, 3) := by decide +kernel
theorem dX3_dropScout_4 : decode cX3_dropScout 4 = .ok (.iload_n 1, 1) := by decide +kernel
theorem dX3_dropScout_5 : decode cX3_dropScout 5 = .ok (.aload_n 0, 1) := by decide +kernel
theorem dX3_dropScout_6 : decode cX3_dropScout 6 = .ok (.getfield 18, 3) := by decide +kernel
theorem dX3_dropScout_9 : decode cX3_dropScout 9 = .ok (.invokestatic 71, 3) := by decide +kernel
theorem dX3_dropScout_12 : decode cX3_dropScout 12 = .ok (.aload_n 0, 1) := by decide +kernel
theorem dX3_dropScout_13 : decode cX3_dropScout 13 = .ok (.getfield 25, 3) := by decide +kernel
theorem dX3_dropScout_16 : decode cX3_dropScout 16 = .ok (.iload_n 1, 1) := by decide +kernel
theorem dX3_dropScout_17 : decode cX3_dropScout 17 = .ok (.aload_n 0, 1) := by decide +kernel
theorem dX3_dropScout_18 : decode cX3_dropScout 18 = .ok (.getfield 18, 3) := by decide +kernel
theorem dX3_dropScout_21 : decode cX3_dropScout 21 = .ok (.invokestatic 71, 3) := by decide +kernel
theorem dX3_dropScout_24 : decode cX3_dropScout 24 = .ok (.aload_n 0, 1) := by decide +kernel
theorem dX3_dropScout_25 : decode cX3_dropScout 25 = .ok (.getfield 28, 3) := by decide +kernel
theorem dX3_dropScout_28 : decode cX3_dropScout 28 = .ok (.iload_n 1, 1) := by decide +kernel
theorem dX3_dropScout_29 : decode cX3_dropScout 29 = .ok (.aload_n 0, 1) := by decide +kernel
theorem dX3_dropScout_30 : decode cX3_dropScout 30 = .ok (.getfield 18, 3) := by decide +kernel
theorem dX3_dropScout_33 : decode cX3_dropScout 33 = .ok (.invokestatic 71, 3) := by decide +kernel
theorem dX3_dropScout_36 : decode cX3_dropScout 36 = .ok (.aload_n 0, 1) := by decide +kernel
theorem dX3_dropScout_37 : decode cX3_dropScout 37 = .ok (.dup, 1) := by decide +kernel
theorem dX3_dropScout_38 : decode cX3_dropScout 38 = .ok (.getfield 18, 3) := by decide +kernel
theorem dX3_dropScout_41 : decode cX3_dropScout 41 = .ok (.iconst 1, 1) := by decide +kernel
theorem dX3_dropScout_42 : decode cX3_dropScout 42 = .ok (.isub, 1) := by decide +kernel
theorem dX3_dropScout_43 : decode cX3_dropScout 43 = .ok (.putfield 18, 3) := by decide +kernel
theorem dX3_dropScout_46 : decode cX3_dropScout 46 = .ok (.return_, 1) := by decide +kernel
theorem dX3_putLight_0 : decode cX3_putLight 0 = .ok (.aload_n 0, 1) := by decide +kernel
theorem dX3_putLight_1 : decode cX3_putLight 1 = .ok (.getfield 34, 3) := by decide +kernel
theorem dX3_putLight_4 : decode cX3_putLight 4 = .ok (.aload_n 0, 1) := by decide +kernel
theorem dX3_putLight_5 : decode cX3_putLight 5 = .ok (.getfield 31, 3) := by decide +kernel
theorem dX3_putLight_8 : decode cX3_putLight 8 = .ok (.iload_n 1, 1) := by decide +kernel
theorem dX3_putLight_9 : decode cX3_putLight 9 = .ok (.iastore, 1) := by decide +kernel
theorem dX3_putLight_10 : decode cX3_putLight 10 = .ok (.aload_n 0, 1) := by decide +kernel
theorem dX3_putLight_11 : decode cX3_putLight 11 = .ok (.getfield 37, 3) := by decide +kernel
theorem dX3_putLight_14 : decode cX3_putLight 14 = .ok (.aload_n 0, 1) := by decide +kernel
theorem dX3_putLight_15 : decode cX3_putLight 15 = .ok (.getfield 31, 3) := by decide +kernel
theorem dX3_putLight_18 : decode cX3_putLight 18 = .ok (.iload_n 2, 1) := by decide +kernel
theorem dX3_putLight_19 : decode cX3_putLight 19 = .ok (.iastore, 1) := by decide +kernel
theorem dX3_putLight_20 : decode cX3_putLight 20 = .ok (.aload_n 0, 1) := by decide +kernel
theorem dX3_putLight_21 : decode cX3_putLight 21 = .ok (.getfield 40, 3) := by decide +kernel
theorem dX3_putLight_24 : decode cX3_putLight 24 = .ok (.aload_n 0, 1) := by decide +kernel
theorem dX3_putLight_25 : decode cX3_putLight 25 = .ok (.getfield 31, 3) := by decide +kernel
theorem dX3_putLight_28 : decode cX3_putLight 28 = .ok (.iload_n 3, 1) := by decide +kernel
theorem dX3_putLight_29 : decode cX3_putLight 29 = .ok (.iastore, 1) := by decide +kernel
theorem dX3_putLight_30 : decode cX3_putLight 30 = .ok (.aload_n 0, 1) := by decide +kernel
theorem dX3_putLight_31 : decode cX3_putLight 31 = .ok (.dup, 1) := by decide +kernel
theorem dX3_putLight_32 : decode cX3_putLight 32 = .ok (.getfield 31, 3) := by decide +kernel
theorem dX3_putLight_35 : decode cX3_putLight 35 = .ok (.iconst 1, 1) := by decide +kernel
theorem dX3_putLight_36 : decode cX3_putLight 36 = .ok (.iadd, 1) := by decide +kernel
theorem dX3_putLight_37 : decode cX3_putLight 37 = .ok (.putfield 31, 3) := by decide +kernel
theorem dX3_putLight_40 : decode cX3_putLight 40 = .ok (.return_, 1) := by decide +kernel
theorem dX3_dropLight_0 : decode cX3_dropLight 0 = .ok (.aload_n 0, 1) := by decide +kernel
theorem dX3_dropLight_1 : decode cX3_dropLight 1 = .ok (.getfield 34, 3) := by decide +kernel
theorem dX3_dropLight_4 : decode cX3_dropLight 4 = .ok (.iload_n 1, 1) := by decide +kernel
theorem dX3_dropLight_5 : decode cX3_dropLight 5 = .ok (.aload_n 0, 1) := by decide +kernel
theorem dX3_dropLight_6 : decode cX3_dropLight 6 = .ok (.getfield 31, 3) := by decide +kernel
theorem dX3_dropLight_9 : decode cX3_dropLight 9 = .ok (.invokestatic 71, 3) := by decide +kernel
theorem dX3_dropLight_12 : decode cX3_dropLight 12 = .ok (.aload_n 0, 1) := by decide +kernel
theorem dX3_dropLight_13 : decode cX3_dropLight 13 = .ok (.getfield 37, 3) := by decide +kernel
theorem dX3_dropLight_16 : decode cX3_dropLight 16 = .ok (.iload_n 1, 1) := by decide +kernel
theorem dX3_dropLight_17 : decode cX3_dropLight 17 = .ok (.aload_n 0, 1) := by decide +kernel
theorem dX3_dropLight_18 : decode cX3_dropLight 18 = .ok (.getfield 31, 3) := by decide +kernel
theorem dX3_dropLight_21 : decode cX3_dropLight 21 = .ok (.invokestatic 71, 3) := by decide +kernel
theorem dX3_dropLight_24 : decode cX3_dropLight 24 = .ok (.aload_n 0, 1) := by decide +kernel
theorem dX3_dropLight_25 : decode cX3_dropLight 25 = .ok (.getfield 40, 3) := by decide +kernel
theorem dX3_dropLight_28 : decode cX3_dropLight 28 = .ok (.iload_n 1, 1) := by decide +kernel
theorem dX3_dropLight_29 : decode cX3_dropLight 29 = .ok (.aload_n 0, 1) := by decide +kernel
theorem dX3_dropLight_30 : decode cX3_dropLight 30 = .ok (.getfield 31, 3) := by decide +kernel
theorem dX3_dropLight_33 : decode cX3_dropLight 33 = .ok (.invokestatic 71, 3) := by decide +kernel
theorem dX3_dropLight_36 : decode cX3_dropLight 36 = .ok (.aload_n 0, 1) := by decide +kernel
theorem dX3_dropLight_37 : decode cX3_dropLight 37 = .ok (.dup, 1) := by decide +kernel
theorem dX3_dropLight_38 : decode cX3_dropLight 38 = .ok (.getfield 31, 3) := by decide +kernel
theorem dX3_dropLight_41 : decode cX3_dropLight 41 = .ok (.iconst 1, 1) := by decide +kernel
theorem dX3_dropLight_42 : decode cX3_dropLight 42 = .ok (.isub, 1) := by decide +kernel
theorem dX3_dropLight_43 : decode cX3_dropLight 43 = .ok (.putfield 31, 3) := by decide +kernel
theorem dX3_dropLight_46 : decode cX3_dropLight 46 = .ok (.return_, 1) := by decide +kernel
theorem dX3_countBurning_0 : decode cX3_countBurning 0 = .ok (.iconst 0, 1) := by decide +kernel
theorem dX3_countBurning_1 : decode cX3_countBurning 1 = .ok (.istore_n 1, 1) := by decide +kernel
theorem dX3_countBurning_2 : decode cX3_countBurning 2 = .ok (.iconst 0, 1) := by decide +kernel
theorem dX3_countBurning_3 : decode cX3_countBurning 3 = .ok (.istore_n 2, 1) := by decide +kernel
theorem dX3_countBurning_4 : decode cX3_countBurning 4 = .ok (.iload_n 2, 1) := by decide +kernel
theorem dX3_countBurning_5 : decode cX3_countBurning 5 = .ok (.aload_n 0, 1) := by decide +kernel
theorem dX3_countBurning_6 : decode cX3_countBurning 6 = .ok (.getfield 31, 3) := by decide +kernel
theorem dX3_countBurning_9 : decode cX3_countBurning 9 = .ok (.if_icmp .ge 21, 3) := by decide +kernel
theorem dX3_countBurning_12 : decode cX3_countBurning 12 = .ok (.aload_n 0, 1) := by decide +kernel
theorem dX3_countBurning_13 : decode cX3_countBurning 13 = .ok (.getfield 40, 3) := by decide +kernel
theorem dX3_countBurning_16 : decode cX3_countBurning 16 = .ok (.iload_n 2, 1) := by decide +kernel
theorem dX3_countBurning_17 : decode cX3_countBurning 17 = .ok (.iaload, 1) := by decide +kernel
theorem dX3_countBurning_18 : decode cX3_countBurning 18 = .ok (.ifCond .le 6, 3) := by decide +kernel
theorem dX3_countBurning_21 : decode cX3_countBurning 21 = .ok (.iinc 1 1, 3) := by decide +kernel
theorem dX3_countBurning_24 : decode cX3_countBurning 24 = .ok (.iinc 2 1, 3) := by decide +kernel
theorem dX3_countBurning_27 : decode cX3_countBurning 27 = .ok (.goto (-23), 3) := by decide +kernel
theorem dX3_countBurning_30 : decode cX3_countBurning 30 = .ok (.iload_n 1, 1) := by decide +kernel
theorem dX3_countBurning_31 : decode cX3_countBurning 31 = .ok (.ireturn, 1) := by decide +kernel
theorem dX3_burn_0 : decode cX3_burn 0 = .ok (.aload_n 0, 1) := by decide +kernel
theorem dX3_burn_1 : decode cX3_burn 1 = .ok (.invokevirtual 75, 3) := by decide +kernel
theorem dX3_burn_4 : decode cX3_burn 4 = .ok (.istore_n 1, 1) := by decide +kernel
theorem dX3_burn_5 : decode cX3_burn 5 = .ok (.iconst 0, 1) := by decide +kernel
theorem dX3_burn_6 : decode cX3_burn 6 = .ok (.istore_n 2, 1) := by decide +kernel
theorem dX3_burn_7 : decode cX3_burn 7 = .ok (.iload_n 2, 1) := by decide +kernel
theorem dX3_burn_8 : decode cX3_burn 8 = .ok (.aload_n 0, 1) := by decide +kernel
theorem dX3_burn_9 : decode cX3_burn 9 = .ok (.getfield 31, 3) := by decide +kernel
theorem dX3_burn_12 : decode cX3_burn 12 = .ok (.if_icmp .ge 28, 3) := by decide +kernel
theorem dX3_burn_15 : decode cX3_burn 15 = .ok (.aload_n 0, 1) := by decide +kernel
theorem dX3_burn_16 : decode cX3_burn 16 = .ok (.getfield 40, 3) := by decide +kernel
theorem dX3_burn_19 : decode cX3_burn 19 = .ok (.iload_n 2, 1) := by decide +kernel
theorem dX3_burn_20 : decode cX3_burn 20 = .ok (.iaload, 1) := by decide +kernel
theorem dX3_burn_21 : decode cX3_burn 21 = .ok (.ifCond .le 13, 3) := by decide +kernel
theorem dX3_burn_24 : decode cX3_burn 24 = .ok (.aload_n 0, 1) := by decide +kernel
theorem dX3_burn_25 : decode cX3_burn 25 = .ok (.getfield 40, 3) := by decide +kernel
theorem dX3_burn_28 : decode cX3_burn 28 = .ok (.iload_n 2, 1) := by decide +kernel
theorem dX3_burn_29 : decode cX3_burn 29 = .ok (.dup2, 1) := by decide +kernel
theorem dX3_burn_30 : decode cX3_burn 30 = .ok (.iaload, 1) := by decide +kernel
theorem dX3_burn_31 : decode cX3_burn 31 = .ok (.iconst 1, 1) := by decide +kernel
theorem dX3_burn_32 : decode cX3_burn 32 = .ok (.isub, 1) := by decide +kernel
theorem dX3_burn_33 : decode cX3_burn 33 = .ok (.iastore, 1) := by decide +kernel
theorem dX3_burn_34 : decode cX3_burn 34 = .ok (.iinc 2 1, 3) := by decide +kernel
theorem dX3_burn_37 : decode cX3_burn 37 = .ok (.goto (-30), 3) := by decide +kernel
theorem dX3_burn_40 : decode cX3_burn 40 = .ok (.iload_n 1, 1) := by decide +kernel
theorem dX3_burn_41 : decode cX3_burn 41 = .ok (.aload_n 0, 1) := by decide +kernel
theorem dX3_burn_42 : decode cX3_burn 42 = .ok (.invokevirtual 75, 3) := by decide +kernel
theorem dX3_burn_45 : decode cX3_burn 45 = .ok (.isub, 1) := by decide +kernel
theorem dX3_burn_46 : decode cX3_burn 46 = .ok (.ireturn, 1) := by decide +kernel
theorem dX3_isLit_0 : decode cX3_isLit 0 = .ok (.iconst 0, 1) := by decide +kernel
theorem dX3_isLit_1 : decode cX3_isLit 1 = .ok (.istore_n 2, 1) := by decide +kernel
theorem dX3_isLit_2 : decode cX3_isLit 2 = .ok (.iload_n 2, 1) := by decide +kernel
theorem dX3_isLit_3 : decode cX3_isLit 3 = .ok (.aload_n 0, 1) := by decide +kernel
theorem dX3_isLit_4 : decode cX3_isLit 4 = .ok (.getfield 31, 3) := by decide +kernel
theorem dX3_isLit_7 : decode cX3_isLit 7 = .ok (.if_icmp .ge 39, 3) := by decide +kernel
theorem dX3_isLit_10 : decode cX3_isLit 10 = .ok (.aload_n 0, 1) := by decide +kernel
theorem dX3_isLit_11 : decode cX3_isLit 11 = .ok (.getfield 40, 3) := by decide +kernel
theorem dX3_isLit_14 : decode cX3_isLit 14 = .ok (.iload_n 2, 1) := by decide +kernel
theorem dX3_isLit_15 : decode cX3_isLit 15 = .ok (.iaload, 1) := by decide +kernel
theorem dX3_isLit_16 : decode cX3_isLit 16 = .ok (.ifCond .le 24, 3) := by decide +kernel
theorem dX3_isLit_19 : decode cX3_isLit 19 = .ok (.aload_n 0, 1) := by decide +kernel
theorem dX3_isLit_20 : decode cX3_isLit 20 = .ok (.getfield 34, 3) := by decide +kernel
theorem dX3_isLit_23 : decode cX3_isLit 23 = .ok (.iload_n 2, 1) := by decide +kernel
theorem dX3_isLit_24 : decode cX3_isLit 24 = .ok (.iaload, 1) := by decide +kernel
theorem dX3_isLit_25 : decode cX3_isLit 25 = .ok (.iload_n 1, 1) := by decide +kernel
theorem dX3_isLit_26 : decode cX3_isLit 26 = .ok (.invokestatic 79, 3) := by decide +kernel
theorem dX3_isLit_29 : decode cX3_isLit 29 = .ok (.aload_n 0, 1) := by decide +kernel
theorem dX3_isLit_30 : decode cX3_isLit 30 = .ok (.getfield 37, 3) := by decide +kernel
theorem dX3_isLit_33 : decode cX3_isLit 33 = .ok (.iload_n 2, 1) := by decide +kernel
theorem dX3_isLit_34 : decode cX3_isLit 34 = .ok (.iaload, 1) := by decide +kernel
theorem dX3_isLit_35 : decode cX3_isLit 35 = .ok (.if_icmp .gt 5, 3) := by decide +kernel
theorem dX3_isLit_38 : decode cX3_isLit 38 = .ok (.iconst 1, 1) := by decide +kernel
theorem dX3_isLit_39 : decode cX3_isLit 39 = .ok (.ireturn, 1) := by decide +kernel
theorem dX3_isLit_40 : decode cX3_isLit 40 = .ok (.iinc 2 1, 3) := by decide +kernel
theorem dX3_isLit_43 : decode cX3_isLit 43 = .ok (.goto (-41), 3) := by decide +kernel
theorem dX3_isLit_46 : decode cX3_isLit 46 = .ok (.iconst 0, 1) := by decide +kernel
theorem dX3_isLit_47 : decode cX3_isLit 47 = .ok (.ireturn, 1) := by decide +kernel
theorem dX3_fade_0 : decode cX3_fade 0 = .ok (.iconst 0, 1) := by decide +kernel
theorem dX3_fade_1 : decode cX3_fade 1 = .ok (.istore_n 1, 1) := by decide +kernel
theorem dX3_fade_2 : decode cX3_fade 2 = .ok (.iload_n 1, 1) := by decide +kernel
theorem dX3_fade_3 : decode cX3_fade 3 = .ok (.iconst 2, 1) := by decide +kernel
theorem dX3_fade_4 : decode cX3_fade 4 = .ok (.if_icmp .ge 18, 3) := by decide +kernel
theorem dX3_fade_7 : decode cX3_fade 7 = .ok (.aload_n 0, 1) := by decide +kernel
theorem dX3_fade_8 : decode cX3_fade 8 = .ok (.getfield 52, 3) := by decide +kernel
theorem dX3_fade_11 : decode cX3_fade 11 = .ok (.iload_n 1, 1) := by decide +kernel
theorem dX3_fade_12 : decode cX3_fade 12 = .ok (.aaload, 1) := by decide +kernel
theorem dX3_fade_13 : decode cX3_fade 13 = .ok (.invokevirtual 83, 3) := by decide +kernel
theorem dX3_fade_16 : decode cX3_fade 16 = .ok (.iinc 1 1, 3) := by decide +kernel
theorem dX3_fade_19 : decode cX3_fade 19 = .ok (.goto (-17), 3) := by decide +kernel
theorem dX3_fade_22 : decode cX3_fade 22 = .ok (.return_, 1) := by decide +kernel
theorem dX3_changeFogTime_0 : decode cX3_changeFogTime 0 = .ok (.aload_n 0, 1) := by decide +kernel
theorem dX3_changeFogTime_1 : decode cX3_changeFogTime 1 = .ok (.iload_n 1, 1) := by decide +kernel
theorem dX3_changeFogTime_2 : decode cX3_changeFogTime 2 = .ok (.putfield 43, 3) := by decide +kernel
theorem dX3_changeFogTime_5 : decode cX3_changeFogTime 5 = .ok (.iconst 0, 1) := by decide +kernel
theorem dX3_changeFogTime_6 : decode cX3_changeFogTime 6 = .ok (.istore_n 2, 1) := by decide +kernel
theorem dX3_changeFogTime_7 : decode cX3_changeFogTime 7 = .ok (.iload_n 2, 1) := by decide +kernel
theorem dX3_changeFogTime_8 : decode cX3_changeFogTime 8 = .ok (.iconst 2, 1) := by decide +kernel
theorem dX3_changeFogTime_9 : decode cX3_changeFogTime 9 = .ok (.if_icmp .ge 19, 3) := by decide +kernel
theorem dX3_changeFogTime_12 : decode cX3_changeFogTime 12 = .ok (.aload_n 0, 1) := by decide +kernel
theorem dX3_changeFogTime_13 : decode cX3_changeFogTime 13 = .ok (.getfield 52, 3) := by decide +kernel
theorem dX3_changeFogTime_16 : decode cX3_changeFogTime 16 = .ok (.iload_n 2, 1) := by decide +kernel
theorem dX3_changeFogTime_17 : decode cX3_changeFogTime 17 = .ok (.aaload, 1) := by decide +kernel
theorem dX3_changeFogTime_18 : decode cX3_changeFogTime 18 = .ok (.iload_n 1, 1) := by decide +kernel
theorem dX3_changeFogTime_19 : decode cX3_changeFogTime 19 = .ok (.invokevirtual 86, 3) := by decide +kernel
theorem dX3_changeFogTime_22 : decode cX3_changeFogTime 22 = .ok (.iinc 2 1, 3) := by decide +kernel
theorem dX3_changeFogTime_25 : decode cX3_changeFogTime 25 = .ok (.goto (-18), 3) := by decide +kernel
theorem dX3_changeFogTime_28 : decode cX3_changeFogTime 28 = .ok (.return_, 1) := by decide +kernel
theorem dX3_remember_0 : decode cX3_remember 0 = .ok (.iconst 0, 1) := by decide +kernel
theorem dX3_remember_1 : decode cX3_remember 1 = .ok (.istore_n 2, 1) := by decide +kernel
theorem dX3_remember_2 : decode cX3_remember 2 = .ok (.iload_n 2, 1) := by decide +kernel
theorem dX3_remember_3 : decode cX3_remember 3 = .ok (.iconst 2, 1) := by decide +kernel
theorem dX3_remember_4 : decode cX3_remember 4 = .ok (.if_icmp .ge 48, 3) := by decide +kernel
theorem dX3_remember_7 : decode cX3_remember 7 = .ok (.aload_n 0, 1) := by decide +kernel
theorem dX3_remember_8 : decode cX3_remember 8 = .ok (.iload_n 2, 1) := by decide +kernel
theorem dX3_remember_9 : decode cX3_remember 9 = .ok (.invokevirtual 90, 3) := by decide +kernel
theorem dX3_remember_12 : decode cX3_remember 12 = .ok (.istore_n 3, 1) := by decide +kernel
theorem dX3_remember_13 : decode cX3_remember 13 = .ok (.iconst 0, 1) := by decide +kernel
theorem dX3_remember_14 : decode cX3_remember 14 = .ok (.istore 4, 2) := by decide +kernel
theorem dX3_remember_16 : decode cX3_remember 16 = .ok (.iload 4, 2) := by decide +kernel
theorem dX3_remember_18 : decode cX3_remember 18 = .ok (.bipush 120, 2) := by decide +kernel
theorem dX3_remember_20 : decode cX3_remember 20 = .ok (.if_icmp .ge 26, 3) := by decide +kernel
theorem dX3_remember_23 : decode cX3_remember 23 = .ok (.aload_n 1, 1) := by decide +kernel
theorem dX3_remember_24 : decode cX3_remember 24 = .ok (.iload 4, 2) := by decide +kernel
theorem dX3_remember_26 : decode cX3_remember 26 = .ok (.iload_n 3, 1) := by decide +kernel
theorem dX3_remember_27 : decode cX3_remember 27 = .ok (.invokevirtual 93, 3) := by decide +kernel
theorem dX3_remember_30 : decode cX3_remember 30 = .ok (.ifCond .eq 10, 3) := by decide +kernel
theorem dX3_remember_33 : decode cX3_remember 33 = .ok (.aload_n 0, 1) := by decide +kernel
theorem dX3_remember_34 : decode cX3_remember 34 = .ok (.iload_n 2, 1) := by decide +kernel
theorem dX3_remember_35 : decode cX3_remember 35 = .ok (.iload 4, 2) := by decide +kernel
theorem dX3_remember_37 : decode cX3_remember 37 = .ok (.invokevirtual 99, 3) := by decide +kernel
theorem dX3_remember_40 : decode cX3_remember 40 = .ok (.iinc 4 1, 3) := by decide +kernel
theorem dX3_remember_43 : decode cX3_remember 43 = .ok (.goto (-27), 3) := by decide +kernel
theorem dX3_remember_46 : decode cX3_remember 46 = .ok (.iinc 2 1, 3) := by decide +kernel
theorem dX3_remember_49 : decode cX3_remember 49 = .ok (.goto (-47), 3) := by decide +kernel
theorem dX3_remember_52 : decode cX3_remember 52 = .ok (.return_, 1) := by decide +kernel
theorem dX3_rememberCell_0 : decode cX3_rememberCell 0 = .ok (.aload_n 0, 1) := by decide +kernel
theorem dX3_rememberCell_1 : decode cX3_rememberCell 1 = .ok (.getfield 52, 3) := by decide +kernel
theorem dX3_rememberCell_4 : decode cX3_rememberCell 4 = .ok (.iload_n 1, 1) := by decide +kernel
theorem dX3_rememberCell_5 : decode cX3_rememberCell 5 = .ok (.aaload, 1) := by decide +kernel
theorem dX3_rememberCell_6 : decode cX3_rememberCell 6 = .ok (.astore_n 3, 1) := by decide +kernel
theorem dX3_rememberCell_7 : decode cX3_rememberCell 7 = .ok (.aload_n 0, 1) := by decide +kernel
theorem dX3_rememberCell_8 : decode cX3_rememberCell 8 = .ok (.iload_n 2, 1) := by decide +kernel
theorem dX3_rememberCell_9 : decode cX3_rememberCell 9 = .ok (.invokevirtual 64, 3) := by decide +kernel
theorem dX3_rememberCell_12 : decode cX3_rememberCell 12 = .ok (.istore 4, 2) := by decide +kernel
theorem dX3_rememberCell_14 : decode cX3_rememberCell 14 = .ok (.aload_n 3, 1) := by decide +kernel
theorem dX3_rememberCell_15 : decode cX3_rememberCell 15 = .ok (.getfield 103, 3) := by decide +kernel
theorem dX3_rememberCell_18 : decode cX3_rememberCell 18 = .ok (.iload_n 2, 1) := by decide +kernel
theorem dX3_rememberCell_19 : decode cX3_rememberCell 19 = .ok (.aload_n 0, 1) := by decide +kernel
theorem dX3_rememberCell_20 : decode cX3_rememberCell 20 = .ok (.getfield 43, 3) := by decide +kernel
theorem dX3_rememberCell_23 : decode cX3_rememberCell 23 = .ok (.iastore, 1) := by decide +kernel
theorem dX3_rememberCell_24 : decode cX3_rememberCell 24 = .ok (.aload_n 3, 1) := by decide +kernel
theorem dX3_rememberCell_25 : decode cX3_rememberCell 25 = .ok (.getfield 106, 3) := by decide +kernel
theorem dX3_rememberCell_28 : decode cX3_rememberCell 28 = .ok (.iload_n 2, 1) := by decide +kernel
theorem dX3_rememberCell_29 : decode cX3_rememberCell 29 = .ok (.aload_n 0, 1) := by decide +kernel
theorem dX3_rememberCell_30 : decode cX3_rememberCell 30 = .ok (.getfield 9, 3) := by decide +kernel
theorem dX3_rememberCell_33 : decode cX3_rememberCell 33 = .ok (.iload_n 2, 1) := by decide +kernel
theorem dX3_rememberCell_34 : decode cX3_rememberCell 34 = .ok (.iaload, 1) := by decide +kernel
theorem dX3_rememberCell_35 : decode cX3_rememberCell 35 = .ok (.iastore, 1) := by decide +kernel
theorem dX3_rememberCell_36 : decode cX3_rememberCell 36 = .ok (.aload_n 3, 1) := by decide +kernel
theorem dX3_rememberCell_37 : decode cX3_rememberCell 37 = .ok (.getfield 107, 3) := by decide +kernel
theorem dX3_rememberCell_40 : decode cX3_rememberCell 40 = .ok (.iload_n 2, 1) := by decide +kernel
theorem dX3_rememberCell_41 : decode cX3_rememberCell 41 = .ok (.aload_n 0, 1) := by decide +kernel
theorem dX3_rememberCell_42 : decode cX3_rememberCell 42 = .ok (.getfield 15, 3) := by decide +kernel
theorem dX3_rememberCell_45 : decode cX3_rememberCell 45 = .ok (.iload_n 2, 1) := by decide +kernel
theorem dX3_rememberCell_46 : decode cX3_rememberCell 46 = .ok (.iaload, 1) := by decide +kernel
theorem dX3_rememberCell_47 : decode cX3_rememberCell 47 = .ok (.iastore, 1) := by decide +kernel
theorem dX3_rememberCell_48 : decode cX3_rememberCell 48 = .ok (.aload_n 3, 1) := by decide +kernel
theorem dX3_rememberCell_49 : decode cX3_rememberCell 49 = .ok (.getfield 108, 3) := by decide +kernel
theorem dX3_rememberCell_52 : decode cX3_rememberCell 52 = .ok (.iload_n 2, 1) := by decide +kernel
theorem dX3_rememberCell_53 : decode cX3_rememberCell 53 = .ok (.iload 4, 2) := by decide +kernel
theorem dX3_rememberCell_55 : decode cX3_rememberCell 55 = .ok (.bipush (-19), 2) := by decide +kernel
theorem dX3_rememberCell_57 : decode cX3_rememberCell 57 = .ok (.if_icmp .eq 18, 3) := by decide +kernel
theorem dX3_rememberCell_60 : decode cX3_rememberCell 60 = .ok (.aload_n 0, 1) := by decide +kernel
theorem dX3_rememberCell_61 : decode cX3_rememberCell 61 = .ok (.getfield 22, 3) := by decide +kernel
theorem dX3_rememberCell_64 : decode cX3_rememberCell 64 = .ok (.iload 4, 2) := by decide +kernel
theorem dX3_rememberCell_66 : decode cX3_rememberCell 66 = .ok (.iaload, 1) := by decide +kernel
theorem dX3_rememberCell_67 : decode cX3_rememberCell 67 = .ok (.iload_n 1, 1) := by decide +kernel
theorem dX3_rememberCell_68 : decode cX3_rememberCell 68 = .ok (.if_icmp .eq 7, 3) := by decide +kernel
theorem dX3_rememberCell_71 : decode cX3_rememberCell 71 = .ok (.iconst 1, 1) := by decide +kernel
theorem dX3_rememberCell_72 : decode cX3_rememberCell 72 = .ok (.goto 4, 3) := by decide +kernel
theorem dX3_rememberCell_75 : decode cX3_rememberCell 75 = .ok (.iconst 0, 1) := by decide +kernel
theorem dX3_rememberCell_76 : decode cX3_rememberCell 76 = .ok (.iastore, 1) := by decide +kernel
theorem dX3_rememberCell_77 : decode cX3_rememberCell 77 = .ok (.return_, 1) := by decide +kernel
theorem dX4_init_0 : decode cX4_init 0 = .ok (.aload_n 0, 1) := by decide +kernel
theorem dX4_init_1 : decode cX4_init 1 = .ok (.invokespecial 3, 3) := by decide +kernel
theorem dX4_init_4 : decode cX4_init 4 = .ok (.aload_n 0, 1) := by decide +kernel
theorem dX4_init_5 : decode cX4_init 5 = .ok (.bipush 120, 2) := by decide +kernel
theorem dX4_init_7 : decode cX4_init 7 = .ok (.newarray .int, 2) := by decide +kernel
theorem dX4_init_9 : decode cX4_init 9 = .ok (.putfield 9, 3) := by decide +kernel
theorem dX4_init_12 : decode cX4_init 12 = .ok (.aload_n 0, 1) := by decide +kernel
theorem dX4_init_13 : decode cX4_init 13 = .ok (.iconst 0, 1) := by decide +kernel
theorem dX4_init_14 : decode cX4_init 14 = .ok (.putfield 15, 3) := by decide +kernel
theorem dX4_init_17 : decode cX4_init 17 = .ok (.aload_n 0, 1) := by decide +kernel
theorem dX4_init_18 : decode cX4_init 18 = .ok (.bipush 120, 2) := by decide +kernel
theorem dX4_init_20 : decode cX4_init 20 = .ok (.newarray .int, 2) := by decide +kernel
theorem dX4_init_22 : decode cX4_init 22 = .ok (.putfield 19, 3) := by decide +kernel
theorem dX4_init_25 : decode cX4_init 25 = .ok (.return_, 1) := by decide +kernel
theorem dX4_put_0 : decode cX4_put 0 = .ok (.aload_n 0, 1) := by decide +kernel
theorem dX4_put_1 : decode cX4_put 1 = .ok (.getfield 9, 3) := by decide +kernel
theorem dX4_put_4 : decode cX4_put 4 = .ok (.aload_n 0, 1) := by decide +kernel
theorem dX4_put_5 : decode cX4_put 5 = .ok (.getfield 15, 3) := by decide +kernel
theorem dX4_put_8 : decode cX4_put 8 = .ok (.iload_n 1, 1) := by decide +kernel
theorem dX4_put_9 : decode cX4_put 9 = .ok (.iastore, 1) := by decide +kernel
theorem dX4_put_10 : decode cX4_put 10 = .ok (.aload_n 0, 1) := by decide +kernel
theorem dX4_put_11 : decode cX4_put 11 = .ok (.dup, 1) := by decide +kernel
theorem dX4_put_12 : decode cX4_put 12 = .ok (.getfield 15, 3) := by decide +kernel
theorem dX4_put_15 : decode cX4_put 15 = .ok (.iconst 1, 1) := by decide +kernel
theorem dX4_put_16 : decode cX4_put 16 = .ok (.iadd, 1) := by decide +kernel
theorem dX4_put_17 : decode cX4_put 17 = .ok (.putfield 15, 3) := by decide +kernel
theorem dX4_put_20 : decode cX4_put 20 = .ok (.return_, 1) := by decide +kernel
theorem dX4_read_0 : decode cX4_read 0 = .ok (.aload_n 0, 1) := by decide +kernel
theorem dX4_read_1 : decode cX4_read 1 = .ok (.getfield 19, 3) := by decide +kernel
theorem dX4_read_4 : decode cX4_read 4 = .ok (.iconst (-1), 1) := by decide +kernel
theorem dX4_read_5 : decode cX4_read 5 = .ok (.invokestatic 22, 3) := by decide +kernel
theorem dX4_read_8 : decode cX4_read 8 = .ok (.iconst 0, 1) := by decide +kernel
theorem dX4_read_9 : decode cX4_read 9 = .ok (.istore_n 2, 1) := by decide +kernel
theorem dX4_read_10 : decode cX4_read 10 = .ok (.iconst 0, 1) := by decide +kernel
theorem dX4_read_11 : decode cX4_read 11 = .ok (.istore_n 3, 1) := by decide +kernel
theorem dX4_read_12 : decode cX4_read 12 = .ok (.iconst 0, 1) := by decide +kernel
theorem dX4_read_13 : decode cX4_read 13 = .ok (.istore 4, 2) := by decide +kernel
theorem dX4_read_15 : decode cX4_read 15 = .ok (.iload 4, 2) := by decide +kernel
theorem dX4_read_17 : decode cX4_read 17 = .ok (.aload_n 0, 1) := by decide +kernel
theorem dX4_read_18 : decode cX4_read 18 = .ok (.getfield 15, 3) := by decide +kernel
theorem dX4_read_21 : decode cX4_read 21 = .ok (.if_icmp .ge 104, 3) := by decide +kernel
theorem dX4_read_24 : decode cX4_read 24 = .ok (.aload_n 0, 1) := by decide +kernel
theorem dX4_read_25 : decode cX4_read 25 = .ok (.getfield 9, 3) := by decide +kernel
theorem dX4_read_28 : decode cX4_read 28 = .ok (.iload 4, 2) := by decide +kernel
theorem dX4_read_30 : decode cX4_read 30 = .ok (.iaload, 1) := by decide +kernel
theorem dX4_read_31 : decode cX4_read 31 = .ok (.istore 5, 2) := by decide +kernel
theorem dX4_read_33 : decode cX4_read 33 = .ok (.iload 5, 2) := by decide +kernel
theorem dX4_read_35 : decode cX4_read 35 = .ok (.bipush 32, 2) := by decide +kernel
theorem dX4_read_37 : decode cX4_read 37 = .ok (.if_icmp .ne 6, 3) := by decide +kernel
theorem dX4_read_40 : decode cX4_read 40 = .ok (.goto 79, 3) := by decide +kernel
theorem dX4_read_43 : decode cX4_read 43 = .ok (.iload_n 3, 1) := by decide +kernel
theorem dX4_read_44 : decode cX4_read 44 = .ok (.bipush 10, 2) := by decide +kernel
theorem dX4_read_46 : decode cX4_read 46 = .ok (.if_icmp .lt 10, 3) := by decide +kernel
theorem dX4_read_49 : decode cX4_read 49 = .ok (.sipush (-1000), 3) := by decide +kernel
theorem dX4_read_52 : decode cX4_read 52 = .ok (.iload 4, 2) := by decide +kernel
theorem dX4_read_54 : decode cX4_read 54 = .ok (.isub, 1) := by decide +kernel
theorem dX4_read_55 : decode cX4_read 55 = .ok (.ireturn, 1) := by decide +kernel
theorem dX4_read_56 : decode cX4_read 56 = .ok (.iload 5, 2) := by decide +kernel
theorem dX4_read_58 : decode cX4_read 58 = .ok (.bipush 59, 2) := by decide +kernel
theorem dX4_read_60 : decode cX4_read 60 = .ok (.if_icmp .ne 11, 3) := by decide +kernel
theorem dX4_read_63 : decode cX4_read 63 = .ok (.iinc 3 1, 3) := by decide +kernel
theorem dX4_read_66 : decode cX4_read 66 = .ok (.iconst 0, 1) := by decide +kernel
theorem dX4_read_67 : decode cX4_read 67 = .ok (.istore_n 2, 1) := by decide +kernel
theorem dX4_read_68 : decode cX4_read 68 = .ok (.goto 51, 3) := by decide +kernel
theorem dX4_read_71 : decode cX4_read 71 = .ok (.aload_n 1, 1) := by decide +kernel
theorem dX4_read_72 : decode cX4_read 72 = .ok (.iload 5, 2) := by decide +kernel
theorem dX4_read_74 : decode cX4_read 74 = .ok (.iload_n 2, 1) := by decide +kernel
theorem dX4_read_75 : decode cX4_read 75 = .ok (.iload_n 3, 1) := by decide +kernel
theorem dX4_read_76 : decode cX4_read 76 = .ok (.invokestatic 28, 3) := by decide +kernel
theorem dX4_read_79 : decode cX4_read 79 = .ok (.ifCond .ne 10, 3) := by decide +kernel
theorem dX4_read_82 : decode cX4_read 82 = .ok (.sipush (-1000), 3) := by decide +kernel
theorem dX4_read_85 : decode cX4_read 85 = .ok (.iload 4, 2) := by decide +kernel
theorem dX4_read_87 : decode cX4_read 87 = .ok (.isub, 1) := by decide +kernel
theorem dX4_read_88 : decode cX4_read 88 = .ok (.ireturn, 1) := by decide +kernel
theorem dX4_read_89 : decode cX4_read 89 = .ok (.aload_n 0, 1) := by decide +kernel
theorem dX4_read_90 : decode cX4_read 90 = .ok (.getfield 19, 3) := by decide +kernel
theorem dX4_read_93 : decode cX4_read 93 = .ok (.iload_n 2, 1) := by decide +kernel
theorem dX4_read_94 : decode cX4_read 94 = .ok (.iload_n 3, 1) := by decide +kernel
theorem dX4_read_95 : decode cX4_read 95 = .ok (.invokestatic 32, 3) := by decide +kernel
theorem dX4_read_98 : decode cX4_read 98 = .ok (.iload 5, 2) := by decide +kernel
theorem dX4_read_100 : decode cX4_read 100 = .ok (.bipush 35, 2) := by decide +kernel
theorem dX4_read_102 : decode cX4_read 102 = .ok (.if_icmp .ne 8, 3) := by decide +kernel
theorem dX4_read_105 : decode cX4_read 105 = .ok (.bipush 10, 2) := by decide +kernel
theorem dX4_read_107 : decode cX4_read 107 = .ok (.goto 8, 3) := by decide +kernel
theorem dX4_read_110 : decode cX4_read 110 = .ok (.iload 5, 2) := by decide +kernel
theorem dX4_read_112 : decode cX4_read 112 = .ok (.bipush 48, 2) := by decide +kernel
theorem dX4_read_114 : decode cX4_read 114 = .ok (.isub, 1) := by decide +kernel
theorem dX4_read_115 : decode cX4_read 115 = .ok (.iastore, 1) := by decide +kernel
theorem dX4_read_116 : decode cX4_read 116 = .ok (.iinc 2 1, 3) := by decide +kernel
theorem dX4_read_119 : decode cX4_read 119 = .ok (.iinc 4 1, 3) := by decide +kernel
theorem dX4_read_122 : decode cX4_read 122 = .ok (.goto (-107), 3) := by decide +kernel
theorem dX4_read_125 : decode cX4_read 125 = .ok (.iload_n 2, 1) := by decide +kernel
theorem dX4_read_126 : decode cX4_read 126 = .ok (.ifCond .le 14, 3) := by decide +kernel
theorem dX4_read_129 : decode cX4_read 129 = .ok (.sipush (-1000), 3) := by decide +kernel
theorem dX4_read_132 : decode cX4_read 132 = .ok (.aload_n 0, 1) := by decide +kernel
theorem dX4_read_133 : decode cX4_read 133 = .ok (.getfield 15, 3) := by decide +kernel
theorem dX4_read_136 : decode cX4_read 136 = .ok (.isub, 1) := by decide +kernel
theorem dX4_read_137 : decode cX4_read 137 = .ok (.goto 4, 3) := by decide +kernel
theorem dX4_read_140 : decode cX4_read 140 = .ok (.iload_n 3, 1) := by decide +kernel
theorem dX4_read_141 : decode cX4_read 141 = .ok (.ireturn, 1) := by decide +kernel
theorem dX4_isAllowed_0 : decode cX4_isAllowed 0 = .ok (.iload_n 2, 1) := by decide +kernel
theorem dX4_isAllowed_1 : decode cX4_isAllowed 1 = .ok (.bipush 12, 2) := by decide +kernel
theorem dX4_isAllowed_3 : decode cX4_isAllowed 3 = .ok (.if_icmp .lt 5, 3) := by decide +kernel
theorem dX4_isAllowed_6 : decode cX4_isAllowed 6 = .ok (.iconst 0, 1) := by decide +kernel
theorem dX4_isAllowed_7 : decode cX4_isAllowed 7 = .ok (.ireturn, 1) := by decide +kernel
theorem dX4_isAllowed_8 : decode cX4_isAllowed 8 = .ok (.iload_n 1, 1) := by decide +kernel
theorem dX4_isAllowed_9 : decode cX4_isAllowed 9 = .ok (.bipush 35, 2) := by decide +kernel
theorem dX4_isAllowed_11 : decode cX4_isAllowed 11 = .ok (.if_icmp .ne 23, 3) := by decide +kernel
theorem dX4_isAllowed_14 : decode cX4_isAllowed 14 = .ok (.aload_n 0, 1) := by decide +kernel
theorem dX4_isAllowed_15 : decode cX4_isAllowed 15 = .ok (.iload_n 2, 1) := by decide +kernel
theorem dX4_isAllowed_16 : decode cX4_isAllowed 16 = .ok (.iload_n 3, 1) := by decide +kernel
theorem dX4_isAllowed_17 : decode cX4_isAllowed 17 = .ok (.invokestatic 32, 3) := by decide +kernel
theorem dX4_isAllowed_20 : decode cX4_isAllowed 20 = .ok (.invokevirtual 36, 3) := by decide +kernel
theorem dX4_isAllowed_23 : decode cX4_isAllowed 23 = .ok (.bipush (-19), 2) := by decide +kernel
theorem dX4_isAllowed_25 : decode cX4_isAllowed 25 = .ok (.if_icmp .ne 7, 3) := by decide +kernel
theorem dX4_isAllowed_28 : decode cX4_isAllowed 28 = .ok (.iconst 1, 1) := by decide +kernel
theorem dX4_isAllowed_29 : decode cX4_isAllowed 29 = .ok (.goto 4, 3) := by decide +kernel
theorem dX4_isAllowed_32 : decode cX4_isAllowed 32 = .ok (.iconst 0, 1) := by decide +kernel
theorem dX4_isAllowed_33 : decode cX4_isAllowed 33 = .ok (.ireturn, 1) := by decide +kernel
theorem dX4_isAllowed_34 : decode cX4_isAllowed 34 = .ok (.iload_n 1, 1) := by decide +kernel
theorem dX4_isAllowed_35 : decode cX4_isAllowed 35 = .ok (.bipush 48, 2) := by decide +kernel
theorem dX4_isAllowed_37 : decode cX4_isAllowed 37 = .ok (.bipush 57, 2) := by decide +kernel
theorem dX4_isAllowed_39 : decode cX4_isAllowed 39 = .ok (.invokestatic 42, 3) := by decide +kernel
theorem dX4_isAllowed_42 : decode cX4_isAllowed 42 = .ok (.ireturn, 1) := by decide +kernel
theorem dX4_tellTo_0 : decode cX4_tellTo 0 = .ok (.iconst 0, 1) := by decide +kernel
theorem dX4_tellTo_1 : decode cX4_tellTo 1 = .ok (.istore_n 2, 1) := by decide +kernel
theorem dX4_tellTo_2 : decode cX4_tellTo 2 = .ok (.iload_n 2, 1) := by decide +kernel
theorem dX4_tellTo_3 : decode cX4_tellTo 3 = .ok (.bipush 120, 2) := by decide +kernel
theorem dX4_tellTo_5 : decode cX4_tellTo 5 = .ok (.if_icmp .ge 59, 3) := by decide +kernel
theorem dX4_tellTo_8 : decode cX4_tellTo 8 = .ok (.aload_n 0, 1) := by decide +kernel
theorem dX4_tellTo_9 : decode cX4_tellTo 9 = .ok (.getfield 19, 3) := by decide +kernel
theorem dX4_tellTo_12 : decode cX4_tellTo 12 = .ok (.iload_n 2, 1) := by decide +kernel
theorem dX4_tellTo_13 : decode cX4_tellTo 13 = .ok (.iaload, 1) := by decide +kernel
theorem dX4_tellTo_14 : decode cX4_tellTo 14 = .ok (.bipush 10, 2) := by decide +kernel
theorem dX4_tellTo_16 : decode cX4_tellTo 16 = .ok (.if_icmp .ne 13, 3) := by decide +kernel
theorem dX4_tellTo_19 : decode cX4_tellTo 19 = .ok (.aload_n 1, 1) := by decide +kernel
theorem dX4_tellTo_20 : decode cX4_tellTo 20 = .ok (.getfield 46, 3) := by decide +kernel
theorem dX4_tellTo_23 : decode cX4_tellTo 23 = .ok (.iload_n 2, 1) := by decide +kernel
theorem dX4_tellTo_24 : decode cX4_tellTo 24 = .ok (.iconst 1, 1) := by decide +kernel
theorem dX4_tellTo_25 : decode cX4_tellTo 25 = .ok (.iastore, 1) := by decide +kernel
theorem dX4_tellTo_26 : decode cX4_tellTo 26 = .ok (.goto 32, 3) := by decide +kernel
theorem dX4_tellTo_29 : decode cX4_tellTo 29 = .ok (.aload_n 0, 1) := by decide +kernel
theorem dX4_tellTo_30 : decode cX4_tellTo 30 = .ok (.getfield 19, 3) := by decide +kernel
theorem dX4_tellTo_33 : decode cX4_tellTo 33 = .ok (.iload_n 2, 1) := by decide +kernel
theorem dX4_tellTo_34 : decode cX4_tellTo 34 = .ok (.iaload, 1) := by decide +kernel
theorem dX4_tellTo_35 : decode cX4_tellTo 35 = .ok (.iconst (-1), 1) := by decide +kernel
theorem dX4_tellTo_36 : decode cX4_tellTo 36 = .ok (.if_icmp .eq 22, 3) := by decide +kernel
theorem dX4_tellTo_39 : decode cX4_tellTo 39 = .ok (.aload_n 1, 1) := by decide +kernel
theorem dX4_tellTo_40 : decode cX4_tellTo 40 = .ok (.getfield 46, 3) := by decide +kernel
theorem dX4_tellTo_43 : decode cX4_tellTo 43 = .ok (.iload_n 2, 1) := by decide +kernel
theorem dX4_tellTo_44 : decode cX4_tellTo 44 = .ok (.iconst 0, 1) := by decide +kernel
theorem dX4_tellTo_45 : decode cX4_tellTo 45 = .ok (.iastore, 1) := by decide +kernel
theorem dX4_tellTo_46 : decode cX4_tellTo 46 = .ok (.aload_n 1, 1) := by decide +kernel
theorem dX4_tellTo_47 : decode cX4_tellTo 47 = .ok (.getfield 49, 3) := by decide +kernel
theorem dX4_tellTo_50 : decode cX4_tellTo 50 = .ok (.iload_n 2, 1) := by decide +kernel
theorem dX4_tellTo_51 : decode cX4_tellTo 51 = .ok (.aload_n 0, 1) := by decide +kernel
theorem dX4_tellTo_52 : decode cX4_tellTo 52 = .ok (.getfield 19, 3) := by decide +kernel
theorem dX4_tellTo_55 : decode cX4_tellTo 55 = .ok (.iload_n 2, 1) := by decide +kernel
theorem dX4_tellTo_56 : decode cX4_tellTo 56 = .ok (.iaload, 1) := by decide +kernel
theorem dX4_tellTo_57 : decode cX4_tellTo 57 = .ok (.iastore, 1) := by decide +kernel
theorem dX4_tellTo_58 : decode cX4_tellTo 58 = .ok (.iinc 2 1, 3) := by decide +kernel
theorem dX4_tellTo_61 : decode cX4_tellTo 61 = .ok (.goto (-59), 3) := by decide +kernel
theorem dX4_tellTo_64 : decode cX4_tellTo 64 = .ok (.return_, 1) := by decide +kernel
theorem dX5_init_0 : decode cX5_init 0 = .ok (.aload_n 0, 1) := by decide +kernel
theorem dX5_init_1 : decode cX5_init 1 = .ok (.invokespecial 3, 3) := by decide +kernel
theorem dX5_init_4 : decode cX5_init 4 = .ok (.aload_n 0, 1) := by decide +kernel
theorem dX5_init_5 : decode cX5_init 5 = .ok (.bipush 120, 2) := by decide +kernel
theorem dX5_init_7 : decode cX5_init 7 = .ok (.newarray .int, 2) := by decide +kernel
theorem dX5_init_9 : decode cX5_init 9 = .ok (.putfield 9, 3) := by decide +kernel
theorem dX5_init_12 : decode cX5_init 12 = .ok (.aload_n 0, 1) := by decide +kernel
theorem dX5_init_13 : decode cX5_init 13 = .ok (.bipush 120, 2) := by decide +kernel
theorem dX5_init_15 : decode cX5_init 15 = .ok (.newarray .int, 2) := by decide +kernel
theorem dX5_init_17 : decode cX5_init 17 = .ok (.putfield 15, 3) := by decide +kernel
theorem dX5_init_20 : decode cX5_init 20 = .ok (.aload_n 0, 1) := by decide +kernel
theorem dX5_init_21 : decode cX5_init 21 = .ok (.iconst 0, 1) := by decide +kernel
theorem dX5_init_22 : decode cX5_init 22 = .ok (.putfield 18, 3) := by decide +kernel
theorem dX5_init_25 : decode cX5_init 25 = .ok (.return_, 1) := by decide +kernel
theorem dX5_shortest_0 : decode cX5_shortest 0 = .ok (.aload_n 0, 1) := by decide +kernel
theorem dX5_shortest_1 : decode cX5_shortest 1 = .ok (.getfield 9, 3) := by decide +kernel
theorem dX5_shortest_4 : decode cX5_shortest 4 = .ok (.iconst (-1), 1) := by decide +kernel
theorem dX5_shortest_5 : decode cX5_shortest 5 = .ok (.invokestatic 22, 3) := by decide +kernel
theorem dX5_shortest_8 : decode cX5_shortest 8 = .ok (.aload_n 0, 1) := by decide +kernel
theorem dX5_shortest_9 : decode cX5_shortest 9 = .ok (.iconst 0, 1) := by decide +kernel
theorem dX5_shortest_10 : decode cX5_shortest 10 = .ok (.putfield 18, 3) := by decide +kernel
theorem dX5_shortest_13 : decode cX5_shortest 13 = .ok (.aload_n 0, 1) := by decide +kernel
theorem dX5_shortest_14 : decode cX5_shortest 14 = .ok (.iload_n 2, 1) := by decide +kernel
theorem dX5_shortest_15 : decode cX5_shortest 15 = .ok (.iconst 0, 1) := by decide +kernel
theorem dX5_shortest_16 : decode cX5_shortest 16 = .ok (.invokevirtual 28, 3) := by decide +kernel
theorem dX5_shortest_19 : decode cX5_shortest 19 = .ok (.iconst 0, 1) := by decide +kernel
theorem dX5_shortest_20 : decode cX5_shortest 20 = .ok (.istore 4, 2) := by decide +kernel
theorem dX5_shortest_22 : decode cX5_shortest 22 = .ok (.iload 4, 2) := by decide +kernel
theorem dX5_shortest_24 : decode cX5_shortest 24 = .ok (.bipush 120, 2) := by decide +kernel
theorem dX5_shortest_26 : decode cX5_shortest 26 = .ok (.if_icmp .ge 43, 3) := by decide +kernel
theorem dX5_shortest_29 : decode cX5_shortest 29 = .ok (.aload_n 0, 1) := by decide +kernel
theorem dX5_shortest_30 : decode cX5_shortest 30 = .ok (.getfield 9, 3) := by decide +kernel
theorem dX5_shortest_33 : decode cX5_shortest 33 = .ok (.iload_n 3, 1) := by decide +kernel
theorem dX5_shortest_34 : decode cX5_shortest 34 = .ok (.iaload, 1) := by decide +kernel
theorem dX5_shortest_35 : decode cX5_shortest 35 = .ok (.iconst (-1), 1) := by decide +kernel
theorem dX5_shortest_36 : decode cX5_shortest 36 = .ok (.if_icmp .ne 33, 3) := by decide +kernel
theorem dX5_shortest_39 : decode cX5_shortest 39 = .ok (.iload 4, 2) := by decide +kernel
theorem dX5_shortest_41 : decode cX5_shortest 41 = .ok (.aload_n 0, 1) := by decide +kernel
theorem dX5_shortest_42 : decode cX5_shortest 42 = .ok (.getfield 18, 3) := by decide +kernel
theorem dX5_shortest_45 : decode cX5_shortest 45 = .ok (.if_icmp .lt 6, 3) := by decide +kernel
theorem dX5_shortest_48 : decode cX5_shortest 48 = .ok (.bipush (-19), 2) := by decide +kernel
theorem dX5_shortest_50 : decode cX5_shortest 50 = .ok (.ireturn, 1) := by decide +kernel
theorem dX5_shortest_51 : decode cX5_shortest 51 = .ok (.aload_n 0, 1) := by decide +kernel
theorem dX5_shortest_52 : decode cX5_shortest 52 = .ok (.aload_n 1, 1) := by decide +kernel
theorem dX5_shortest_53 : decode cX5_shortest 53 = .ok (.aload_n 0, 1) := by decide +kernel
theorem dX5_shortest_54 : decode cX5_shortest 54 = .ok (.getfield 15, 3) := by decide +kernel
theorem dX5_shortest_57 : decode cX5_shortest 57 = .ok (.iload 4, 2) := by decide +kernel
theorem dX5_shortest_59 : decode cX5_shortest 59 = .ok (.iaload, 1) := by decide +kernel
theorem dX5_shortest_60 : decode cX5_shortest 60 = .ok (.invokevirtual 32, 3) := by decide +kernel
theorem dX5_shortest_63 : decode cX5_shortest 63 = .ok (.iinc 4 1, 3) := by decide +kernel
theorem dX5_shortest_66 : decode cX5_shortest 66 = .ok (.goto (-44), 3) := by decide +kernel
theorem dX5_shortest_69 : decode cX5_shortest 69 = .ok (.aload_n 0, 1) := by decide +kernel
theorem dX5_shortest_70 : decode cX5_shortest 70 = .ok (.getfield 9, 3) := by decide +kernel
theorem dX5_shortest_73 : decode cX5_shortest 73 = .ok (.iload_n 3, 1) := by decide +kernel
theorem dX5_shortest_74 : decode cX5_shortest 74 = .ok (.iaload, 1) := by decide +kernel
theorem dX5_shortest_75 : decode cX5_shortest 75 = .ok (.iconst (-1), 1) := by decide +kernel
theorem dX5_shortest_76 : decode cX5_shortest 76 = .ok (.if_icmp .ne 8, 3) := by decide +kernel
theorem dX5_shortest_79 : decode cX5_shortest 79 = .ok (.bipush (-19), 2) := by decide +kernel
theorem dX5_shortest_81 : decode cX5_shortest 81 = .ok (.goto 9, 3) := by decide +kernel
theorem dX5_shortest_84 : decode cX5_shortest 84 = .ok (.aload_n 0, 1) := by decide +kernel
theorem dX5_shortest_85 : decode cX5_shortest 85 = .ok (.getfield 9, 3) := by decide +kernel
theorem dX5_shortest_88 : decode cX5_shortest 88 = .ok (.iload_n 3, 1) := by decide +kernel
theorem dX5_shortest_89 : decode cX5_shortest 89 = .ok (.iaload, 1) := by decide +kernel
theorem dX5_shortest_90 : decode cX5_shortest 90 = .ok (.ireturn, 1) := by decide +kernel
theorem dX5_reachNeighbors_0 : decode cX5_reachNeighbors 0 = .ok (.iconst (-1), 1) := by decide +kernel
theorem dX5_reachNeighbors_1 : decode cX5_reachNeighbors 1 = .ok (.istore_n 3, 1) := by decide +kernel
theorem dX5_reachNeighbors_2 : decode cX5_reachNeighbors 2 = .ok (.iload_n 3, 1) := by decide +kernel
theorem dX5_reachNeighbors_3 : decode cX5_reachNeighbors 3 = .ok (.iconst 1, 1) := by decide +kernel
theorem dX5_reachNeighbors_4 : decode cX5_reachNeighbors 4 = .ok (.if_icmp .gt 85, 3) := by decide +kernel
theorem dX5_reachNeighbors_7 : decode cX5_reachNeighbors 7 = .ok (.iconst (-1), 1) := by decide +kernel
theorem dX5_reachNeighbors_8 : decode cX5_reachNeighbors 8 = .ok (.istore 4, 2) := by decide +kernel
theorem dX5_reachNeighbors_10 : decode cX5_reachNeighbors 10 = .ok (.iload 4, 2) := by decide +kernel
theorem dX5_reachNeighbors_12 : decode cX5_reachNeighbors 12 = .ok (.iconst 1, 1) := by decide +kernel
theorem dX5_reachNeighbors_13 : decode cX5_reachNeighbors 13 = .ok (.if_icmp .gt 70, 3) := by decide +kernel
theorem dX5_reachNeighbors_16 : decode cX5_reachNeighbors 16 = .ok (.iload_n 2, 1) := by decide +kernel
theorem dX5_reachNeighbors_17 : decode cX5_reachNeighbors 17 = .ok (.invokestatic 36, 3) := by decide +kernel
theorem dX5_reachNeighbors_20 : decode cX5_reachNeighbors 20 = .ok (.iload 4, 2) := by decide +kernel
theorem dX5_reachNeighbors_22 : decode cX5_reachNeighbors 22 = .ok (.iadd, 1) := by decide +kernel
theorem dX5_reachNeighbors_23 : decode cX5_reachNeighbors 23 = .ok (.istore 5, 2) := by decide +kernel
theorem dX5_reachNeighbors_25 : decode cX5_reachNeighbors 25 = .ok (.iload_n 2, 1) := by decide +kernel
theorem dX5_reachNeighbors_26 : decode cX5_reachNeighbors 26 = .ok (.invokestatic 40, 3) := by decide +kernel
theorem dX5_reachNeighbors_29 : decode cX5_reachNeighbors 29 = .ok (.iload_n 3, 1) := by decide +kernel
theorem dX5_reachNeighbors_30 : decode cX5_reachNeighbors 30 = .ok (.iadd, 1) := by decide +kernel
theorem dX5_reachNeighbors_31 : decode cX5_reachNeighbors 31 = .ok (.istore 6, 2) := by decide +kernel
theorem dX5_reachNeighbors_33 : decode cX5_reachNeighbors 33 = .ok (.iload 5, 2) := by decide +kernel
theorem dX5_reachNeighbors_35 : decode cX5_reachNeighbors 35 = .ok (.iload 6, 2) := by decide +kernel
theorem dX5_reachNeighbors_37 : decode cX5_reachNeighbors 37 = .ok (.invokestatic 43, 3) := by decide +kernel
theorem dX5_reachNeighbors_40 : decode cX5_reachNeighbors 40 = .ok (.ifCond .eq 37, 3) := by decide +kernel
theorem dX5_reachNeighbors_43 : decode cX5_reachNeighbors 43 = .ok (.aload_n 1, 1) := by decide +kernel
theorem dX5_reachNeighbors_44 : decode cX5_reachNeighbors 44 = .ok (.iload_n 2, 1) := by decide +kernel
theorem dX5_reachNeighbors_45 : decode cX5_reachNeighbors 45 = .ok (.iload 5, 2) := by decide +kernel
theorem dX5_reachNeighbors_47 : decode cX5_reachNeighbors 47 = .ok (.iload 6, 2) := by decide +kernel
theorem dX5_reachNeighbors_49 : decode cX5_reachNeighbors 49 = .ok (.invokestatic 47, 3) := by decide +kernel
theorem dX5_reachNeighbors_52 : decode cX5_reachNeighbors 52 = .ok (.invokevirtual 51, 3) := by decide +kernel
theorem dX5_reachNeighbors_55 : decode cX5_reachNeighbors 55 = .ok (.ifCond .eq 22, 3) := by decide +kernel
theorem dX5_reachNeighbors_58 : decode cX5_reachNeighbors 58 = .ok (.aload_n 0, 1) := by decide +kernel
theorem dX5_reachNeighbors_59 : decode cX5_reachNeighbors 59 = .ok (.iload 5, 2) := by decide +kernel
theorem dX5_reachNeighbors_61 : decode cX5_reachNeighbors 61 = .ok (.iload 6, 2) := by decide +kernel
theorem dX5_reachNeighbors_63 : decode cX5_reachNeighbors 63 = .ok (.invokestatic 47, 3) := by decide +kernel
theorem dX5_reachNeighbors_66 : decode cX5_reachNeighbors 66 = .ok (.aload_n 0, 1) := by decide +kernel
theorem dX5_reachNeighbors_67 : decode cX5_reachNeighbors 67 = .ok (.getfield 9, 3) := by decide +kernel
theorem dX5_reachNeighbors_70 : decode cX5_reachNeighbors 70 = .ok (.iload_n 2, 1) := by decide +kernel
theorem dX5_reachNeighbors_71 : decode cX5_reachNeighbors 71 = .ok (.iaload, 1) := by decide +kernel
theorem dX5_reachNeighbors_72 : decode cX5_reachNeighbors 72 = .ok (.iconst 1, 1) := by decide +kernel
theorem dX5_reachNeighbors_73 : decode cX5_reachNeighbors 73 = .ok (.iadd, 1) := by decide +kernel
theorem dX5_reachNeighbors_74 : decode cX5_reachNeighbors 74 = .ok (.invokevirtual 28, 3) := by decide +kernel
theorem dX5_reachNeighbors_77 : decode cX5_reachNeighbors 77 = .ok (.iinc 4 1, 3) := by decide +kernel
theorem dX5_reachNeighbors_80 : decode cX5_reachNeighbors 80 = .ok (.goto (-70), 3) := by decide +kernel
theorem dX5_reachNeighbors_83 : decode cX5_reachNeighbors 83 = .ok (.iinc 3 1, 3) := by decide +kernel
theorem dX5_reachNeighbors_86 : decode cX5_reachNeighbors 86 = .ok (.goto (-84), 3) := by decide +kernel
theorem dX5_reachNeighbors_89 : decode cX5_reachNeighbors 89 = .ok (.return_, 1) := by decide +kernel
theorem dX5_reach_0 : decode cX5_reach 0 = .ok (.aload_n 0, 1) := by decide +kernel
theorem dX5_reach_1 : decode cX5_reach 1 = .ok (.getfield 9, 3) := by decide +kernel
theorem dX5_reach_4 : decode cX5_reach 4 = .ok (.iload_n 1, 1) := by decide +kernel
theorem dX5_reach_5 : decode cX5_reach 5 = .ok (.iaload, 1) := by decide +kernel
theorem dX5_reach_6 : decode cX5_reach 6 = .ok (.iconst (-1), 1) := by decide +kernel
theorem dX5_reach_7 : decode cX5_reach 7 = .ok (.if_icmp .ne 39, 3) := by decide +kernel
theorem dX5_reach_10 : decode cX5_reach 10 = .ok (.aload_n 0, 1) := by decide +kernel
theorem dX5_reach_11 : decode cX5_reach 11 = .ok (.getfield 18, 3) := by decide +kernel
theorem dX5_reach_14 : decode cX5_reach 14 = .ok (.bipush 120, 2) := by decide +kernel
theorem dX5_reach_16 : decode cX5_reach 16 = .ok (.if_icmp .ge 30, 3) := by decide +kernel
theorem dX5_reach_19 : decode cX5_reach 19 = .ok (.aload_n 0, 1) := by decide +kernel
theorem dX5_reach_20 : decode cX5_reach 20 = .ok (.getfield 9, 3) := by decide +kernel
theorem dX5_reach_23 : decode cX5_reach 23 = .ok (.iload_n 1, 1) := by decide +kernel
theorem dX5_reach_24 : decode cX5_reach 24 = .ok (.iload_n 2, 1) := by decide +kernel
theorem dX5_reach_25 : decode cX5_reach 25 = .ok (.iastore, 1) := by decide +kernel
theorem dX5_reach_26 : decode cX5_reach 26 = .ok (.aload_n 0, 1) := by decide +kernel
theorem dX5_reach_27 : decode cX5_reach 27 = .ok (.getfield 15, 3) := by decide +kernel
theorem dX5_reach_30 : decode cX5_reach 30 = .ok (.aload_n 0, 1) := by decide +kernel
theorem dX5_reach_31 : decode cX5_reach 31 = .ok (.getfield 18, 3) := by decide +kernel
theorem dX5_reach_34 : decode cX5_reach 34 = .ok (.iload_n 1, 1) := by decide +kernel
theorem dX5_reach_35 : decode cX5_reach 35 = .ok (.iastore, 1) := by decide +kernel
theorem dX5_reach_36 : decode cX5_reach 36 = .ok (.aload_n 0, 1) := by decide +kernel
theorem dX5_reach_37 : decode cX5_reach 37 = .ok (.dup, 1) := by decide +kernel
theorem dX5_reach_38 : decode cX5_reach 38 = .ok (.getfield 18, 3) := by decide +kernel
theorem dX5_reach_41 : decode cX5_reach 41 = .ok (.iconst 1, 1) := by decide +kernel
theorem dX5_reach_42 : decode cX5_reach 42 = .ok (.iadd, 1) := by decide +kernel
theorem dX5_reach_43 : decode cX5_reach 43 = .ok (.putfield 18, 3) := by decide +kernel
theorem dX5_reach_46 : decode cX5_reach 46 = .ok (.return_, 1) := by decide +kernel
theorem dX6_init_0 : decode cX6_init 0 = .ok (.aload_n 0, 1) := by decide +kernel
theorem dX6_init_1 : decode cX6_init 1 = .ok (.invokespecial 3, 3) := by decide +kernel
theorem dX6_init_4 : decode cX6_init 4 = .ok (.aload_n 0, 1) := by decide +kernel
theorem dX6_init_5 : decode cX6_init 5 = .ok (.new 9, 3) := by decide +kernel
theorem dX6_init_8 : decode cX6_init 8 = .ok (.dup, 1) := by decide +kernel
theorem dX6_init_9 : decode cX6_init 9 = .ok (.invokespecial 11, 3) := by decide +kernel
theorem dX6_init_12 : decode cX6_init 12 = .ok (.putfield 12, 3) := by decide +kernel
theorem dX6_init_15 : decode cX6_init 15 = .ok (.aload_n 0, 1) := by decide +kernel
theorem dX6_init_16 : decode cX6_init 16 = .ok (.new 16, 3) := by decide +kernel
theorem dX6_init_19 : decode cX6_init 19 = .ok (.dup, 1) := by decide +kernel
theorem dX6_init_20 : decode cX6_init 20 = .ok (.invokespecial 18, 3) := by decide +kernel
theorem dX6_init_23 : decode cX6_init 23 = .ok (.putfield 19, 3) := by decide +kernel
theorem dX6_init_26 : decode cX6_init 26 = .ok (.aload_n 0, 1) := by decide +kernel
theorem dX6_init_27 : decode cX6_init 27 = .ok (.new 23, 3) := by decide +kernel
theorem dX6_init_30 : decode cX6_init 30 = .ok (.dup, 1) := by decide +kernel
theorem dX6_init_31 : decode cX6_init 31 = .ok (.invokespecial 25, 3) := by decide +kernel
theorem dX6_init_34 : decode cX6_init 34 = .ok (.putfield 26, 3) := by decide +kernel
theorem dX6_init_37 : decode cX6_init 37 = .ok (.aload_n 0, 1) := by decide +kernel
theorem dX6_init_38 : decode cX6_init 38 = .ok (.new 30, 3) := by decide +kernel
theorem dX6_init_41 : decode cX6_init 41 = .ok (.dup, 1) := by decide +kernel
theorem dX6_init_42 : decode cX6_init 42 = .ok (.invokespecial 32, 3) := by decide +kernel
theorem dX6_init_45 : decode cX6_init 45 = .ok (.putfield 33, 3) := by decide +kernel
theorem dX6_init_48 : decode cX6_init 48 = .ok (.aload_n 0, 1) := by decide +kernel
theorem dX6_init_49 : decode cX6_init 49 = .ok (.new 37, 3) := by decide +kernel
theorem dX6_init_52 : decode cX6_init 52 = .ok (.dup, 1) := by decide +kernel
theorem dX6_init_53 : decode cX6_init 53 = .ok (.invokespecial 39, 3) := by decide +kernel
theorem dX6_init_56 : decode cX6_init 56 = .ok (.putfield 40, 3) := by decide +kernel
theorem dX6_init_59 : decode cX6_init 59 = .ok (.return_, 1) := by decide +kernel
theorem dX6_setHeight_0 : decode cX6_setHeight 0 = .ok (.iload_n 1, 1) := by decide +kernel
theorem dX6_setHeight_1 : decode cX6_setHeight 1 = .ok (.iload_n 2, 1) := by decide +kernel
theorem dX6_setHeight_2 : decode cX6_setHeight 2 = .ok (.invokestatic 44, 3) := by decide +kernel
theorem dX6_setHeight_5 : decode cX6_setHeight 5 = .ok (.ifCond .eq 13, 3) := by decide +kernel
theorem dX6_setHeight_8 : decode cX6_setHeight 8 = .ok (.iload_n 3, 1) := by decide +kernel
theorem dX6_setHeight_9 : decode cX6_setHeight 9 = .ok (.iconst 0, 1) := by decide +kernel
theorem dX6_setHeight_10 : decode cX6_setHeight 10 = .ok (.bipush 9, 2) := by decide +kernel
theorem dX6_setHeight_12 : decode cX6_setHeight 12 = .ok (.invokestatic 48, 3) := by decide +kernel
theorem dX6_setHeight_15 : decode cX6_setHeight 15 = .ok (.ifCond .ne 6, 3) := by decide +kernel
theorem dX6_setHeight_18 : decode cX6_setHeight 18 = .ok (.bipush (-11), 2) := by decide +kernel
theorem dX6_setHeight_20 : decode cX6_setHeight 20 = .ok (.ireturn, 1) := by decide +kernel
theorem dX6_setHeight_21 : decode cX6_setHeight 21 = .ok (.iload_n 1, 1) := by decide +kernel
theorem dX6_setHeight_22 : decode cX6_setHeight 22 = .ok (.iload_n 2, 1) := by decide +kernel
theorem dX6_setHeight_23 : decode cX6_setHeight 23 = .ok (.invokestatic 52, 3) := by decide +kernel
theorem dX6_setHeight_26 : decode cX6_setHeight 26 = .ok (.istore 4, 2) := by decide +kernel
theorem dX6_setHeight_28 : decode cX6_setHeight 28 = .ok (.aload_n 0, 1) := by decide +kernel
theorem dX6_setHeight_29 : decode cX6_setHeight 29 = .ok (.getfield 12, 3) := by decide +kernel
theorem dX6_setHeight_32 : decode cX6_setHeight 32 = .ok (.getfield 56, 3) := by decide +kernel
theorem dX6_setHeight_35 : decode cX6_setHeight 35 = .ok (.iload 4, 2) := by decide +kernel
theorem dX6_setHeight_37 : decode cX6_setHeight 37 = .ok (.iaload, 1) := by decide +kernel
theorem dX6_setHeight_38 : decode cX6_setHeight 38 = .ok (.istore 5, 2) := by decide +kernel
theorem dX6_setHeight_40 : decode cX6_setHeight 40 = .ok (.aload_n 0, 1) := by decide +kernel
theorem dX6_setHeight_41 : decode cX6_setHeight 41 = .ok (.getfield 26, 3) := by decide +kernel
theorem dX6_setHeight_44 : decode cX6_setHeight 44 = .ok (.aload_n 0, 1) := by decide +kernel
theorem dX6_setHeight_45 : decode cX6_setHeight 45 = .ok (.getfield 12, 3) := by decide +kernel
theorem dX6_setHeight_48 : decode cX6_setHeight 48 = .ok (.invokevirtual 60, 3) := by decide +kernel
theorem dX6_setHeight_51 : decode cX6_setHeight 51 = .ok (.aload_n 0, 1) := by decide +kernel
theorem dX6_setHeight_52 : decode cX6_setHeight 52 = .ok (.getfield 12, 3) := by decide +kernel
theorem dX6_setHeight_55 : decode cX6_setHeight 55 = .ok (.getfield 56, 3) := by decide +kernel
theorem dX6_setHeight_58 : decode cX6_setHeight 58 = .ok (.iload 4, 2) := by decide +kernel
theorem dX6_setHeight_60 : decode cX6_setHeight 60 = .ok (.iload_n 3, 1) := by decide +kernel
theorem dX6_setHeight_61 : decode cX6_setHeight 61 = .ok (.iastore, 1) := by decide +kernel
theorem dX6_setHeight_62 : decode cX6_setHeight 62 = .ok (.aload_n 0, 1) := by decide +kernel
theorem dX6_setHeight_63 : decode cX6_setHeight 63 = .ok (.invokevirtual 64, 3) := by decide +kernel
theorem dX6_setHeight_66 : decode cX6_setHeight 66 = .ok (.iload 5, 2) := by decide +kernel
theorem dX6_setHeight_68 : decode cX6_setHeight 68 = .ok (.ireturn, 1) := by decide +kernel
theorem dX6_setWall_0 : decode cX6_setWall 0 = .ok (.iload_n 1, 1) := by decide +kernel
theorem dX6_setWall_1 : decode cX6_setWall 1 = .ok (.iload_n 2, 1) := by decide +kernel
theorem dX6_setWall_2 : decode cX6_setWall 2 = .ok (.invokestatic 44, 3) := by decide +kernel
theorem dX6_setWall_5 : decode cX6_setWall 5 = .ok (.ifCond .eq 12, 3) := by decide +kernel
theorem dX6_setWall_8 : decode cX6_setWall 8 = .ok (.iload_n 3, 1) := by decide +kernel
theorem dX6_setWall_9 : decode cX6_setWall 9 = .ok (.iconst 0, 1) := by decide +kernel
theorem dX6_setWall_10 : decode cX6_setWall 10 = .ok (.iconst 1, 1) := by decide +kernel
theorem dX6_setWall_11 : decode cX6_setWall 11 = .ok (.invokestatic 48, 3) := by decide +kernel
theorem dX6_setWall_14 : decode cX6_setWall 14 = .ok (.ifCond .ne 6, 3) := by decide +kernel
theorem dX6_setWall_17 : decode cX6_setWall 17 = .ok (.bipush (-11), 2) := by decide +kernel
theorem dX6_setWall_19 : decode cX6_setWall 19 = .ok (.ireturn, 1) := by decide +kernel
theorem dX6_setWall_20 : decode cX6_setWall 20 = .ok (.iload_n 1, 1) := by decide +kernel
theorem dX6_setWall_21 : decode cX6_setWall 21 = .ok (.iload_n 2, 1) := by decide +kernel
theorem dX6_setWall_22 : decode cX6_setWall 22 = .ok (.invokestatic 52, 3) := by decide +kernel
theorem dX6_setWall_25 : decode cX6_setWall 25 = .ok (.istore 4, 2) := by decide +kernel
theorem dX6_setWall_27 : decode cX6_setWall 27 = .ok (.iload_n 3, 1) := by decide +kernel
theorem dX6_setWall_28 : decode cX6_setWall 28 = .ok (.iconst 1, 1) := by decide +kernel
theorem dX6_setWall_29 : decode cX6_setWall 29 = .ok (.if_icmp .ne 20, 3) := by decide +kernel
theorem dX6_setWall_32 : decode cX6_setWall 32 = .ok (.aload_n 0, 1) := by decide +kernel
theorem dX6_setWall_33 : decode cX6_setWall 33 = .ok (.getfield 12, 3) := by decide +kernel
theorem dX6_setWall_36 : decode cX6_setWall 36 = .ok (.iload 4, 2) := by decide +kernel
theorem dX6_setWall_38 : decode cX6_setWall 38 = .ok (.invokevirtual 67, 3) := by decide +kernel
theorem dX6_setWall_41 : decode cX6_setWall 41 = .ok (.bipush (-19), 2) := by decide +kernel
theorem dX6_setWall_43 : decode cX6_setWall 43 = .ok (.if_icmp .eq 6, 3) := by decide +kernel
theorem dX6_setWall_46 : decode cX6_setWall 46 = .ok (.bipush (-12), 2) := by decide +kernel
theorem dX6_setWall_48 : decode cX6_setWall 48 = .ok (.ireturn, 1) := by decide +kernel
theorem dX6_setWall_49 : decode cX6_setWall 49 = .ok (.aload_n 0, 1) := by decide +kernel
theorem dX6_setWall_50 : decode cX6_setWall 50 = .ok (.getfield 12, 3) := by decide +kernel
theorem dX6_setWall_53 : decode cX6_setWall 53 = .ok (.getfield 71, 3) := by decide +kernel
theorem dX6_setWall_56 : decode cX6_setWall 56 = .ok (.iload 4, 2) := by decide +kernel
theorem dX6_setWall_58 : decode cX6_setWall 58 = .ok (.iaload, 1) := by decide +kernel
theorem dX6_setWall_59 : decode cX6_setWall 59 = .ok (.istore 5, 2) := by decide +kernel
theorem dX6_setWall_61 : decode cX6_setWall 61 = .ok (.aload_n 0, 1) := by decide +kernel
theorem dX6_setWall_62 : decode cX6_setWall 62 = .ok (.getfield 26, 3) := by decide +kernel
theorem dX6_setWall_65 : decode cX6_setWall 65 = .ok (.aload_n 0, 1) := by decide +kernel
theorem dX6_setWall_66 : decode cX6_setWall 66 = .ok (.getfield 12, 3) := by decide +kernel
theorem dX6_setWall_69 : decode cX6_setWall 69 = .ok (.invokevirtual 60, 3) := by decide +kernel
theorem dX6_setWall_72 : decode cX6_setWall 72 = .ok (.aload_n 0, 1) := by decide +kernel
theorem dX6_setWall_73 : decode cX6_setWall 73 = .ok (.getfield 12, 3) := by decide +kernel
theorem dX6_setWall_76 : decode cX6_setWall 76 = .ok (.getfield 71, 3) := by decide +kernel
theorem dX6_setWall_79 : decode cX6_setWall 79 = .ok (.iload 4, 2) := by decide +kernel
theorem dX6_setWall_81 : decode cX6_setWall 81 = .ok (.iload_n 3, 1) := by decide +kernel
theorem dX6_setWall_82 : decode cX6_setWall 82 = .ok (.iastore, 1) := by decide +kernel
theorem dX6_setWall_83 : decode cX6_setWall 83 = .ok (.aload_n 0, 1) := by decide +kernel
theorem dX6_setWall_84 : decode cX6_setWall 84 = .ok (.invokevirtual 64, 3) := by decide +kernel
theorem dX6_setWall_87 : decode cX6_setWall 87 = .ok (.iload 5, 2) := by decide +kernel
theorem dX6_setWall_89 : decode cX6_setWall 89 = .ok (.ireturn, 1) := by decide +kernel
theorem dX6_append_0 : decode cX6_append 0 = .ok (.iload_n 1, 1) := by decide +kernel
theorem dX6_append_1 : decode cX6_append 1 = .ok (.iconst 1, 1) := by decide +kernel
theorem dX6_append_2 : decode cX6_append 2 = .ok (.sipush 255, 3) := by decide +kernel
theorem dX6_append_5 : decode cX6_append 5 = .ok (.invokestatic 48, 3) := by decide +kernel
theorem dX6_append_8 : decode cX6_append 8 = .ok (.ifCond .ne 6, 3) := by decide +kernel
theorem dX6_append_11 : decode cX6_append 11 = .ok (.bipush (-11), 2) := by decide +kernel
theorem dX6_append_13 : decode cX6_append 13 = .ok (.ireturn, 1) := by decide +kernel
theorem dX6_append_14 : decode cX6_append 14 = .ok (.aload_n 0, 1) := by decide +kernel
theorem dX6_append_15 : decode cX6_append 15 = .ok (.getfield 33, 3) := by decide +kernel
theorem dX6_append_18 : decode cX6_append 18 = .ok (.getfield 74, 3) := by decide +kernel
theorem dX6_append_21 : decode cX6_append 21 = .ok (.bipush 120, 2) := by decide +kernel
theorem dX6_append_23 : decode cX6_append 23 = .ok (.if_icmp .lt 6, 3) := by decide +kernel
theorem dX6_append_26 : decode cX6_append 26 = .ok (.bipush (-13), 2) := by decide +kernel
theorem dX6_append_28 : decode cX6_append 28 = .ok (.ireturn, 1) := by decide +kernel
theorem dX6_append_29 : decode cX6_append 29 = .ok (.aload_n 0, 1) := by decide +kernel
theorem dX6_append_30 : decode cX6_append 30 = .ok (.getfield 33, 3) := by decide +kernel
theorem dX6_append_33 : decode cX6_append 33 = .ok (.iload_n 1, 1) := by decide +kernel
theorem dX6_append_34 : decode cX6_append 34 = .ok (.invokevirtual 78, 3) := by decide +kernel
theorem dX6_append_37 : decode cX6_append 37 = .ok (.aload_n 0, 1) := by decide +kernel
theorem dX6_append_38 : decode cX6_append 38 = .ok (.getfield 33, 3) := by decide +kernel
theorem dX6_append_41 : decode cX6_append 41 = .ok (.getfield 74, 3) := by decide +kernel
theorem dX6_append_44 : decode cX6_append 44 = .ok (.ireturn, 1) := by decide +kernel
theorem dX6_load_0 : decode cX6_load 0 = .ok (.aload_n 0, 1) := by decide +kernel
theorem dX6_load_1 : decode cX6_load 1 = .ok (.getfield 33, 3) := by decide +kernel
theorem dX6_load_4 : decode cX6_load 4 = .ok (.aload_n 0, 1) := by decide +kernel
theorem dX6_load_5 : decode cX6_load 5 = .ok (.getfield 12, 3) := by decide +kernel
theorem dX6_load_8 : decode cX6_load 8 = .ok (.invokevirtual 82, 3) := by decide +kernel
theorem dX6_load_11 : decode cX6_load 11 = .ok (.istore_n 1, 1) := by decide +kernel
theorem dX6_load_12 : decode cX6_load 12 = .ok (.iload_n 1, 1) := by decide +kernel
theorem dX6_load_13 : decode cX6_load 13 = .ok (.ifCond .ge 5, 3) := by decide +kernel
theorem dX6_load_16 : decode cX6_load 16 = .ok (.iload_n 1, 1) := by decide +kernel
theorem dX6_load_17 : decode cX6_load 17 = .ok (.ireturn, 1) := by decide +kernel
theorem dX6_load_18 : decode cX6_load 18 = .ok (.aload_n 0, 1) := by decide +kernel
theorem dX6_load_19 : decode cX6_load 19 = .ok (.getfield 26, 3) := by decide +kernel
theorem dX6_load_22 : decode cX6_load 22 = .ok (.aload_n 0, 1) := by decide +kernel
theorem dX6_load_23 : decode cX6_load 23 = .ok (.getfield 12, 3) := by decide +kernel
theorem dX6_load_26 : decode cX6_load 26 = .ok (.invokevirtual 60, 3) := by decide +kernel
theorem dX6_load_29 : decode cX6_load 29 = .ok (.aload_n 0, 1) := by decide +kernel
theorem dX6_load_30 : decode cX6_load 30 = .ok (.getfield 33, 3) := by decide +kernel
theorem dX6_load_33 : decode cX6_load 33 = .ok (.aload_n 0, 1) := by decide +kernel
theorem dX6_load_34 : decode cX6_load 34 = .ok (.getfield 12, 3) := by decide +kernel
theorem dX6_load_37 : decode cX6_load 37 = .ok (.invokevirtual 86, 3) := by decide +kernel
theorem dX6_load_40 : decode cX6_load 40 = .ok (.aload_n 0, 1) := by decide +kernel
theorem dX6_load_41 : decode cX6_load 41 = .ok (.getfield 33, 3) := by decide +kernel
theorem dX6_load_44 : decode cX6_load 44 = .ok (.iconst 0, 1) := by decide +kernel
theorem dX6_load_45 : decode cX6_load 45 = .ok (.putfield 74, 3) := by decide +kernel
theorem dX6_load_48 : decode cX6_load 48 = .ok (.aload_n 0, 1) := by decide +kernel
theorem dX6_load_49 : decode cX6_load 49 = .ok (.invokevirtual 64, 3) := by decide +kernel
theorem dX6_load_52 : decode cX6_load 52 = .ok (.iload_n 1, 1) := by decide +kernel
theorem dX6_load_53 : decode cX6_load 53 = .ok (.ireturn, 1) := by decide +kernel
theorem dX6_addScout_0 : decode cX6_addScout 0 = .ok (.iload_n 1, 1) := by decide +kernel
theorem dX6_addScout_1 : decode cX6_addScout 1 = .ok (.iconst 0, 1) := by decide +kernel
theorem dX6_addScout_2 : decode cX6_addScout 2 = .ok (.iconst 1, 1) := by decide +kernel
theorem dX6_addScout_3 : decode cX6_addScout 3 = .ok (.invokestatic 48, 3) := by decide +kernel
theorem dX6_addScout_6 : decode cX6_addScout 6 = .ok (.ifCond .eq 22, 3) := by decide +kernel
theorem dX6_addScout_9 : decode cX6_addScout 9 = .ok (.iload_n 2, 1) := by decide +kernel
theorem dX6_addScout_10 : decode cX6_addScout 10 = .ok (.iload_n 3, 1) := by decide +kernel
theorem dX6_addScout_11 : decode cX6_addScout 11 = .ok (.invokestatic 44, 3) := by decide +kernel
theorem dX6_addScout_14 : decode cX6_addScout 14 = .ok (.ifCond .eq 14, 3) := by decide +kernel
theorem dX6_addScout_17 : decode cX6_addScout 17 = .ok (.iload 4, 2) := by decide +kernel
theorem dX6_addScout_19 : decode cX6_addScout 19 = .ok (.iconst 1, 1) := by decide +kernel
theorem dX6_addScout_20 : decode cX6_addScout 20 = .ok (.bipush 8, 2) := by decide +kernel
theorem dX6_addScout_22 : decode cX6_addScout 22 = .ok (.invokestatic 48, 3) := by decide +kernel
theorem dX6_addScout_25 : decode cX6_addScout 25 = .ok (.ifCond .ne 6, 3) := by decide +kernel
theorem dX6_addScout_28 : decode cX6_addScout 28 = .ok (.bipush (-11), 2) := by decide +kernel
theorem dX6_addScout_30 : decode cX6_addScout 30 = .ok (.ireturn, 1) := by decide +kernel
theorem dX6_addScout_31 : decode cX6_addScout 31 = .ok (.iload_n 2, 1) := by decide +kernel
theorem dX6_addScout_32 : decode cX6_addScout 32 = .ok (.iload_n 3, 1) := by decide +kernel
theorem dX6_addScout_33 : decode cX6_addScout 33 = .ok (.invokestatic 52, 3) := by decide +kernel
theorem dX6_addScout_36 : decode cX6_addScout 36 = .ok (.istore 5, 2) := by decide +kernel
theorem dX6_addScout_38 : decode cX6_addScout 38 = .ok (.aload_n 0, 1) := by decide +kernel
theorem dX6_addScout_39 : decode cX6_addScout 39 = .ok (.getfield 12, 3) := by decide +kernel
theorem dX6_addScout_42 : decode cX6_addScout 42 = .ok (.iload 5, 2) := by decide +kernel
theorem dX6_addScout_44 : decode cX6_addScout 44 = .ok (.invokevirtual 89, 3) := by decide +kernel
theorem dX6_addScout_47 : decode cX6_addScout 47 = .ok (.ifCond .ne 6, 3) := by decide +kernel
theorem dX6_addScout_50 : decode cX6_addScout 50 = .ok (.bipush (-12), 2) := by decide +kernel
theorem dX6_addScout_52 : decode cX6_addScout 52 = .ok (.ireturn, 1) := by decide +kernel
theorem dX6_addScout_53 : decode cX6_addScout 53 = .ok (.aload_n 0, 1) := by decide +kernel
theorem dX6_addScout_54 : decode cX6_addScout 54 = .ok (.getfield 12, 3) := by decide +kernel
theorem dX6_addScout_57 : decode cX6_addScout 57 = .ok (.getfield 93, 3) := by decide +kernel
theorem dX6_addScout_60 : decode cX6_addScout 60 = .ok (.bipush 10, 2) := by decide +kernel
theorem dX6_addScout_62 : decode cX6_addScout 62 = .ok (.if_icmp .lt 6, 3) := by decide +kernel
theorem dX6_addScout_65 : decode cX6_addScout 65 = .ok (.bipush (-13), 2) := by decide +kernel
theorem dX6_addScout_67 : decode cX6_addScout 67 = .ok (.ireturn, 1) := by decide +kernel
theorem dX6_addScout_68 : decode cX6_addScout 68 = .ok (.aload_n 0, 1) := by decide +kernel
theorem dX6_addScout_69 : decode cX6_addScout 69 = .ok (.getfield 26, 3) := by decide +kernel
theorem dX6_addScout_72 : decode cX6_addScout 72 = .ok (.aload_n 0, 1) := by decide +kernel
theorem dX6_addScout_73 : decode cX6_addScout 73 = .ok (.getfield 12, 3) := by decide +kernel
theorem dX6_addScout_76 : decode cX6_addScout 76 = .ok (.invokevirtual 60, 3) := by decide +kernel
theorem dX6_addScout_79 : decode cX6_addScout 79 = .ok (.aload_n 0, 1) := by decide +kernel
theorem dX6_addScout_80 : decode cX6_addScout 80 = .ok (.getfield 12, 3) := by decide +kernel
theorem dX6_addScout_83 : decode cX6_addScout 83 = .ok (.iload_n 1, 1) := by decide +kernel
theorem dX6_addScout_84 : decode cX6_addScout 84 = .ok (.iload 5, 2) := by decide +kernel
theorem dX6_addScout_86 : decode cX6_addScout 86 = .ok (.iload 4, 2) := by decide +kernel
theorem dX6_addScout_88 : decode cX6_addScout 88 = .ok (.invokevirtual 96, 3) := by decide +kernel
theorem dX6_addScout_91 : decode cX6_addScout 91 = .ok (.aload_n 0, 1) := by decide +kernel
theorem dX6_addScout_92 : decode cX6_addScout 92 = .ok (.invokevirtual 64, 3) := by decide +kernel
theorem dX6_addScout_95 : decode cX6_addScout 95 = .ok (.aload_n 0, 1) := by decide +kernel
theorem dX6_addScout_96 : decode cX6_addScout 96 = .ok (.getfield 12, 3) := by decide +kernel
theorem dX6_addScout_99 : decode cX6_addScout 99 = .ok (.getfield 93, 3) := by decide +kernel
theorem dX6_addScout_102 : decode cX6_addScout 102 = .ok (.iconst 1, 1) := by decide +kernel
theorem dX6_addScout_103 : decode cX6_addScout 103 = .ok (.isub, 1) := by decide +kernel
theorem dX6_addScout_104 : decode cX6_addScout 104 = .ok (.ireturn, 1) := by decide +kernel
theorem dX6_step_0 : decode cX6_step 0 = .ok (.aload_n 0, 1) := by decide +kernel
theorem dX6_step_1 : decode cX6_step 1 = .ok (.iload_n 1, 1) := by decide +kernel
theorem dX6_step_2 : decode cX6_step 2 = .ok (.invokevirtual 100, 3) := by decide +kernel
theorem dX6_step_5 : decode cX6_step 5 = .ok (.ifCond .eq 21, 3) := by decide +kernel
theorem dX6_step_8 : decode cX6_step 8 = .ok (.iload_n 2, 1) := by decide +kernel
theorem dX6_step_9 : decode cX6_step 9 = .ok (.iconst (-1), 1) := by decide +kernel
theorem dX6_step_10 : decode cX6_step 10 = .ok (.iconst 1, 1) := by decide +kernel
theorem dX6_step_11 : decode cX6_step 11 = .ok (.invokestatic 48, 3) := by decide +kernel
theorem dX6_step_14 : decode cX6_step 14 = .ok (.ifCond .eq 12, 3) := by decide +kernel
theorem dX6_step_17 : decode cX6_step 17 = .ok (.iload_n 3, 1) := by decide +kernel
theorem dX6_step_18 : decode cX6_step 18 = .ok (.iconst (-1), 1) := by decide +kernel
theorem dX6_step_19 : decode cX6_step 19 = .ok (.iconst 1, 1) := by decide +kernel
theorem dX6_step_20 : decode cX6_step 20 = .ok (.invokestatic 48, 3) := by decide +kernel
theorem dX6_step_23 : decode cX6_step 23 = .ok (.ifCond .ne 6, 3) := by decide +kernel
theorem dX6_step_26 : decode cX6_step 26 = .ok (.bipush (-11), 2) := by decide +kernel
theorem dX6_step_28 : decode cX6_step 28 = .ok (.ireturn, 1) := by decide +kernel
theorem dX6_step_29 : decode cX6_step 29 = .ok (.iload_n 2, 1) := by decide +kernel
theorem dX6_step_30 : decode cX6_step 30 = .ok (.ifCond .ne 10, 3) := by decide +kernel
theorem dX6_step_33 : decode cX6_step 33 = .ok (.iload_n 3, 1) := by decide +kernel
theorem dX6_step_34 : decode cX6_step 34 = .ok (.ifCond .ne 6, 3) := by decide +kernel
theorem dX6_step_37 : decode cX6_step 37 = .ok (.bipush (-11), 2) := by decide +kernel
theorem dX6_step_39 : decode cX6_step 39 = .ok (.ireturn, 1) := by decide +kernel
theorem dX6_step_40 : decode cX6_step 40 = .ok (.aload_n 0, 1) := by decide +kernel
theorem dX6_step_41 : decode cX6_step 41 = .ok (.getfield 12, 3) := by decide +kernel
theorem dX6_step_44 : decode cX6_step 44 = .ok (.getfield 103, 3) := by decide +kernel
theorem dX6_step_47 : decode cX6_step 47 = .ok (.iload_n 1, 1) := by decide +kernel
theorem dX6_step_48 : decode cX6_step 48 = .ok (.iaload, 1) := by decide +kernel
theorem dX6_step_49 : decode cX6_step 49 = .ok (.istore 4, 2) := by decide +kernel
theorem dX6_step_51 : decode cX6_step 51 = .ok (.iload 4, 2) := by decide +kernel
theorem dX6_step_53 : decode cX6_step 53 = .ok (.invokestatic 106, 3) := by decide +kernel
theorem dX6_step_56 : decode cX6_step 56 = .ok (.iload_n 2, 1) := by decide +kernel
theorem dX6_step_57 : decode cX6_step 57 = .ok (.iadd, 1) := by decide +kernel
theorem dX6_step_58 : decode cX6_step 58 = .ok (.istore 5, 2) := by decide +kernel
theorem dX6_step_60 : decode cX6_step 60 = .ok (.iload 4, 2) := by decide +kernel
theorem dX6_step_62 : decode cX6_step 62 = .ok (.invokestatic 109, 3) := by decide +kernel
theorem dX6_step_65 : decode cX6_step 65 = .ok (.iload_n 3, 1) := by decide +kernel
theorem dX6_step_66 : decode cX6_step 66 = .ok (.iadd, 1) := by decide +kernel
theorem dX6_step_67 : decode cX6_step 67 = .ok (.istore 6, 2) := by decide +kernel
theorem dX6_step_69 : decode cX6_step 69 = .ok (.iload 5, 2) := by decide +kernel
theorem dX6_step_71 : decode cX6_step 71 = .ok (.iload 6, 2) := by decide +kernel
theorem dX6_step_73 : decode cX6_step 73 = .ok (.invokestatic 44, 3) := by decide +kernel
theorem dX6_step_76 : decode cX6_step 76 = .ok (.ifCond .eq 19, 3) := by decide +kernel
theorem dX6_step_79 : decode cX6_step 79 = .ok (.aload_n 0, 1) := by decide +kernel
theorem dX6_step_80 : decode cX6_step 80 = .ok (.iload 4, 2) := by decide +kernel
theorem dX6_step_82 : decode cX6_step 82 = .ok (.iload 5, 2) := by decide +kernel
theorem dX6_step_84 : decode cX6_step 84 = .ok (.iload 6, 2) := by decide +kernel
theorem dX6_step_86 : decode cX6_step 86 = .ok (.invokestatic 52, 3) := by decide +kernel
theorem dX6_step_89 : decode cX6_step 89 = .ok (.invokevirtual 112, 3) := by decide +kernel
theorem dX6_step_92 : decode cX6_step 92 = .ok (.ifCond .ne 6, 3) := by decide +kernel
theorem dX6_step_95 : decode cX6_step 95 = .ok (.bipush (-12), 2) := by decide +kernel
theorem dX6_step_97 : decode cX6_step 97 = .ok (.ireturn, 1) := by decide +kernel
theorem dX6_step_98 : decode cX6_step 98 = .ok (.aload_n 0, 1) := by decide +kernel
theorem dX6_step_99 : decode cX6_step 99 = .ok (.getfield 26, 3) := by decide +kernel
theorem dX6_step_102 : decode cX6_step 102 = .ok (.aload_n 0, 1) := by decide +kernel
theorem dX6_step_103 : decode cX6_step 103 = .ok (.getfield 12, 3) := by decide +kernel
theorem dX6_step_106 : decode cX6_step 106 = .ok (.invokevirtual 60, 3) := by decide +kernel
theorem dX6_step_109 : decode cX6_step 109 = .ok (.aload_n 0, 1) := by decide +kernel
theorem dX6_step_110 : decode cX6_step 110 = .ok (.getfield 12, 3) := by decide +kernel
theorem dX6_step_113 : decode cX6_step 113 = .ok (.getfield 103, 3) := by decide +kernel
theorem dX6_step_116 : decode cX6_step 116 = .ok (.iload_n 1, 1) := by decide +kernel
theorem dX6_step_117 : decode cX6_step 117 = .ok (.iload 5, 2) := by decide +kernel
theorem dX6_step_119 : decode cX6_step 119 = .ok (.iload 6, 2) := by decide +kernel
theorem dX6_step_121 : decode cX6_step 121 = .ok (.invokestatic 52, 3) := by decide +kernel
theorem dX6_step_124 : decode cX6_step 124 = .ok (.iastore, 1) := by decide +kernel
theorem dX6_step_125 : decode cX6_step 125 = .ok (.aload_n 0, 1) := by decide +kernel
theorem dX6_step_126 : decode cX6_step 126 = .ok (.getfield 19, 3) := by decide +kernel
theorem dX6_step_129 : decode cX6_step 129 = .ok (.aload_n 0, 1) := by decide +kernel
theorem dX6_step_130 : decode cX6_step 130 = .ok (.getfield 12, 3) := by decide +kernel
theorem dX6_step_133 : decode cX6_step 133 = .ok (.invokevirtual 115, 3) := by decide +kernel
theorem dX6_step_136 : decode cX6_step 136 = .ok (.aload_n 0, 1) := by decide +kernel
theorem dX6_step_137 : decode cX6_step 137 = .ok (.aload_n 0, 1) := by decide +kernel
theorem dX6_step_138 : decode cX6_step 138 = .ok (.getfield 12, 3) := by decide +kernel
theorem dX6_step_141 : decode cX6_step 141 = .ok (.getfield 118, 3) := by decide +kernel
theorem dX6_step_144 : decode cX6_step 144 = .ok (.iload_n 1, 1) := by decide +kernel
theorem dX6_step_145 : decode cX6_step 145 = .ok (.iaload, 1) := by decide +kernel
theorem dX6_step_146 : decode cX6_step 146 = .ok (.invokevirtual 121, 3) := by decide +kernel
theorem dX6_step_149 : decode cX6_step 149 = .ok (.istore 7, 2) := by decide +kernel
theorem dX6_step_151 : decode cX6_step 151 = .ok (.aload_n 0, 1) := by decide +kernel
theorem dX6_step_152 : decode cX6_step 152 = .ok (.getfield 12, 3) := by decide +kernel
theorem dX6_step_155 : decode cX6_step 155 = .ok (.aload_n 0, 1) := by decide +kernel
theorem dX6_step_156 : decode cX6_step 156 = .ok (.getfield 19, 3) := by decide +kernel
theorem dX6_step_159 : decode cX6_step 159 = .ok (.invokevirtual 124, 3) := by decide +kernel
theorem dX6_step_162 : decode cX6_step 162 = .ok (.iload 7, 2) := by decide +kernel
theorem dX6_step_164 : decode cX6_step 164 = .ok (.ireturn, 1) := by decide +kernel
theorem dX6_removeScout_0 : decode cX6_removeScout 0 = .ok (.aload_n 0, 1) := by decide +kernel
theorem dX6_removeScout_1 : decode cX6_removeScout 1 = .ok (.iload_n 1, 1) := by decide +kernel
theorem dX6_removeScout_2 : decode cX6_removeScout 2 = .ok (.invokevirtual 100, 3) := by decide +kernel
theorem dX6_removeScout_5 : decode cX6_removeScout 5 = .ok (.ifCond .ne 6, 3) := by decide +kernel
theorem dX6_removeScout_8 : decode cX6_removeScout 8 = .ok (.bipush (-11), 2) := by decide +kernel
theorem dX6_removeScout_10 : decode cX6_removeScout 10 = .ok (.ireturn, 1) := by decide +kernel
theorem dX6_removeScout_11 : decode cX6_removeScout 11 = .ok (.aload_n 0, 1) := by decide +kernel
theorem dX6_removeScout_12 : decode cX6_removeScout 12 = .ok (.getfield 26, 3) := by decide +kernel
theorem dX6_removeScout_15 : decode cX6_removeScout 15 = .ok (.aload_n 0, 1) := by decide +kernel
theorem dX6_removeScout_16 : decode cX6_removeScout 16 = .ok (.getfield 12, 3) := by decide +kernel
theorem dX6_removeScout_19 : decode cX6_removeScout 19 = .ok (.invokevirtual 60, 3) := by decide +kernel
theorem dX6_removeScout_22 : decode cX6_removeScout 22 = .ok (.aload_n 0, 1) := by decide +kernel
theorem dX6_removeScout_23 : decode cX6_removeScout 23 = .ok (.getfield 12, 3) := by decide +kernel
theorem dX6_removeScout_26 : decode cX6_removeScout 26 = .ok (.iload_n 1, 1) := by decide +kernel
theorem dX6_removeScout_27 : decode cX6_removeScout 27 = .ok (.invokevirtual 128, 3) := by decide +kernel
theorem dX6_removeScout_30 : decode cX6_removeScout 30 = .ok (.aload_n 0, 1) := by decide +kernel
theorem dX6_removeScout_31 : decode cX6_removeScout 31 = .ok (.invokevirtual 64, 3) := by decide +kernel
theorem dX6_removeScout_34 : decode cX6_removeScout 34 = .ok (.aload_n 0, 1) := by decide +kernel
theorem dX6_removeScout_35 : decode cX6_removeScout 35 = .ok (.getfield 12, 3) := by decide +kernel
theorem dX6_removeScout_38 : decode cX6_removeScout 38 = .ok (.getfield 93, 3) := by decide +kernel
theorem dX6_removeScout_41 : decode cX6_removeScout 41 = .ok (.ireturn, 1) := by decide +kernel
theorem dX6_addLight_0 : decode cX6_addLight 0 = .ok (.iload_n 1, 1) := by decide +kernel
theorem dX6_addLight_1 : decode cX6_addLight 1 = .ok (.iload_n 2, 1) := by decide +kernel
theorem dX6_addLight_2 : decode cX6_addLight 2 = .ok (.invokestatic 44, 3) := by decide +kernel
theorem dX6_addLight_5 : decode cX6_addLight 5 = .ok (.ifCond .eq 23, 3) := by decide +kernel
theorem dX6_addLight_8 : decode cX6_addLight 8 = .ok (.iload_n 3, 1) := by decide +kernel
theorem dX6_addLight_9 : decode cX6_addLight 9 = .ok (.iconst 0, 1) := by decide +kernel
theorem dX6_addLight_10 : decode cX6_addLight 10 = .ok (.iconst 4, 1) := by decide +kernel
theorem dX6_addLight_11 : decode cX6_addLight 11 = .ok (.invokestatic 48, 3) := by decide +kernel
theorem dX6_addLight_14 : decode cX6_addLight 14 = .ok (.ifCond .eq 14, 3) := by decide +kernel
theorem dX6_addLight_17 : decode cX6_addLight 17 = .ok (.iload 4, 2) := by decide +kernel
theorem dX6_addLight_19 : decode cX6_addLight 19 = .ok (.iconst 0, 1) := by decide +kernel
theorem dX6_addLight_20 : decode cX6_addLight 20 = .ok (.bipush 50, 2) := by decide +kernel
theorem dX6_addLight_22 : decode cX6_addLight 22 = .ok (.invokestatic 48, 3) := by decide +kernel
theorem dX6_addLight_25 : decode cX6_addLight 25 = .ok (.ifCond .ne 6, 3) := by decide +kernel
theorem dX6_addLight_28 : decode cX6_addLight 28 = .ok (.bipush (-11), 2) := by decide +kernel
theorem dX6_addLight_30 : decode cX6_addLight 30 = .ok (.ireturn, 1) := by decide +kernel
theorem dX6_addLight_31 : decode cX6_addLight 31 = .ok (.aload_n 0, 1) := by decide +kernel
theorem dX6_addLight_32 : decode cX6_addLight 32 = .ok (.getfield 12, 3) := by decide +kernel
theorem dX6_addLight_35 : decode cX6_addLight 35 = .ok (.getfield 131, 3) := by decide +kernel
theorem dX6_addLight_38 : decode cX6_addLight 38 = .ok (.bipush 6, 2) := by decide +kernel
theorem dX6_addLight_40 : decode cX6_addLight 40 = .ok (.if_icmp .lt 6, 3) := by decide +kernel
theorem dX6_addLight_43 : decode cX6_addLight 43 = .ok (.bipush (-13), 2) := by decide +kernel
theorem dX6_addLight_45 : decode cX6_addLight 45 = .ok (.ireturn, 1) := by decide +kernel
theorem dX6_addLight_46 : decode cX6_addLight 46 = .ok (.aload_n 0, 1) := by decide +kernel
theorem dX6_addLight_47 : decode cX6_addLight 47 = .ok (.getfield 26, 3) := by decide +kernel
theorem dX6_addLight_50 : decode cX6_addLight 50 = .ok (.aload_n 0, 1) := by decide +kernel
theorem dX6_addLight_51 : decode cX6_addLight 51 = .ok (.getfield 12, 3) := by decide +kernel
theorem dX6_addLight_54 : decode cX6_addLight 54 = .ok (.invokevirtual 60, 3) := by decide +kernel
theorem dX6_addLight_57 : decode cX6_addLight 57 = .ok (.aload_n 0, 1) := by decide +kernel
theorem dX6_addLight_58 : decode cX6_addLight 58 = .ok (.getfield 12, 3) := by decide +kernel
theorem dX6_addLight_61 : decode cX6_addLight 61 = .ok (.iload_n 1, 1) := by decide +kernel
theorem dX6_addLight_62 : decode cX6_addLight 62 = .ok (.iload_n 2, 1) := by decide +kernel
theorem dX6_addLight_63 : decode cX6_addLight 63 = .ok (.invokestatic 52, 3) := by decide +kernel
theorem dX6_addLight_66 : decode cX6_addLight 66 = .ok (.iload_n 3, 1) := by decide +kernel
theorem dX6_addLight_67 : decode cX6_addLight 67 = .ok (.iload 4, 2) := by decide +kernel
theorem dX6_addLight_69 : decode cX6_addLight 69 = .ok (.invokevirtual 134, 3) := by decide +kernel
theorem dX6_addLight_72 : decode cX6_addLight 72 = .ok (.aload_n 0, 1) := by decide +kernel
theorem dX6_addLight_73 : decode cX6_addLight 73 = .ok (.invokevirtual 64, 3) := by decide +kernel
theorem dX6_addLight_76 : decode cX6_addLight 76 = .ok (.aload_n 0, 1) := by decide +kernel
theorem dX6_addLight_77 : decode cX6_addLight 77 = .ok (.getfield 12, 3) := by decide +kernel
theorem dX6_addLight_80 : decode cX6_addLight 80 = .ok (.getfield 131, 3) := by decide +kernel
theorem dX6_addLight_83 : decode cX6_addLight 83 = .ok (.iconst 1, 1) := by decide +kernel
theorem dX6_addLight_84 : decode cX6_addLight 84 = .ok (.isub, 1) := by decide +kernel
theorem dX6_addLight_85 : decode cX6_addLight 85 = .ok (.ireturn, 1) := by decide +kernel
theorem dX6_setOil_0 : decode cX6_setOil 0 = .ok (.aload_n 0, 1) := by decide +kernel
theorem dX6_setOil_1 : decode cX6_setOil 1 = .ok (.iload_n 1, 1) := by decide +kernel
theorem dX6_setOil_2 : decode cX6_setOil 2 = .ok (.invokevirtual 137, 3) := by decide +kernel
theorem dX6_setOil_5 : decode cX6_setOil 5 = .ok (.ifCond .eq 13, 3) := by decide +kernel
theorem dX6_setOil_8 : decode cX6_setOil 8 = .ok (.iload_n 2, 1) := by decide +kernel
theorem dX6_setOil_9 : decode cX6_setOil 9 = .ok (.iconst 0, 1) := by decide +kernel
theorem dX6_setOil_10 : decode cX6_setOil 10 = .ok (.bipush 50, 2) := by decide +kernel
theorem dX6_setOil_12 : decode cX6_setOil 12 = .ok (.invokestatic 48, 3) := by decide +kernel
theorem dX6_setOil_15 : decode cX6_setOil 15 = .ok (.ifCond .ne 6, 3) := by decide +kernel
theorem dX6_setOil_18 : decode cX6_setOil 18 = .ok (.bipush (-11), 2) := by decide +kernel
theorem dX6_setOil_20 : decode cX6_setOil 20 = .ok (.ireturn, 1) := by decide +kernel
theorem dX6_setOil_21 : decode cX6_setOil 21 = .ok (.aload_n 0, 1) := by decide +kernel
theorem dX6_setOil_22 : decode cX6_setOil 22 = .ok (.getfield 12, 3) := by decide +kernel
theorem dX6_setOil_25 : decode cX6_setOil 25 = .ok (.getfield 140, 3) := by decide +kernel
theorem dX6_setOil_28 : decode cX6_setOil 28 = .ok (.iload_n 1, 1) := by decide +kernel
theorem dX6_setOil_29 : decode cX6_setOil 29 = .ok (.iaload, 1) := by decide +kernel
theorem dX6_setOil_30 : decode cX6_setOil 30 = .ok (.istore_n 3, 1) := by decide +kernel
theorem dX6_setOil_31 : decode cX6_setOil 31 = .ok (.aload_n 0, 1) := by decide +kernel
theorem dX6_setOil_32 : decode cX6_setOil 32 = .ok (.getfield 26, 3) := by decide +kernel
theorem dX6_setOil_35 : decode cX6_setOil 35 = .ok (.aload_n 0, 1) := by decide +kernel
theorem dX6_setOil_36 : decode cX6_setOil 36 = .ok (.getfield 12, 3) := by decide +kernel
theorem dX6_setOil_39 : decode cX6_setOil 39 = .ok (.invokevirtual 60, 3) := by decide +kernel
theorem dX6_setOil_42 : decode cX6_setOil 42 = .ok (.aload_n 0, 1) := by decide +kernel
theorem dX6_setOil_43 : decode cX6_setOil 43 = .ok (.getfield 12, 3) := by decide +kernel
theorem dX6_setOil_46 : decode cX6_setOil 46 = .ok (.getfield 140, 3) := by decide +kernel
theorem dX6_setOil_49 : decode cX6_setOil 49 = .ok (.iload_n 1, 1) := by decide +kernel
theorem dX6_setOil_50 : decode cX6_setOil 50 = .ok (.iload_n 2, 1) := by decide +kernel
theorem dX6_setOil_51 : decode cX6_setOil 51 = .ok (.iastore, 1) := by decide +kernel
theorem dX6_setOil_52 : decode cX6_setOil 52 = .ok (.aload_n 0, 1) := by decide +kernel
theorem dX6_setOil_53 : decode cX6_setOil 53 = .ok (.invokevirtual 64, 3) := by decide +kernel
theorem dX6_setOil_56 : decode cX6_setOil 56 = .ok (.iload_n 3, 1) := by decide +kernel
theorem dX6_setOil_57 : decode cX6_setOil 57 = .ok (.ireturn, 1) := by decide +kernel
theorem dX6_removeLight_0 : decode cX6_removeLight 0 = .ok (.aload_n 0, 1) := by decide +kernel
theorem dX6_removeLight_1 : decode cX6_removeLight 1 = .ok (.iload_n 1, 1) := by decide +kernel
theorem dX6_removeLight_2 : decode cX6_removeLight 2 = .ok (.invokevirtual 137, 3) := by decide +kernel
theorem dX6_removeLight_5 : decode cX6_removeLight 5 = .ok (.ifCond .ne 6, 3) := by decide +kernel
theorem dX6_removeLight_8 : decode cX6_removeLight 8 = .ok (.bipush (-11), 2) := by decide +kernel
theorem dX6_removeLight_10 : decode cX6_removeLight 10 = .ok (.ireturn, 1) := by decide +kernel
theorem dX6_removeLight_11 : decode cX6_removeLight 11 = .ok (.aload_n 0, 1) := by decide +kernel
theorem dX6_removeLight_12 : decode cX6_removeLight 12 = .ok (.getfield 26, 3) := by decide +kernel
theorem dX6_removeLight_15 : decode cX6_removeLight 15 = .ok (.aload_n 0, 1) := by decide +kernel
theorem dX6_removeLight_16 : decode cX6_removeLight 16 = .ok (.getfield 12, 3) := by decide +kernel
theorem dX6_removeLight_19 : decode cX6_removeLight 19 = .ok (.invokevirtual 60, 3) := by decide +kernel
theorem dX6_removeLight_22 : decode cX6_removeLight 22 = .ok (.aload_n 0, 1) := by decide +kernel
theorem dX6_removeLight_23 : decode cX6_removeLight 23 = .ok (.getfield 12, 3) := by decide +kernel
theorem dX6_removeLight_26 : decode cX6_removeLight 26 = .ok (.iload_n 1, 1) := by decide +kernel
theorem dX6_removeLight_27 : decode cX6_removeLight 27 = .ok (.invokevirtual 143, 3) := by decide +kernel
theorem dX6_removeLight_30 : decode cX6_removeLight 30 = .ok (.aload_n 0, 1) := by decide +kernel
theorem dX6_removeLight_31 : decode cX6_removeLight 31 = .ok (.invokevirtual 64, 3) := by decide +kernel
theorem dX6_removeLight_34 : decode cX6_removeLight 34 = .ok (.aload_n 0, 1) := by decide +kernel
theorem dX6_removeLight_35 : decode cX6_removeLight 35 = .ok (.getfield 12, 3) := by decide +kernel
theorem dX6_removeLight_38 : decode cX6_removeLight 38 = .ok (.getfield 131, 3) := by decide +kernel
theorem dX6_removeLight_41 : decode cX6_removeLight 41 = .ok (.ireturn, 1) := by decide +kernel
theorem dX6_setFogTime_0 : decode cX6_setFogTime 0 = .ok (.iload_n 1, 1) := by decide +kernel
theorem dX6_setFogTime_1 : decode cX6_setFogTime 1 = .ok (.iconst 1, 1) := by decide +kernel
theorem dX6_setFogTime_2 : decode cX6_setFogTime 2 = .ok (.bipush 99, 2) := by decide +kernel
theorem dX6_setFogTime_4 : decode cX6_setFogTime 4 = .ok (.invokestatic 48, 3) := by decide +kernel
theorem dX6_setFogTime_7 : decode cX6_setFogTime 7 = .ok (.ifCond .ne 6, 3) := by decide +kernel
theorem dX6_setFogTime_10 : decode cX6_setFogTime 10 = .ok (.bipush (-11), 2) := by decide +kernel
theorem dX6_setFogTime_12 : decode cX6_setFogTime 12 = .ok (.ireturn, 1) := by decide +kernel
theorem dX6_setFogTime_13 : decode cX6_setFogTime 13 = .ok (.aload_n 0, 1) := by decide +kernel
theorem dX6_setFogTime_14 : decode cX6_setFogTime 14 = .ok (.getfield 12, 3) := by decide +kernel
theorem dX6_setFogTime_17 : decode cX6_setFogTime 17 = .ok (.getfield 146, 3) := by decide +kernel
theorem dX6_setFogTime_20 : decode cX6_setFogTime 20 = .ok (.istore_n 2, 1) := by decide +kernel
theorem dX6_setFogTime_21 : decode cX6_setFogTime 21 = .ok (.aload_n 0, 1) := by decide +kernel
theorem dX6_setFogTime_22 : decode cX6_setFogTime 22 = .ok (.getfield 26, 3) := by decide +kernel
theorem dX6_setFogTime_25 : decode cX6_setFogTime 25 = .ok (.aload_n 0, 1) := by decide +kernel
theorem dX6_setFogTime_26 : decode cX6_setFogTime 26 = .ok (.getfield 12, 3) := by decide +kernel
theorem dX6_setFogTime_29 : decode cX6_setFogTime 29 = .ok (.invokevirtual 60, 3) := by decide +kernel
theorem dX6_setFogTime_32 : decode cX6_setFogTime 32 = .ok (.aload_n 0, 1) := by decide +kernel
theorem dX6_setFogTime_33 : decode cX6_setFogTime 33 = .ok (.getfield 12, 3) := by decide +kernel
theorem dX6_setFogTime_36 : decode cX6_setFogTime 36 = .ok (.iload_n 1, 1) := by decide +kernel
theorem dX6_setFogTime_37 : decode cX6_setFogTime 37 = .ok (.invokevirtual 149, 3) := by decide +kernel
theorem dX6_setFogTime_40 : decode cX6_setFogTime 40 = .ok (.aload_n 0, 1) := by decide +kernel
theorem dX6_setFogTime_41 : decode cX6_setFogTime 41 = .ok (.invokevirtual 64, 3) := by decide +kernel
theorem dX6_setFogTime_44 : decode cX6_setFogTime 44 = .ok (.iload_n 2, 1) := by decide +kernel
theorem dX6_setFogTime_45 : decode cX6_setFogTime 45 = .ok (.ireturn, 1) := by decide +kernel
theorem dX6_pass_0 : decode cX6_pass 0 = .ok (.iload_n 1, 1) := by decide +kernel
theorem dX6_pass_1 : decode cX6_pass 1 = .ok (.iconst 1, 1) := by decide +kernel
theorem dX6_pass_2 : decode cX6_pass 2 = .ok (.bipush 99, 2) := by decide +kernel
theorem dX6_pass_4 : decode cX6_pass 4 = .ok (.invokestatic 48, 3) := by decide +kernel
theorem dX6_pass_7 : decode cX6_pass 7 = .ok (.ifCond .ne 6, 3) := by decide +kernel
theorem dX6_pass_10 : decode cX6_pass 10 = .ok (.bipush (-11), 2) := by decide +kernel
theorem dX6_pass_12 : decode cX6_pass 12 = .ok (.ireturn, 1) := by decide +kernel
theorem dX6_pass_13 : decode cX6_pass 13 = .ok (.aload_n 0, 1) := by decide +kernel
theorem dX6_pass_14 : decode cX6_pass 14 = .ok (.getfield 26, 3) := by decide +kernel
theorem dX6_pass_17 : decode cX6_pass 17 = .ok (.aload_n 0, 1) := by decide +kernel
theorem dX6_pass_18 : decode cX6_pass 18 = .ok (.getfield 12, 3) := by decide +kernel
theorem dX6_pass_21 : decode cX6_pass 21 = .ok (.invokevirtual 60, 3) := by decide +kernel
theorem dX6_pass_24 : decode cX6_pass 24 = .ok (.iconst 0, 1) := by decide +kernel
theorem dX6_pass_25 : decode cX6_pass 25 = .ok (.istore_n 2, 1) := by decide +kernel
theorem dX6_pass_26 : decode cX6_pass 26 = .ok (.iconst 0, 1) := by decide +kernel
theorem dX6_pass_27 : decode cX6_pass 27 = .ok (.istore_n 3, 1) := by decide +kernel
theorem dX6_pass_28 : decode cX6_pass 28 = .ok (.iload_n 3, 1) := by decide +kernel
theorem dX6_pass_29 : decode cX6_pass 29 = .ok (.iload_n 1, 1) := by decide +kernel
theorem dX6_pass_30 : decode cX6_pass 30 = .ok (.if_icmp .ge 16, 3) := by decide +kernel
theorem dX6_pass_33 : decode cX6_pass 33 = .ok (.iload_n 2, 1) := by decide +kernel
theorem dX6_pass_34 : decode cX6_pass 34 = .ok (.aload_n 0, 1) := by decide +kernel
theorem dX6_pass_35 : decode cX6_pass 35 = .ok (.invokevirtual 152, 3) := by decide +kernel
theorem dX6_pass_38 : decode cX6_pass 38 = .ok (.iadd, 1) := by decide +kernel
theorem dX6_pass_39 : decode cX6_pass 39 = .ok (.istore_n 2, 1) := by decide +kernel
theorem dX6_pass_40 : decode cX6_pass 40 = .ok (.iinc 3 1, 3) := by decide +kernel
theorem dX6_pass_43 : decode cX6_pass 43 = .ok (.goto (-15), 3) := by decide +kernel
theorem dX6_pass_46 : decode cX6_pass 46 = .ok (.iload_n 2, 1) := by decide +kernel
theorem dX6_pass_47 : decode cX6_pass 47 = .ok (.ireturn, 1) := by decide +kernel
theorem dX6_undo_0 : decode cX6_undo 0 = .ok (.aload_n 0, 1) := by decide +kernel
theorem dX6_undo_1 : decode cX6_undo 1 = .ok (.getfield 26, 3) := by decide +kernel
theorem dX6_undo_4 : decode cX6_undo 4 = .ok (.getfield 156, 3) := by decide +kernel
theorem dX6_undo_7 : decode cX6_undo 7 = .ok (.ifCond .ne 6, 3) := by decide +kernel
theorem dX6_undo_10 : decode cX6_undo 10 = .ok (.bipush (-12), 2) := by decide +kernel
theorem dX6_undo_12 : decode cX6_undo 12 = .ok (.ireturn, 1) := by decide +kernel
theorem dX6_undo_13 : decode cX6_undo 13 = .ok (.aload_n 0, 1) := by decide +kernel
theorem dX6_undo_14 : decode cX6_undo 14 = .ok (.getfield 26, 3) := by decide +kernel
theorem dX6_undo_17 : decode cX6_undo 17 = .ok (.aload_n 0, 1) := by decide +kernel
theorem dX6_undo_18 : decode cX6_undo 18 = .ok (.getfield 12, 3) := by decide +kernel
theorem dX6_undo_21 : decode cX6_undo 21 = .ok (.invokevirtual 159, 3) := by decide +kernel
theorem dX6_undo_24 : decode cX6_undo 24 = .ok (.aload_n 0, 1) := by decide +kernel
theorem dX6_undo_25 : decode cX6_undo 25 = .ok (.getfield 19, 3) := by decide +kernel
theorem dX6_undo_28 : decode cX6_undo 28 = .ok (.aload_n 0, 1) := by decide +kernel
theorem dX6_undo_29 : decode cX6_undo 29 = .ok (.getfield 12, 3) := by decide +kernel
theorem dX6_undo_32 : decode cX6_undo 32 = .ok (.invokevirtual 115, 3) := by decide +kernel
theorem dX6_undo_35 : decode cX6_undo 35 = .ok (.aload_n 0, 1) := by decide +kernel
theorem dX6_undo_36 : decode cX6_undo 36 = .ok (.getfield 26, 3) := by decide +kernel
theorem dX6_undo_39 : decode cX6_undo 39 = .ok (.getfield 156, 3) := by decide +kernel
theorem dX6_undo_42 : decode cX6_undo 42 = .ok (.ireturn, 1) := by decide +kernel
theorem dX6_count_0 : decode cX6_count 0 = .ok (.iload_n 1, 1) := by decide +kernel
theorem dX6_count_1 : decode cX6_count 1 = .ok (.tableswitch 185 0 11 #[63, 71, 79, 87, 95, 103, 111, 127, 143, 156, 169, 177], 63) := by decide +kernel
theorem dX6_count_64 : decode cX6_count 64 = .ok (.aload_n 0, 1) := by decide +kernel
theorem dX6_count_65 : decode cX6_count 65 = .ok (.getfield 12, 3) := by decide +kernel
theorem dX6_count_68 : decode cX6_count 68 = .ok (.getfield 93, 3) := by decide +kernel
theorem dX6_count_71 : decode cX6_count 71 = .ok (.ireturn, 1) := by decide +kernel
theorem dX6_count_72 : decode cX6_count 72 = .ok (.aload_n 0, 1) := by decide +kernel
theorem dX6_count_73 : decode cX6_count 73 = .ok (.getfield 12, 3) := by decide +kernel
theorem dX6_count_76 : decode cX6_count 76 = .ok (.getfield 131, 3) := by decide +kernel
theorem dX6_count_79 : decode cX6_count 79 = .ok (.ireturn, 1) := by decide +kernel
theorem dX6_count_80 : decode cX6_count 80 = .ok (.aload_n 0, 1) := by decide +kernel
theorem dX6_count_81 : decode cX6_count 81 = .ok (.getfield 12, 3) := by decide +kernel
theorem dX6_count_84 : decode cX6_count 84 = .ok (.invokevirtual 162, 3) := by decide +kernel
theorem dX6_count_87 : decode cX6_count 87 = .ok (.ireturn, 1) := by decide +kernel
theorem dX6_count_88 : decode cX6_count 88 = .ok (.aload_n 0, 1) := by decide +kernel
theorem dX6_count_89 : decode cX6_count 89 = .ok (.getfield 19, 3) := by decide +kernel
theorem dX6_count_92 : decode cX6_count 92 = .ok (.invokevirtual 165, 3) := by decide +kernel
theorem dX6_count_95 : decode cX6_count 95 = .ok (.ireturn, 1) := by decide +kernel
theorem dX6_count_96 : decode cX6_count 96 = .ok (.aload_n 0, 1) := by decide +kernel
theorem dX6_count_97 : decode cX6_count 97 = .ok (.getfield 12, 3) := by decide +kernel
theorem dX6_count_100 : decode cX6_count 100 = .ok (.getfield 146, 3) := by decide +kernel
theorem dX6_count_103 : decode cX6_count 103 = .ok (.ireturn, 1) := by decide +kernel
theorem dX6_count_104 : decode cX6_count 104 = .ok (.aload_n 0, 1) := by decide +kernel
theorem dX6_count_105 : decode cX6_count 105 = .ok (.getfield 12, 3) := by decide +kernel
theorem dX6_count_108 : decode cX6_count 108 = .ok (.getfield 168, 3) := by decide +kernel
theorem dX6_count_111 : decode cX6_count 111 = .ok (.ireturn, 1) := by decide +kernel
theorem dX6_count_112 : decode cX6_count 112 = .ok (.aload_n 0, 1) := by decide +kernel
theorem dX6_count_113 : decode cX6_count 113 = .ok (.getfield 19, 3) := by decide +kernel
theorem dX6_count_116 : decode cX6_count 116 = .ok (.aload_n 0, 1) := by decide +kernel
theorem dX6_count_117 : decode cX6_count 117 = .ok (.getfield 12, 3) := by decide +kernel
theorem dX6_count_120 : decode cX6_count 120 = .ok (.iconst 0, 1) := by decide +kernel
theorem dX6_count_121 : decode cX6_count 121 = .ok (.invokevirtual 171, 3) := by decide +kernel
theorem dX6_count_124 : decode cX6_count 124 = .ok (.invokevirtual 174, 3) := by decide +kernel
theorem dX6_count_127 : decode cX6_count 127 = .ok (.ireturn, 1) := by decide +kernel
theorem dX6_count_128 : decode cX6_count 128 = .ok (.aload_n 0, 1) := by decide +kernel
theorem dX6_count_129 : decode cX6_count 129 = .ok (.getfield 19, 3) := by decide +kernel
theorem dX6_count_132 : decode cX6_count 132 = .ok (.aload_n 0, 1) := by decide +kernel
theorem dX6_count_133 : decode cX6_count 133 = .ok (.getfield 12, 3) := by decide +kernel
theorem dX6_count_136 : decode cX6_count 136 = .ok (.iconst 1, 1) := by decide +kernel
theorem dX6_count_137 : decode cX6_count 137 = .ok (.invokevirtual 171, 3) := by decide +kernel
theorem dX6_count_140 : decode cX6_count 140 = .ok (.invokevirtual 174, 3) := by decide +kernel
theorem dX6_count_143 : decode cX6_count 143 = .ok (.ireturn, 1) := by decide +kernel
theorem dX6_count_144 : decode cX6_count 144 = .ok (.aload_n 0, 1) := by decide +kernel
theorem dX6_count_145 : decode cX6_count 145 = .ok (.getfield 12, 3) := by decide +kernel
theorem dX6_count_148 : decode cX6_count 148 = .ok (.getfield 177, 3) := by decide +kernel
theorem dX6_count_151 : decode cX6_count 151 = .ok (.iconst 0, 1) := by decide +kernel
theorem dX6_count_152 : decode cX6_count 152 = .ok (.aaload, 1) := by decide +kernel
theorem dX6_count_153 : decode cX6_count 153 = .ok (.invokevirtual 181, 3) := by decide +kernel
theorem dX6_count_156 : decode cX6_count 156 = .ok (.ireturn, 1) := by decide +kernel
theorem dX6_count_157 : decode cX6_count 157 = .ok (.aload_n 0, 1) := by decide +kernel
theorem dX6_count_158 : decode cX6_count 158 = .ok (.getfield 12, 3) := by decide +kernel
theorem dX6_count_161 : decode cX6_count 161 = .ok (.getfield 177, 3) := by decide +kernel
theorem dX6_count_164 : decode cX6_count 164 = .ok (.iconst 1, 1) := by decide +kernel
theorem dX6_count_165 : decode cX6_count 165 = .ok (.aaload, 1) := by decide +kernel
theorem dX6_count_166 : decode cX6_count 166 = .ok (.invokevirtual 181, 3) := by decide +kernel
theorem dX6_count_169 : decode cX6_count 169 = .ok (.ireturn, 1) := by decide +kernel
theorem dX6_count_170 : decode cX6_count 170 = .ok (.aload_n 0, 1) := by decide +kernel
theorem dX6_count_171 : decode cX6_count 171 = .ok (.getfield 26, 3) := by decide +kernel
theorem dX6_count_174 : decode cX6_count 174 = .ok (.getfield 156, 3) := by decide +kernel
theorem dX6_count_177 : decode cX6_count 177 = .ok (.ireturn, 1) := by decide +kernel
theorem dX6_count_178 : decode cX6_count 178 = .ok (.aload_n 0, 1) := by decide +kernel
theorem dX6_count_179 : decode cX6_count 179 = .ok (.getfield 33, 3) := by decide +kernel
theorem dX6_count_182 : decode cX6_count 182 = .ok (.getfield 74, 3) := by decide +kernel
theorem dX6_count_185 : decode cX6_count 185 = .ok (.ireturn, 1) := by decide +kernel
theorem dX6_count_186 : decode cX6_count 186 = .ok (.bipush (-11), 2) := by decide +kernel
theorem dX6_count_188 : decode cX6_count 188 = .ok (.ireturn, 1) := by decide +kernel
theorem dX6_cell_0 : decode cX6_cell 0 = .ok (.iload_n 1, 1) := by decide +kernel
theorem dX6_cell_1 : decode cX6_cell 1 = .ok (.iload_n 2, 1) := by decide +kernel
theorem dX6_cell_2 : decode cX6_cell 2 = .ok (.invokestatic 44, 3) := by decide +kernel
theorem dX6_cell_5 : decode cX6_cell 5 = .ok (.ifCond .ne 6, 3) := by decide +kernel
theorem dX6_cell_8 : decode cX6_cell 8 = .ok (.bipush (-11), 2) := by decide +kernel
theorem dX6_cell_10 : decode cX6_cell 10 = .ok (.ireturn, 1) := by decide +kernel
theorem dX6_cell_11 : decode cX6_cell 11 = .ok (.iload_n 1, 1) := by decide +kernel
theorem dX6_cell_12 : decode cX6_cell 12 = .ok (.iload_n 2, 1) := by decide +kernel
theorem dX6_cell_13 : decode cX6_cell 13 = .ok (.invokestatic 52, 3) := by decide +kernel
theorem dX6_cell_16 : decode cX6_cell 16 = .ok (.istore 4, 2) := by decide +kernel
theorem dX6_cell_18 : decode cX6_cell 18 = .ok (.iload_n 3, 1) := by decide +kernel
theorem dX6_cell_19 : decode cX6_cell 19 = .ok (.tableswitch 72 0 3 #[29, 40, 51, 62], 29) := by decide +kernel
theorem dX6_cell_48 : decode cX6_cell 48 = .ok (.aload_n 0, 1) := by decide +kernel
theorem dX6_cell_49 : decode cX6_cell 49 = .ok (.getfield 12, 3) := by decide +kernel
theorem dX6_cell_52 : decode cX6_cell 52 = .ok (.getfield 56, 3) := by decide +kernel
theorem dX6_cell_55 : decode cX6_cell 55 = .ok (.iload 4, 2) := by decide +kernel
theorem dX6_cell_57 : decode cX6_cell 57 = .ok (.iaload, 1) := by decide +kernel
theorem dX6_cell_58 : decode cX6_cell 58 = .ok (.ireturn, 1) := by decide +kernel
theorem dX6_cell_59 : decode cX6_cell 59 = .ok (.aload_n 0, 1) := by decide +kernel
theorem dX6_cell_60 : decode cX6_cell 60 = .ok (.getfield 12, 3) := by decide +kernel
theorem dX6_cell_63 : decode cX6_cell 63 = .ok (.getfield 71, 3) := by decide +kernel
theorem dX6_cell_66 : decode cX6_cell 66 = .ok (.iload 4, 2) := by decide +kernel
theorem dX6_cell_68 : decode cX6_cell 68 = .ok (.iaload, 1) := by decide +kernel
theorem dX6_cell_69 : decode cX6_cell 69 = .ok (.ireturn, 1) := by decide +kernel
theorem dX6_cell_70 : decode cX6_cell 70 = .ok (.aload_n 0, 1) := by decide +kernel
theorem dX6_cell_71 : decode cX6_cell 71 = .ok (.getfield 19, 3) := by decide +kernel
theorem dX6_cell_74 : decode cX6_cell 74 = .ok (.getfield 186, 3) := by decide +kernel
theorem dX6_cell_77 : decode cX6_cell 77 = .ok (.iload 4, 2) := by decide +kernel
theorem dX6_cell_79 : decode cX6_cell 79 = .ok (.iaload, 1) := by decide +kernel
theorem dX6_cell_80 : decode cX6_cell 80 = .ok (.ireturn, 1) := by decide +kernel
theorem dX6_cell_81 : decode cX6_cell 81 = .ok (.aload_n 0, 1) := by decide +kernel
theorem dX6_cell_82 : decode cX6_cell 82 = .ok (.getfield 12, 3) := by decide +kernel
theorem dX6_cell_85 : decode cX6_cell 85 = .ok (.iload 4, 2) := by decide +kernel
theorem dX6_cell_87 : decode cX6_cell 87 = .ok (.invokevirtual 67, 3) := by decide +kernel
theorem dX6_cell_90 : decode cX6_cell 90 = .ok (.ireturn, 1) := by decide +kernel
theorem dX6_cell_91 : decode cX6_cell 91 = .ok (.bipush (-11), 2) := by decide +kernel
theorem dX6_cell_93 : decode cX6_cell 93 = .ok (.ireturn, 1) := by decide +kernel
theorem dX6_scout_0 : decode cX6_scout 0 = .ok (.aload_n 0, 1) := by decide +kernel
theorem dX6_scout_1 : decode cX6_scout 1 = .ok (.iload_n 1, 1) := by decide +kernel
theorem dX6_scout_2 : decode cX6_scout 2 = .ok (.invokevirtual 100, 3) := by decide +kernel
theorem dX6_scout_5 : decode cX6_scout 5 = .ok (.ifCond .ne 6, 3) := by decide +kernel
theorem dX6_scout_8 : decode cX6_scout 8 = .ok (.bipush (-11), 2) := by decide +kernel
theorem dX6_scout_10 : decode cX6_scout 10 = .ok (.ireturn, 1) := by decide +kernel
theorem dX6_scout_11 : decode cX6_scout 11 = .ok (.aload_n 0, 1) := by decide +kernel
theorem dX6_scout_12 : decode cX6_scout 12 = .ok (.getfield 12, 3) := by decide +kernel
theorem dX6_scout_15 : decode cX6_scout 15 = .ok (.getfield 103, 3) := by decide +kernel
theorem dX6_scout_18 : decode cX6_scout 18 = .ok (.iload_n 1, 1) := by decide +kernel
theorem dX6_scout_19 : decode cX6_scout 19 = .ok (.iaload, 1) := by decide +kernel
theorem dX6_scout_20 : decode cX6_scout 20 = .ok (.istore_n 3, 1) := by decide +kernel
theorem dX6_scout_21 : decode cX6_scout 21 = .ok (.aload_n 0, 1) := by decide +kernel
theorem dX6_scout_22 : decode cX6_scout 22 = .ok (.getfield 12, 3) := by decide +kernel
theorem dX6_scout_25 : decode cX6_scout 25 = .ok (.getfield 118, 3) := by decide +kernel
theorem dX6_scout_28 : decode cX6_scout 28 = .ok (.iload_n 1, 1) := by decide +kernel
theorem dX6_scout_29 : decode cX6_scout 29 = .ok (.iaload, 1) := by decide +kernel
theorem dX6_scout_30 : decode cX6_scout 30 = .ok (.istore 4, 2) := by decide +kernel
theorem dX6_scout_32 : decode cX6_scout 32 = .ok (.iload_n 2, 1) := by decide +kernel
theorem dX6_scout_33 : decode cX6_scout 33 = .ok (.tableswitch 103 0 5 #[39, 42, 47, 52, 62, 74], 39) := by decide +kernel
theorem dX6_scout_72 : decode cX6_scout 72 = .ok (.iload 4, 2) := by decide +kernel
theorem dX6_scout_74 : decode cX6_scout 74 = .ok (.ireturn, 1) := by decide +kernel
theorem dX6_scout_75 : decode cX6_scout 75 = .ok (.iload_n 3, 1) := by decide +kernel
theorem dX6_scout_76 : decode cX6_scout 76 = .ok (.invokestatic 106, 3) := by decide +kernel
theorem dX6_scout_79 : decode cX6_scout 79 = .ok (.ireturn, 1) := by decide +kernel
theorem dX6_scout_80 : decode cX6_scout 80 = .ok (.iload_n 3, 1) := by decide +kernel
theorem dX6_scout_81 : decode cX6_scout 81 = .ok (.invokestatic 109, 3) := by decide +kernel
theorem dX6_scout_84 : decode cX6_scout 84 = .ok (.ireturn, 1) := by decide +kernel
theorem dX6_scout_85 : decode cX6_scout 85 = .ok (.aload_n 0, 1) := by decide +kernel
theorem dX6_scout_86 : decode cX6_scout 86 = .ok (.getfield 12, 3) := by decide +kernel
theorem dX6_scout_89 : decode cX6_scout 89 = .ok (.getfield 189, 3) := by decide +kernel
theorem dX6_scout_92 : decode cX6_scout 92 = .ok (.iload_n 1, 1) := by decide +kernel
theorem dX6_scout_93 : decode cX6_scout 93 = .ok (.iaload, 1) := by decide +kernel
theorem dX6_scout_94 : decode cX6_scout 94 = .ok (.ireturn, 1) := by decide +kernel
theorem dX6_scout_95 : decode cX6_scout 95 = .ok (.aload_n 0, 1) := by decide +kernel
theorem dX6_scout_96 : decode cX6_scout 96 = .ok (.getfield 19, 3) := by decide +kernel
theorem dX6_scout_99 : decode cX6_scout 99 = .ok (.iload_n 1, 1) := by decide +kernel
theorem dX6_scout_100 : decode cX6_scout 100 = .ok (.invokestatic 192, 3) := by decide +kernel
theorem dX6_scout_103 : decode cX6_scout 103 = .ok (.invokevirtual 174, 3) := by decide +kernel
theorem dX6_scout_106 : decode cX6_scout 106 = .ok (.ireturn, 1) := by decide +kernel
theorem dX6_scout_107 : decode cX6_scout 107 = .ok (.aload_n 0, 1) := by decide +kernel
theorem dX6_scout_108 : decode cX6_scout 108 = .ok (.getfield 19, 3) := by decide +kernel
theorem dX6_scout_111 : decode cX6_scout 111 = .ok (.iload_n 3, 1) := by decide +kernel
theorem dX6_scout_112 : decode cX6_scout 112 = .ok (.aload_n 0, 1) := by decide +kernel
theorem dX6_scout_113 : decode cX6_scout 113 = .ok (.getfield 12, 3) := by decide +kernel
theorem dX6_scout_116 : decode cX6_scout 116 = .ok (.iload 4, 2) := by decide +kernel
theorem dX6_scout_118 : decode cX6_scout 118 = .ok (.invokestatic 195, 3) := by decide +kernel
theorem dX6_scout_121 : decode cX6_scout 121 = .ok (.invokevirtual 171, 3) := by decide +kernel
theorem dX6_scout_124 : decode cX6_scout 124 = .ok (.invokevirtual 198, 3) := by decide +kernel
theorem dX6_scout_127 : decode cX6_scout 127 = .ok (.ifCond .eq 7, 3) := by decide +kernel
theorem dX6_scout_130 : decode cX6_scout 130 = .ok (.iconst 1, 1) := by decide +kernel
theorem dX6_scout_131 : decode cX6_scout 131 = .ok (.goto 4, 3) := by decide +kernel
theorem dX6_scout_134 : decode cX6_scout 134 = .ok (.iconst 0, 1) := by decide +kernel
theorem dX6_scout_135 : decode cX6_scout 135 = .ok (.ireturn, 1) := by decide +kernel
theorem dX6_scout_136 : decode cX6_scout 136 = .ok (.bipush (-11), 2) := by decide +kernel
theorem dX6_scout_138 : decode cX6_scout 138 = .ok (.ireturn, 1) := by decide +kernel
theorem dX6_light_0 : decode cX6_light 0 = .ok (.aload_n 0, 1) := by decide +kernel
theorem dX6_light_1 : decode cX6_light 1 = .ok (.iload_n 1, 1) := by decide +kernel
theorem dX6_light_2 : decode cX6_light 2 = .ok (.invokevirtual 137, 3) := by decide +kernel
theorem dX6_light_5 : decode cX6_light 5 = .ok (.ifCond .ne 6, 3) := by decide +kernel
theorem dX6_light_8 : decode cX6_light 8 = .ok (.bipush (-11), 2) := by decide +kernel
theorem dX6_light_10 : decode cX6_light 10 = .ok (.ireturn, 1) := by decide +kernel
theorem dX6_light_11 : decode cX6_light 11 = .ok (.iload_n 2, 1) := by decide +kernel
theorem dX6_light_12 : decode cX6_light 12 = .ok (.tableswitch 78 0 3 #[32, 45, 58, 68], 32) := by decide +kernel
theorem dX6_light_44 : decode cX6_light 44 = .ok (.aload_n 0, 1) := by decide +kernel
theorem dX6_light_45 : decode cX6_light 45 = .ok (.getfield 12, 3) := by decide +kernel
theorem dX6_light_48 : decode cX6_light 48 = .ok (.getfield 201, 3) := by decide +kernel
theorem dX6_light_51 : decode cX6_light 51 = .ok (.iload_n 1, 1) := by decide +kernel
theorem dX6_light_52 : decode cX6_light 52 = .ok (.iaload, 1) := by decide +kernel
theorem dX6_light_53 : decode cX6_light 53 = .ok (.invokestatic 106, 3) := by decide +kernel
theorem dX6_light_56 : decode cX6_light 56 = .ok (.ireturn, 1) := by decide +kernel
theorem dX6_light_57 : decode cX6_light 57 = .ok (.aload_n 0, 1) := by decide +kernel
theorem dX6_light_58 : decode cX6_light 58 = .ok (.getfield 12, 3) := by decide +kernel
theorem dX6_light_61 : decode cX6_light 61 = .ok (.getfield 201, 3) := by decide +kernel
theorem dX6_light_64 : decode cX6_light 64 = .ok (.iload_n 1, 1) := by decide +kernel
theorem dX6_light_65 : decode cX6_light 65 = .ok (.iaload, 1) := by decide +kernel
theorem dX6_light_66 : decode cX6_light 66 = .ok (.invokestatic 109, 3) := by decide +kernel
theorem dX6_light_69 : decode cX6_light 69 = .ok (.ireturn, 1) := by decide +kernel
theorem dX6_light_70 : decode cX6_light 70 = .ok (.aload_n 0, 1) := by decide +kernel
theorem dX6_light_71 : decode cX6_light 71 = .ok (.getfield 12, 3) := by decide +kernel
theorem dX6_light_74 : decode cX6_light 74 = .ok (.getfield 204, 3) := by decide +kernel
theorem dX6_light_77 : decode cX6_light 77 = .ok (.iload_n 1, 1) := by decide +kernel
theorem dX6_light_78 : decode cX6_light 78 = .ok (.iaload, 1) := by decide +kernel
theorem dX6_light_79 : decode cX6_light 79 = .ok (.ireturn, 1) := by decide +kernel
theorem dX6_light_80 : decode cX6_light 80 = .ok (.aload_n 0, 1) := by decide +kernel
theorem dX6_light_81 : decode cX6_light 81 = .ok (.getfield 12, 3) := by decide +kernel
theorem dX6_light_84 : decode cX6_light 84 = .ok (.getfield 140, 3) := by decide +kernel
theorem dX6_light_87 : decode cX6_light 87 = .ok (.iload_n 1, 1) := by decide +kernel
theorem dX6_light_88 : decode cX6_light 88 = .ok (.iaload, 1) := by decide +kernel
theorem dX6_light_89 : decode cX6_light 89 = .ok (.ireturn, 1) := by decide +kernel
theorem dX6_light_90 : decode cX6_light 90 = .ok (.bipush (-11), 2) := by decide +kernel
theorem dX6_light_92 : decode cX6_light 92 = .ok (.ireturn, 1) := by decide +kernel
theorem dX6_known_0 : decode cX6_known 0 = .ok (.iload_n 1, 1) := by decide +kernel
theorem dX6_known_1 : decode cX6_known 1 = .ok (.iconst 0, 1) := by decide +kernel
theorem dX6_known_2 : decode cX6_known 2 = .ok (.iconst 1, 1) := by decide +kernel
theorem dX6_known_3 : decode cX6_known 3 = .ok (.invokestatic 48, 3) := by decide +kernel
theorem dX6_known_6 : decode cX6_known 6 = .ok (.ifCond .eq 11, 3) := by decide +kernel
theorem dX6_known_9 : decode cX6_known 9 = .ok (.iload_n 2, 1) := by decide +kernel
theorem dX6_known_10 : decode cX6_known 10 = .ok (.iload_n 3, 1) := by decide +kernel
theorem dX6_known_11 : decode cX6_known 11 = .ok (.invokestatic 44, 3) := by decide +kernel
theorem dX6_known_14 : decode cX6_known 14 = .ok (.ifCond .ne 6, 3) := by decide +kernel
theorem dX6_known_17 : decode cX6_known 17 = .ok (.bipush (-11), 2) := by decide +kernel
theorem dX6_known_19 : decode cX6_known 19 = .ok (.ireturn, 1) := by decide +kernel
theorem dX6_known_20 : decode cX6_known 20 = .ok (.iload_n 2, 1) := by decide +kernel
theorem dX6_known_21 : decode cX6_known 21 = .ok (.iload_n 3, 1) := by decide +kernel
theorem dX6_known_22 : decode cX6_known 22 = .ok (.invokestatic 52, 3) := by decide +kernel
theorem dX6_known_25 : decode cX6_known 25 = .ok (.istore 5, 2) := by decide +kernel
theorem dX6_known_27 : decode cX6_known 27 = .ok (.aload_n 0, 1) := by decide +kernel
theorem dX6_known_28 : decode cX6_known 28 = .ok (.getfield 12, 3) := by decide +kernel
theorem dX6_known_31 : decode cX6_known 31 = .ok (.getfield 177, 3) := by decide +kernel
theorem dX6_known_34 : decode cX6_known 34 = .ok (.iload_n 1, 1) := by decide +kernel
theorem dX6_known_35 : decode cX6_known 35 = .ok (.aaload, 1) := by decide +kernel
theorem dX6_known_36 : decode cX6_known 36 = .ok (.astore 6, 2) := by decide +kernel
theorem dX6_known_38 : decode cX6_known 38 = .ok (.aload 6, 2) := by decide +kernel
theorem dX6_known_40 : decode cX6_known 40 = .ok (.getfield 207, 3) := by decide +kernel
theorem dX6_known_43 : decode cX6_known 43 = .ok (.iload 5, 2) := by decide +kernel
theorem dX6_known_45 : decode cX6_known 45 = .ok (.iaload, 1) := by decide +kernel
theorem dX6_known_46 : decode cX6_known 46 = .ok (.ifCond .ne 7, 3) := by decide +kernel
theorem dX6_known_49 : decode cX6_known 49 = .ok (.iconst 1, 1) := by decide +kernel
theorem dX6_known_50 : decode cX6_known 50 = .ok (.goto 4, 3) := by decide +kernel
theorem dX6_known_53 : decode cX6_known 53 = .ok (.iconst 0, 1) := by decide +kernel
theorem dX6_known_54 : decode cX6_known 54 = .ok (.istore 7, 2) := by decide +kernel
theorem dX6_known_56 : decode cX6_known 56 = .ok (.iload 4, 2) := by decide +kernel
theorem dX6_known_58 : decode cX6_known 58 = .ok (.tableswitch 126 0 4 #[34, 43, 62, 81, 100], 34) := by decide +kernel
theorem dX6_known_92 : decode cX6_known 92 = .ok (.aload 6, 2) := by decide +kernel
theorem dX6_known_94 : decode cX6_known 94 = .ok (.getfield 207, 3) := by decide +kernel
theorem dX6_known_97 : decode cX6_known 97 = .ok (.iload 5, 2) := by decide +kernel
theorem dX6_known_99 : decode cX6_known 99 = .ok (.iaload, 1) := by decide +kernel
theorem dX6_known_100 : decode cX6_known 100 = .ok (.ireturn, 1) := by decide +kernel
theorem dX6_known_101 : decode cX6_known 101 = .ok (.iload 7, 2) := by decide +kernel
theorem dX6_known_103 : decode cX6_known 103 = .ok (.ifCond .eq 8, 3) := by decide +kernel
theorem dX6_known_106 : decode cX6_known 106 = .ok (.bipush (-19), 2) := by decide +kernel
theorem dX6_known_108 : decode cX6_known 108 = .ok (.goto 11, 3) := by decide +kernel
theorem dX6_known_111 : decode cX6_known 111 = .ok (.aload 6, 2) := by decide +kernel
theorem dX6_known_113 : decode cX6_known 113 = .ok (.getfield 210, 3) := by decide +kernel
theorem dX6_known_116 : decode cX6_known 116 = .ok (.iload 5, 2) := by decide +kernel
theorem dX6_known_118 : decode cX6_known 118 = .ok (.iaload, 1) := by decide +kernel
theorem dX6_known_119 : decode cX6_known 119 = .ok (.ireturn, 1) := by decide +kernel
theorem dX6_known_120 : decode cX6_known 120 = .ok (.iload 7, 2) := by decide +kernel
theorem dX6_known_122 : decode cX6_known 122 = .ok (.ifCond .eq 8, 3) := by decide +kernel
theorem dX6_known_125 : decode cX6_known 125 = .ok (.bipush (-19), 2) := by decide +kernel
theorem dX6_known_127 : decode cX6_known 127 = .ok (.goto 11, 3) := by decide +kernel
theorem dX6_known_130 : decode cX6_known 130 = .ok (.aload 6, 2) := by decide +kernel
theorem dX6_known_132 : decode cX6_known 132 = .ok (.getfield 211, 3) := by decide +kernel
theorem dX6_known_135 : decode cX6_known 135 = .ok (.iload 5, 2) := by decide +kernel
theorem dX6_known_137 : decode cX6_known 137 = .ok (.iaload, 1) := by decide +kernel
theorem dX6_known_138 : decode cX6_known 138 = .ok (.ireturn, 1) := by decide +kernel
theorem dX6_known_139 : decode cX6_known 139 = .ok (.iload 7, 2) := by decide +kernel
theorem dX6_known_141 : decode cX6_known 141 = .ok (.ifCond .eq 8, 3) := by decide +kernel
theorem dX6_known_144 : decode cX6_known 144 = .ok (.bipush (-19), 2) := by decide +kernel
theorem dX6_known_146 : decode cX6_known 146 = .ok (.goto 11, 3) := by decide +kernel
theorem dX6_known_149 : decode cX6_known 149 = .ok (.aload 6, 2) := by decide +kernel
theorem dX6_known_151 : decode cX6_known 151 = .ok (.getfield 212, 3) := by decide +kernel
theorem dX6_known_154 : decode cX6_known 154 = .ok (.iload 5, 2) := by decide +kernel
theorem dX6_known_156 : decode cX6_known 156 = .ok (.iaload, 1) := by decide +kernel
theorem dX6_known_157 : decode cX6_known 157 = .ok (.ireturn, 1) := by decide +kernel
theorem dX6_known_158 : decode cX6_known 158 = .ok (.aload_n 0, 1) := by decide +kernel
theorem dX6_known_159 : decode cX6_known 159 = .ok (.getfield 19, 3) := by decide +kernel
theorem dX6_known_162 : decode cX6_known 162 = .ok (.iload 5, 2) := by decide +kernel
theorem dX6_known_164 : decode cX6_known 164 = .ok (.aload_n 0, 1) := by decide +kernel
theorem dX6_known_165 : decode cX6_known 165 = .ok (.getfield 12, 3) := by decide +kernel
theorem dX6_known_168 : decode cX6_known 168 = .ok (.iload_n 1, 1) := by decide +kernel
theorem dX6_known_169 : decode cX6_known 169 = .ok (.invokevirtual 171, 3) := by decide +kernel
theorem dX6_known_172 : decode cX6_known 172 = .ok (.invokevirtual 198, 3) := by decide +kernel
theorem dX6_known_175 : decode cX6_known 175 = .ok (.ifCond .eq 7, 3) := by decide +kernel
theorem dX6_known_178 : decode cX6_known 178 = .ok (.iconst 1, 1) := by decide +kernel
theorem dX6_known_179 : decode cX6_known 179 = .ok (.goto 4, 3) := by decide +kernel
theorem dX6_known_182 : decode cX6_known 182 = .ok (.iconst 0, 1) := by decide +kernel
theorem dX6_known_183 : decode cX6_known 183 = .ok (.ireturn, 1) := by decide +kernel
theorem dX6_known_184 : decode cX6_known 184 = .ok (.bipush (-11), 2) := by decide +kernel
theorem dX6_known_186 : decode cX6_known 186 = .ok (.ireturn, 1) := by decide +kernel
theorem dX6_way_0 : decode cX6_way 0 = .ok (.aload_n 0, 1) := by decide +kernel
theorem dX6_way_1 : decode cX6_way 1 = .ok (.iload_n 1, 1) := by decide +kernel
theorem dX6_way_2 : decode cX6_way 2 = .ok (.invokevirtual 100, 3) := by decide +kernel
theorem dX6_way_5 : decode cX6_way 5 = .ok (.ifCond .eq 11, 3) := by decide +kernel
theorem dX6_way_8 : decode cX6_way 8 = .ok (.iload_n 2, 1) := by decide +kernel
theorem dX6_way_9 : decode cX6_way 9 = .ok (.iload_n 3, 1) := by decide +kernel
theorem dX6_way_10 : decode cX6_way 10 = .ok (.invokestatic 44, 3) := by decide +kernel
theorem dX6_way_13 : decode cX6_way 13 = .ok (.ifCond .ne 6, 3) := by decide +kernel
theorem dX6_way_16 : decode cX6_way 16 = .ok (.bipush (-11), 2) := by decide +kernel
theorem dX6_way_18 : decode cX6_way 18 = .ok (.ireturn, 1) := by decide +kernel
theorem dX6_way_19 : decode cX6_way 19 = .ok (.aload_n 0, 1) := by decide +kernel
theorem dX6_way_20 : decode cX6_way 20 = .ok (.getfield 12, 3) := by decide +kernel
theorem dX6_way_23 : decode cX6_way 23 = .ok (.getfield 177, 3) := by decide +kernel
theorem dX6_way_26 : decode cX6_way 26 = .ok (.aload_n 0, 1) := by decide +kernel
theorem dX6_way_27 : decode cX6_way 27 = .ok (.getfield 12, 3) := by decide +kernel
theorem dX6_way_30 : decode cX6_way 30 = .ok (.getfield 118, 3) := by decide +kernel
theorem dX6_way_33 : decode cX6_way 33 = .ok (.iload_n 1, 1) := by decide +kernel
theorem dX6_way_34 : decode cX6_way 34 = .ok (.iaload, 1) := by decide +kernel
theorem dX6_way_35 : decode cX6_way 35 = .ok (.aaload, 1) := by decide +kernel
theorem dX6_way_36 : decode cX6_way 36 = .ok (.astore 4, 2) := by decide +kernel
theorem dX6_way_38 : decode cX6_way 38 = .ok (.aload_n 0, 1) := by decide +kernel
theorem dX6_way_39 : decode cX6_way 39 = .ok (.getfield 40, 3) := by decide +kernel
theorem dX6_way_42 : decode cX6_way 42 = .ok (.aload 4, 2) := by decide +kernel
theorem dX6_way_44 : decode cX6_way 44 = .ok (.aload_n 0, 1) := by decide +kernel
theorem dX6_way_45 : decode cX6_way 45 = .ok (.getfield 12, 3) := by decide +kernel
theorem dX6_way_48 : decode cX6_way 48 = .ok (.getfield 103, 3) := by decide +kernel
theorem dX6_way_51 : decode cX6_way 51 = .ok (.iload_n 1, 1) := by decide +kernel
theorem dX6_way_52 : decode cX6_way 52 = .ok (.iaload, 1) := by decide +kernel
theorem dX6_way_53 : decode cX6_way 53 = .ok (.iload_n 2, 1) := by decide +kernel
theorem dX6_way_54 : decode cX6_way 54 = .ok (.iload_n 3, 1) := by decide +kernel
theorem dX6_way_55 : decode cX6_way 55 = .ok (.invokestatic 52, 3) := by decide +kernel
theorem dX6_way_58 : decode cX6_way 58 = .ok (.invokevirtual 219, 3) := by decide +kernel
theorem dX6_way_61 : decode cX6_way 61 = .ok (.ireturn, 1) := by decide +kernel
theorem dX6_lookout_0 : decode cX6_lookout 0 = .ok (.aload_n 0, 1) := by decide +kernel
theorem dX6_lookout_1 : decode cX6_lookout 1 = .ok (.iload_n 1, 1) := by decide +kernel
theorem dX6_lookout_2 : decode cX6_lookout 2 = .ok (.invokevirtual 100, 3) := by decide +kernel
theorem dX6_lookout_5 : decode cX6_lookout 5 = .ok (.ifCond .eq 13, 3) := by decide +kernel
theorem dX6_lookout_8 : decode cX6_lookout 8 = .ok (.iload_n 2, 1) := by decide +kernel
theorem dX6_lookout_9 : decode cX6_lookout 9 = .ok (.iconst 0, 1) := by decide +kernel
theorem dX6_lookout_10 : decode cX6_lookout 10 = .ok (.bipush 11, 2) := by decide +kernel
theorem dX6_lookout_12 : decode cX6_lookout 12 = .ok (.invokestatic 48, 3) := by decide +kernel
theorem dX6_lookout_15 : decode cX6_lookout 15 = .ok (.ifCond .ne 6, 3) := by decide +kernel
theorem dX6_lookout_18 : decode cX6_lookout 18 = .ok (.bipush (-11), 2) := by decide +kernel
theorem dX6_lookout_20 : decode cX6_lookout 20 = .ok (.ireturn, 1) := by decide +kernel
theorem dX6_lookout_21 : decode cX6_lookout 21 = .ok (.aload_n 0, 1) := by decide +kernel
theorem dX6_lookout_22 : decode cX6_lookout 22 = .ok (.getfield 12, 3) := by decide +kernel
theorem dX6_lookout_25 : decode cX6_lookout 25 = .ok (.getfield 103, 3) := by decide +kernel
theorem dX6_lookout_28 : decode cX6_lookout 28 = .ok (.iload_n 1, 1) := by decide +kernel
theorem dX6_lookout_29 : decode cX6_lookout 29 = .ok (.iaload, 1) := by decide +kernel
theorem dX6_lookout_30 : decode cX6_lookout 30 = .ok (.istore_n 3, 1) := by decide +kernel
theorem dX6_lookout_31 : decode cX6_lookout 31 = .ok (.iload_n 3, 1) := by decide +kernel
theorem dX6_lookout_32 : decode cX6_lookout 32 = .ok (.istore 4, 2) := by decide +kernel
theorem dX6_lookout_34 : decode cX6_lookout 34 = .ok (.iconst 0, 1) := by decide +kernel
theorem dX6_lookout_35 : decode cX6_lookout 35 = .ok (.istore 5, 2) := by decide +kernel
theorem dX6_lookout_37 : decode cX6_lookout 37 = .ok (.iconst 0, 1) := by decide +kernel
theorem dX6_lookout_38 : decode cX6_lookout 38 = .ok (.istore 6, 2) := by decide +kernel
theorem dX6_lookout_40 : decode cX6_lookout 40 = .ok (.iload 6, 2) := by decide +kernel
theorem dX6_lookout_42 : decode cX6_lookout 42 = .ok (.bipush 12, 2) := by decide +kernel
theorem dX6_lookout_44 : decode cX6_lookout 44 = .ok (.if_icmp .ge 101, 3) := by decide +kernel
theorem dX6_lookout_47 : decode cX6_lookout 47 = .ok (.iconst 0, 1) := by decide +kernel
theorem dX6_lookout_48 : decode cX6_lookout 48 = .ok (.istore 7, 2) := by decide +kernel
theorem dX6_lookout_50 : decode cX6_lookout 50 = .ok (.iload 7, 2) := by decide +kernel
theorem dX6_lookout_52 : decode cX6_lookout 52 = .ok (.bipush 10, 2) := by decide +kernel
theorem dX6_lookout_54 : decode cX6_lookout 54 = .ok (.if_icmp .ge 85, 3) := by decide +kernel
theorem dX6_lookout_57 : decode cX6_lookout 57 = .ok (.iload 6, 2) := by decide +kernel
theorem dX6_lookout_59 : decode cX6_lookout 59 = .ok (.iload 7, 2) := by decide +kernel
theorem dX6_lookout_61 : decode cX6_lookout 61 = .ok (.invokestatic 52, 3) := by decide +kernel
theorem dX6_lookout_64 : decode cX6_lookout 64 = .ok (.istore 8, 2) := by decide +kernel
theorem dX6_lookout_66 : decode cX6_lookout 66 = .ok (.iload_n 3, 1) := by decide +kernel
theorem dX6_lookout_67 : decode cX6_lookout 67 = .ok (.iload 8, 2) := by decide +kernel
theorem dX6_lookout_69 : decode cX6_lookout 69 = .ok (.invokestatic 223, 3) := by decide +kernel
theorem dX6_lookout_72 : decode cX6_lookout 72 = .ok (.iload_n 2, 1) := by decide +kernel
theorem dX6_lookout_73 : decode cX6_lookout 73 = .ok (.if_icmp .gt 60, 3) := by decide +kernel
theorem dX6_lookout_76 : decode cX6_lookout 76 = .ok (.iload 8, 2) := by decide +kernel
theorem dX6_lookout_78 : decode cX6_lookout 78 = .ok (.iload_n 3, 1) := by decide +kernel
theorem dX6_lookout_79 : decode cX6_lookout 79 = .ok (.if_icmp .eq 15, 3) := by decide +kernel
theorem dX6_lookout_82 : decode cX6_lookout 82 = .ok (.aload_n 0, 1) := by decide +kernel
theorem dX6_lookout_83 : decode cX6_lookout 83 = .ok (.getfield 12, 3) := by decide +kernel
theorem dX6_lookout_86 : decode cX6_lookout 86 = .ok (.iload 8, 2) := by decide +kernel
theorem dX6_lookout_88 : decode cX6_lookout 88 = .ok (.invokevirtual 89, 3) := by decide +kernel
theorem dX6_lookout_91 : decode cX6_lookout 91 = .ok (.ifCond .eq 42, 3) := by decide +kernel
theorem dX6_lookout_94 : decode cX6_lookout 94 = .ok (.aload_n 0, 1) := by decide +kernel
theorem dX6_lookout_95 : decode cX6_lookout 95 = .ok (.getfield 19, 3) := by decide +kernel
theorem dX6_lookout_98 : decode cX6_lookout 98 = .ok (.aload_n 0, 1) := by decide +kernel
theorem dX6_lookout_99 : decode cX6_lookout 99 = .ok (.getfield 12, 3) := by decide +kernel
theorem dX6_lookout_102 : decode cX6_lookout 102 = .ok (.iload 8, 2) := by decide +kernel
theorem dX6_lookout_104 : decode cX6_lookout 104 = .ok (.aload_n 0, 1) := by decide +kernel
theorem dX6_lookout_105 : decode cX6_lookout 105 = .ok (.getfield 12, 3) := by decide +kernel
theorem dX6_lookout_108 : decode cX6_lookout 108 = .ok (.getfield 189, 3) := by decide +kernel
theorem dX6_lookout_111 : decode cX6_lookout 111 = .ok (.iload_n 1, 1) := by decide +kernel
theorem dX6_lookout_112 : decode cX6_lookout 112 = .ok (.iaload, 1) := by decide +kernel
theorem dX6_lookout_113 : decode cX6_lookout 113 = .ok (.invokevirtual 226, 3) := by decide +kernel
theorem dX6_lookout_116 : decode cX6_lookout 116 = .ok (.istore 9, 2) := by decide +kernel
theorem dX6_lookout_118 : decode cX6_lookout 118 = .ok (.iload 9, 2) := by decide +kernel
theorem dX6_lookout_120 : decode cX6_lookout 120 = .ok (.iload 5, 2) := by decide +kernel
theorem dX6_lookout_122 : decode cX6_lookout 122 = .ok (.if_icmp .le 11, 3) := by decide +kernel
theorem dX6_lookout_125 : decode cX6_lookout 125 = .ok (.iload 9, 2) := by decide +kernel
theorem dX6_lookout_127 : decode cX6_lookout 127 = .ok (.istore 5, 2) := by decide +kernel
theorem dX6_lookout_129 : decode cX6_lookout 129 = .ok (.iload 8, 2) := by decide +kernel
theorem dX6_lookout_131 : decode cX6_lookout 131 = .ok (.istore 4, 2) := by decide +kernel
theorem dX6_lookout_133 : decode cX6_lookout 133 = .ok (.iinc 7 1, 3) := by decide +kernel
theorem dX6_lookout_136 : decode cX6_lookout 136 = .ok (.goto (-86), 3) := by decide +kernel
theorem dX6_lookout_139 : decode cX6_lookout 139 = .ok (.iinc 6 1, 3) := by decide +kernel
theorem dX6_lookout_142 : decode cX6_lookout 142 = .ok (.goto (-102), 3) := by decide +kernel
theorem dX6_lookout_145 : decode cX6_lookout 145 = .ok (.bipush 100, 2) := by decide +kernel
theorem dX6_lookout_147 : decode cX6_lookout 147 = .ok (.iload 4, 2) := by decide +kernel
theorem dX6_lookout_149 : decode cX6_lookout 149 = .ok (.invokestatic 106, 3) := by decide +kernel
theorem dX6_lookout_152 : decode cX6_lookout 152 = .ok (.imul, 1) := by decide +kernel
theorem dX6_lookout_153 : decode cX6_lookout 153 = .ok (.iload 4, 2) := by decide +kernel
theorem dX6_lookout_155 : decode cX6_lookout 155 = .ok (.invokestatic 109, 3) := by decide +kernel
theorem dX6_lookout_158 : decode cX6_lookout 158 = .ok (.iadd, 1) := by decide +kernel
theorem dX6_lookout_159 : decode cX6_lookout 159 = .ok (.ireturn, 1) := by decide +kernel
theorem dX6_alone_0 : decode cX6_alone 0 = .ok (.aload_n 0, 1) := by decide +kernel
theorem dX6_alone_1 : decode cX6_alone 1 = .ok (.iload_n 1, 1) := by decide +kernel
theorem dX6_alone_2 : decode cX6_alone 2 = .ok (.invokevirtual 100, 3) := by decide +kernel
theorem dX6_alone_5 : decode cX6_alone 5 = .ok (.ifCond .ne 6, 3) := by decide +kernel
theorem dX6_alone_8 : decode cX6_alone 8 = .ok (.bipush (-11), 2) := by decide +kernel
theorem dX6_alone_10 : decode cX6_alone 10 = .ok (.ireturn, 1) := by decide +kernel
theorem dX6_alone_11 : decode cX6_alone 11 = .ok (.aload_n 0, 1) := by decide +kernel
theorem dX6_alone_12 : decode cX6_alone 12 = .ok (.getfield 12, 3) := by decide +kernel
theorem dX6_alone_15 : decode cX6_alone 15 = .ok (.aload_n 0, 1) := by decide +kernel
theorem dX6_alone_16 : decode cX6_alone 16 = .ok (.getfield 12, 3) := by decide +kernel
theorem dX6_alone_19 : decode cX6_alone 19 = .ok (.getfield 118, 3) := by decide +kernel
theorem dX6_alone_22 : decode cX6_alone 22 = .ok (.iload_n 1, 1) := by decide +kernel
theorem dX6_alone_23 : decode cX6_alone 23 = .ok (.iaload, 1) := by decide +kernel
theorem dX6_alone_24 : decode cX6_alone 24 = .ok (.invokevirtual 171, 3) := by decide +kernel
theorem dX6_alone_27 : decode cX6_alone 27 = .ok (.istore_n 2, 1) := by decide +kernel
theorem dX6_alone_28 : decode cX6_alone 28 = .ok (.iconst 0, 1) := by decide +kernel
theorem dX6_alone_29 : decode cX6_alone 29 = .ok (.istore_n 3, 1) := by decide +kernel
theorem dX6_alone_30 : decode cX6_alone 30 = .ok (.iconst 0, 1) := by decide +kernel
theorem dX6_alone_31 : decode cX6_alone 31 = .ok (.istore 4, 2) := by decide +kernel
theorem dX6_alone_33 : decode cX6_alone 33 = .ok (.iload 4, 2) := by decide +kernel
theorem dX6_alone_35 : decode cX6_alone 35 = .ok (.bipush 120, 2) := by decide +kernel
theorem dX6_alone_37 : decode cX6_alone 37 = .ok (.if_icmp .ge 31, 3) := by decide +kernel
theorem dX6_alone_40 : decode cX6_alone 40 = .ok (.aload_n 0, 1) := by decide +kernel
theorem dX6_alone_41 : decode cX6_alone 41 = .ok (.getfield 19, 3) := by decide +kernel
theorem dX6_alone_44 : decode cX6_alone 44 = .ok (.getfield 230, 3) := by decide +kernel
theorem dX6_alone_47 : decode cX6_alone 47 = .ok (.iload 4, 2) := by decide +kernel
theorem dX6_alone_49 : decode cX6_alone 49 = .ok (.iaload, 1) := by decide +kernel
theorem dX6_alone_50 : decode cX6_alone 50 = .ok (.iload_n 2, 1) := by decide +kernel
theorem dX6_alone_51 : decode cX6_alone 51 = .ok (.iand, 1) := by decide +kernel
theorem dX6_alone_52 : decode cX6_alone 52 = .ok (.iload_n 1, 1) := by decide +kernel
theorem dX6_alone_53 : decode cX6_alone 53 = .ok (.invokestatic 192, 3) := by decide +kernel
theorem dX6_alone_56 : decode cX6_alone 56 = .ok (.if_icmp .ne 6, 3) := by decide +kernel
theorem dX6_alone_59 : decode cX6_alone 59 = .ok (.iinc 3 1, 3) := by decide +kernel
theorem dX6_alone_62 : decode cX6_alone 62 = .ok (.iinc 4 1, 3) := by decide +kernel
theorem dX6_alone_65 : decode cX6_alone 65 = .ok (.goto (-32), 3) := by decide +kernel
theorem dX6_alone_68 : decode cX6_alone 68 = .ok (.iload_n 3, 1) := by decide +kernel
theorem dX6_alone_69 : decode cX6_alone 69 = .ok (.ireturn, 1) := by decide +kernel
theorem dX6_look_0 : decode cX6_look 0 = .ok (.aload_n 0, 1) := by decide +kernel
theorem dX6_look_1 : decode cX6_look 1 = .ok (.getfield 19, 3) := by decide +kernel
theorem dX6_look_4 : decode cX6_look 4 = .ok (.aload_n 0, 1) := by decide +kernel
theorem dX6_look_5 : decode cX6_look 5 = .ok (.getfield 12, 3) := by decide +kernel
theorem dX6_look_8 : decode cX6_look 8 = .ok (.invokevirtual 115, 3) := by decide +kernel
theorem dX6_look_11 : decode cX6_look 11 = .ok (.aload_n 0, 1) := by decide +kernel
theorem dX6_look_12 : decode cX6_look 12 = .ok (.getfield 12, 3) := by decide +kernel
theorem dX6_look_15 : decode cX6_look 15 = .ok (.aload_n 0, 1) := by decide +kernel
theorem dX6_look_16 : decode cX6_look 16 = .ok (.getfield 19, 3) := by decide +kernel
theorem dX6_look_19 : decode cX6_look 19 = .ok (.invokevirtual 124, 3) := by decide +kernel
theorem dX6_look_22 : decode cX6_look 22 = .ok (.return_, 1) := by decide +kernel
theorem dX6_passTurn_0 : decode cX6_passTurn 0 = .ok (.aload_n 0, 1) := by decide +kernel
theorem dX6_passTurn_1 : decode cX6_passTurn 1 = .ok (.getfield 12, 3) := by decide +kernel
theorem dX6_passTurn_4 : decode cX6_passTurn 4 = .ok (.invokevirtual 233, 3) := by decide +kernel
theorem dX6_passTurn_7 : decode cX6_passTurn 7 = .ok (.istore_n 1, 1) := by decide +kernel
theorem dX6_passTurn_8 : decode cX6_passTurn 8 = .ok (.aload_n 0, 1) := by decide +kernel
theorem dX6_passTurn_9 : decode cX6_passTurn 9 = .ok (.getfield 12, 3) := by decide +kernel
theorem dX6_passTurn_12 : decode cX6_passTurn 12 = .ok (.dup, 1) := by decide +kernel
theorem dX6_passTurn_13 : decode cX6_passTurn 13 = .ok (.getfield 168, 3) := by decide +kernel
theorem dX6_passTurn_16 : decode cX6_passTurn 16 = .ok (.iconst 1, 1) := by decide +kernel
theorem dX6_passTurn_17 : decode cX6_passTurn 17 = .ok (.iadd, 1) := by decide +kernel
theorem dX6_passTurn_18 : decode cX6_passTurn 18 = .ok (.putfield 168, 3) := by decide +kernel
theorem dX6_passTurn_21 : decode cX6_passTurn 21 = .ok (.aload_n 0, 1) := by decide +kernel
theorem dX6_passTurn_22 : decode cX6_passTurn 22 = .ok (.getfield 12, 3) := by decide +kernel
theorem dX6_passTurn_25 : decode cX6_passTurn 25 = .ok (.invokevirtual 236, 3) := by decide +kernel
theorem dX6_passTurn_28 : decode cX6_passTurn 28 = .ok (.iload_n 1, 1) := by decide +kernel
theorem dX6_passTurn_29 : decode cX6_passTurn 29 = .ok (.ifCond .le 14, 3) := by decide +kernel
theorem dX6_passTurn_32 : decode cX6_passTurn 32 = .ok (.aload_n 0, 1) := by decide +kernel
theorem dX6_passTurn_33 : decode cX6_passTurn 33 = .ok (.getfield 19, 3) := by decide +kernel
theorem dX6_passTurn_36 : decode cX6_passTurn 36 = .ok (.aload_n 0, 1) := by decide +kernel
theorem dX6_passTurn_37 : decode cX6_passTurn 37 = .ok (.getfield 12, 3) := by decide +kernel
theorem dX6_passTurn_40 : decode cX6_passTurn 40 = .ok (.invokevirtual 115, 3) := by decide +kernel
theorem dX6_passTurn_43 : decode cX6_passTurn 43 = .ok (.aload_n 0, 1) := by decide +kernel
theorem dX6_passTurn_44 : decode cX6_passTurn 44 = .ok (.getfield 12, 3) := by decide +kernel
theorem dX6_passTurn_47 : decode cX6_passTurn 47 = .ok (.aload_n 0, 1) := by decide +kernel
theorem dX6_passTurn_48 : decode cX6_passTurn 48 = .ok (.getfield 19, 3) := by decide +kernel
theorem dX6_passTurn_51 : decode cX6_passTurn 51 = .ok (.invokevirtual 124, 3) := by decide +kernel
theorem dX6_passTurn_54 : decode cX6_passTurn 54 = .ok (.iload_n 1, 1) := by decide +kernel
theorem dX6_passTurn_55 : decode cX6_passTurn 55 = .ok (.ireturn, 1) := by decide +kernel
theorem dX6_canStep_0 : decode cX6_canStep 0 = .ok (.aload_n 0, 1) := by decide +kernel
theorem dX6_canStep_1 : decode cX6_canStep 1 = .ok (.getfield 12, 3) := by decide +kernel
theorem dX6_canStep_4 : decode cX6_canStep 4 = .ok (.iload_n 2, 1) := by decide +kernel
theorem dX6_canStep_5 : decode cX6_canStep 5 = .ok (.invokevirtual 89, 3) := by decide +kernel
theorem dX6_canStep_8 : decode cX6_canStep 8 = .ok (.ifCond .eq 33, 3) := by decide +kernel
theorem dX6_canStep_11 : decode cX6_canStep 11 = .ok (.aload_n 0, 1) := by decide +kernel
theorem dX6_canStep_12 : decode cX6_canStep 12 = .ok (.getfield 12, 3) := by decide +kernel
theorem dX6_canStep_15 : decode cX6_canStep 15 = .ok (.getfield 56, 3) := by decide +kernel
theorem dX6_canStep_18 : decode cX6_canStep 18 = .ok (.iload_n 1, 1) := by decide +kernel
theorem dX6_canStep_19 : decode cX6_canStep 19 = .ok (.iaload, 1) := by decide +kernel
theorem dX6_canStep_20 : decode cX6_canStep 20 = .ok (.aload_n 0, 1) := by decide +kernel
theorem dX6_canStep_21 : decode cX6_canStep 21 = .ok (.getfield 12, 3) := by decide +kernel
theorem dX6_canStep_24 : decode cX6_canStep 24 = .ok (.getfield 56, 3) := by decide +kernel
theorem dX6_canStep_27 : decode cX6_canStep 27 = .ok (.iload_n 2, 1) := by decide +kernel
theorem dX6_canStep_28 : decode cX6_canStep 28 = .ok (.iaload, 1) := by decide +kernel
theorem dX6_canStep_29 : decode cX6_canStep 29 = .ok (.isub, 1) := by decide +kernel
theorem dX6_canStep_30 : decode cX6_canStep 30 = .ok (.invokestatic 239, 3) := by decide +kernel
theorem dX6_canStep_33 : decode cX6_canStep 33 = .ok (.iconst 2, 1) := by decide +kernel
theorem dX6_canStep_34 : decode cX6_canStep 34 = .ok (.if_icmp .gt 7, 3) := by decide +kernel
theorem dX6_canStep_37 : decode cX6_canStep 37 = .ok (.iconst 1, 1) := by decide +kernel
theorem dX6_canStep_38 : decode cX6_canStep 38 = .ok (.goto 4, 3) := by decide +kernel
theorem dX6_canStep_41 : decode cX6_canStep 41 = .ok (.iconst 0, 1) := by decide +kernel
theorem dX6_canStep_42 : decode cX6_canStep 42 = .ok (.ireturn, 1) := by decide +kernel
theorem dX6_countUncovered_0 : decode cX6_countUncovered 0 = .ok (.aload_n 0, 1) := by decide +kernel
theorem dX6_countUncovered_1 : decode cX6_countUncovered 1 = .ok (.getfield 12, 3) := by decide +kernel
theorem dX6_countUncovered_4 : decode cX6_countUncovered 4 = .ok (.iload_n 1, 1) := by decide +kernel
theorem dX6_countUncovered_5 : decode cX6_countUncovered 5 = .ok (.invokevirtual 171, 3) := by decide +kernel
theorem dX6_countUncovered_8 : decode cX6_countUncovered 8 = .ok (.istore_n 2, 1) := by decide +kernel
theorem dX6_countUncovered_9 : decode cX6_countUncovered 9 = .ok (.iconst 0, 1) := by decide +kernel
theorem dX6_countUncovered_10 : decode cX6_countUncovered 10 = .ok (.istore_n 3, 1) := by decide +kernel
theorem dX6_countUncovered_11 : decode cX6_countUncovered 11 = .ok (.iconst 0, 1) := by decide +kernel
theorem dX6_countUncovered_12 : decode cX6_countUncovered 12 = .ok (.istore 4, 2) := by decide +kernel
theorem dX6_countUncovered_14 : decode cX6_countUncovered 14 = .ok (.iload 4, 2) := by decide +kernel
theorem dX6_countUncovered_16 : decode cX6_countUncovered 16 = .ok (.bipush 120, 2) := by decide +kernel
theorem dX6_countUncovered_18 : decode cX6_countUncovered 18 = .ok (.if_icmp .ge 43, 3) := by decide +kernel
theorem dX6_countUncovered_21 : decode cX6_countUncovered 21 = .ok (.aload_n 0, 1) := by decide +kernel
theorem dX6_countUncovered_22 : decode cX6_countUncovered 22 = .ok (.getfield 19, 3) := by decide +kernel
theorem dX6_countUncovered_25 : decode cX6_countUncovered 25 = .ok (.iload 4, 2) := by decide +kernel
theorem dX6_countUncovered_27 : decode cX6_countUncovered 27 = .ok (.iload_n 2, 1) := by decide +kernel
theorem dX6_countUncovered_28 : decode cX6_countUncovered 28 = .ok (.invokevirtual 198, 3) := by decide +kernel
theorem dX6_countUncovered_31 : decode cX6_countUncovered 31 = .ok (.ifCond .eq 24, 3) := by decide +kernel
theorem dX6_countUncovered_34 : decode cX6_countUncovered 34 = .ok (.aload_n 0, 1) := by decide +kernel
theorem dX6_countUncovered_35 : decode cX6_countUncovered 35 = .ok (.getfield 12, 3) := by decide +kernel
theorem dX6_countUncovered_38 : decode cX6_countUncovered 38 = .ok (.getfield 177, 3) := by decide +kernel
theorem dX6_countUncovered_41 : decode cX6_countUncovered 41 = .ok (.iload_n 1, 1) := by decide +kernel
theorem dX6_countUncovered_42 : decode cX6_countUncovered 42 = .ok (.aaload, 1) := by decide +kernel
theorem dX6_countUncovered_43 : decode cX6_countUncovered 43 = .ok (.getfield 207, 3) := by decide +kernel
theorem dX6_countUncovered_46 : decode cX6_countUncovered 46 = .ok (.iload 4, 2) := by decide +kernel
theorem dX6_countUncovered_48 : decode cX6_countUncovered 48 = .ok (.iaload, 1) := by decide +kernel
theorem dX6_countUncovered_49 : decode cX6_countUncovered 49 = .ok (.ifCond .ne 6, 3) := by decide +kernel
theorem dX6_countUncovered_52 : decode cX6_countUncovered 52 = .ok (.iinc 3 1, 3) := by decide +kernel
theorem dX6_countUncovered_55 : decode cX6_countUncovered 55 = .ok (.iinc 4 1, 3) := by decide +kernel
theorem dX6_countUncovered_58 : decode cX6_countUncovered 58 = .ok (.goto (-44), 3) := by decide +kernel
theorem dX6_countUncovered_61 : decode cX6_countUncovered 61 = .ok (.iload_n 3, 1) := by decide +kernel
theorem dX6_countUncovered_62 : decode cX6_countUncovered 62 = .ok (.ireturn, 1) := by decide +kernel
theorem dX6_isScout_0 : decode cX6_isScout 0 = .ok (.iload_n 1, 1) := by decide +kernel
theorem dX6_isScout_1 : decode cX6_isScout 1 = .ok (.iconst 0, 1) := by decide +kernel
theorem dX6_isScout_2 : decode cX6_isScout 2 = .ok (.aload_n 0, 1) := by decide +kernel
theorem dX6_isScout_3 : decode cX6_isScout 3 = .ok (.getfield 12, 3) := by decide +kernel
theorem dX6_isScout_6 : decode cX6_isScout 6 = .ok (.getfield 93, 3) := by decide +kernel
theorem dX6_isScout_9 : decode cX6_isScout 9 = .ok (.iconst 1, 1) := by decide +kernel
theorem dX6_isScout_10 : decode cX6_isScout 10 = .ok (.isub, 1) := by decide +kernel
theorem dX6_isScout_11 : decode cX6_isScout 11 = .ok (.invokestatic 48, 3) := by decide +kernel
theorem dX6_isScout_14 : decode cX6_isScout 14 = .ok (.ireturn, 1) := by decide +kernel
theorem dX6_isLight_0 : decode cX6_isLight 0 = .ok (.iload_n 1, 1) := by decide +kernel
theorem dX6_isLight_1 : decode cX6_isLight 1 = .ok (.iconst 0, 1) := by decide +kernel
theorem dX6_isLight_2 : decode cX6_isLight 2 = .ok (.aload_n 0, 1) := by decide +kernel
theorem dX6_isLight_3 : decode cX6_isLight 3 = .ok (.getfield 12, 3) := by decide +kernel
theorem dX6_isLight_6 : decode cX6_isLight 6 = .ok (.getfield 131, 3) := by decide +kernel
theorem dX6_isLight_9 : decode cX6_isLight 9 = .ok (.iconst 1, 1) := by decide +kernel
theorem dX6_isLight_10 : decode cX6_isLight 10 = .ok (.isub, 1) := by decide +kernel
theorem dX6_isLight_11 : decode cX6_isLight 11 = .ok (.invokestatic 48, 3) := by decide +kernel
theorem dX6_isLight_14 : decode cX6_isLight 14 = .ok (.ireturn, 1) := by decide +kernel
theorem dX6_isWithin_0 : decode cX6_isWithin 0 = .ok (.iload_n 0, 1) := by decide +kernel
theorem dX6_isWithin_1 : decode cX6_isWithin 1 = .ok (.iload_n 1, 1) := by decide +kernel
theorem dX6_isWithin_2 : decode cX6_isWithin 2 = .ok (.if_icmp .lt 12, 3) := by decide +kernel
theorem dX6_isWithin_5 : decode cX6_isWithin 5 = .ok (.iload_n 0, 1) := by decide +kernel
theorem dX6_isWithin_6 : decode cX6_isWithin 6 = .ok (.iload_n 2, 1) := by decide +kernel
theorem dX6_isWithin_7 : decode cX6_isWithin 7 = .ok (.if_icmp .gt 7, 3) := by decide +kernel
theorem dX6_isWithin_10 : decode cX6_isWithin 10 = .ok (.iconst 1, 1) := by decide +kernel
theorem dX6_isWithin_11 : decode cX6_isWithin 11 = .ok (.goto 4, 3) := by decide +kernel
theorem dX6_isWithin_14 : decode cX6_isWithin 14 = .ok (.iconst 0, 1) := by decide +kernel
theorem dX6_isWithin_15 : decode cX6_isWithin 15 = .ok (.ireturn, 1) := by decide +kernel
theorem dX6_isCell_0 : decode cX6_isCell 0 = .ok (.iload_n 0, 1) := by decide +kernel
theorem dX6_isCell_1 : decode cX6_isCell 1 = .ok (.iconst 0, 1) := by decide +kernel
theorem dX6_isCell_2 : decode cX6_isCell 2 = .ok (.bipush 11, 2) := by decide +kernel
theorem dX6_isCell_4 : decode cX6_isCell 4 = .ok (.invokestatic 48, 3) := by decide +kernel
theorem dX6_isCell_7 : decode cX6_isCell 7 = .ok (.ifCond .eq 17, 3) := by decide +kernel
theorem dX6_isCell_10 : decode cX6_isCell 10 = .ok (.iload_n 1, 1) := by decide +kernel
theorem dX6_isCell_11 : decode cX6_isCell 11 = .ok (.iconst 0, 1) := by decide +kernel
theorem dX6_isCell_12 : decode cX6_isCell 12 = .ok (.bipush 9, 2) := by decide +kernel
theorem dX6_isCell_14 : decode cX6_isCell 14 = .ok (.invokestatic 48, 3) := by decide +kernel
theorem dX6_isCell_17 : decode cX6_isCell 17 = .ok (.ifCond .eq 7, 3) := by decide +kernel
theorem dX6_isCell_20 : decode cX6_isCell 20 = .ok (.iconst 1, 1) := by decide +kernel
theorem dX6_isCell_21 : decode cX6_isCell 21 = .ok (.goto 4, 3) := by decide +kernel
theorem dX6_isCell_24 : decode cX6_isCell 24 = .ok (.iconst 0, 1) := by decide +kernel
theorem dX6_isCell_25 : decode cX6_isCell 25 = .ok (.ireturn, 1) := by decide +kernel
theorem dX6_cellAt_0 : decode cX6_cellAt 0 = .ok (.iload_n 1, 1) := by decide +kernel
theorem dX6_cellAt_1 : decode cX6_cellAt 1 = .ok (.bipush 12, 2) := by decide +kernel
theorem dX6_cellAt_3 : decode cX6_cellAt 3 = .ok (.imul, 1) := by decide +kernel
theorem dX6_cellAt_4 : decode cX6_cellAt 4 = .ok (.iload_n 0, 1) := by decide +kernel
theorem dX6_cellAt_5 : decode cX6_cellAt 5 = .ok (.iadd, 1) := by decide +kernel
theorem dX6_cellAt_6 : decode cX6_cellAt 6 = .ok (.ireturn, 1) := by decide +kernel
theorem dX6_columnOf_0 : decode cX6_columnOf 0 = .ok (.iload_n 0, 1) := by decide +kernel
theorem dX6_columnOf_1 : decode cX6_columnOf 1 = .ok (.bipush 12, 2) := by decide +kernel
theorem dX6_columnOf_3 : decode cX6_columnOf 3 = .ok (.irem, 1) := by decide +kernel
theorem dX6_columnOf_4 : decode cX6_columnOf 4 = .ok (.ireturn, 1) := by decide +kernel
theorem dX6_rowOf_0 : decode cX6_rowOf 0 = .ok (.iload_n 0, 1) := by decide +kernel
theorem dX6_rowOf_1 : decode cX6_rowOf 1 = .ok (.bipush 12, 2) := by decide +kernel
theorem dX6_rowOf_3 : decode cX6_rowOf 3 = .ok (.idiv, 1) := by decide +kernel
theorem dX6_rowOf_4 : decode cX6_rowOf 4 = .ok (.ireturn, 1) := by decide +kernel
theorem dX6_distanceOf_0 : decode cX6_distanceOf 0 = .ok (.iload_n 0, 1) := by decide +kernel
theorem dX6_distanceOf_1 : decode cX6_distanceOf 1 = .ok (.invokestatic 106, 3) := by decide +kernel
theorem dX6_distanceOf_4 : decode cX6_distanceOf 4 = .ok (.iload_n 1, 1) := by decide +kernel
theorem dX6_distanceOf_5 : decode cX6_distanceOf 5 = .ok (.invokestatic 106, 3) := by decide +kernel
theorem dX6_distanceOf_8 : decode cX6_distanceOf 8 = .ok (.isub, 1) := by decide +kernel
theorem dX6_distanceOf_9 : decode cX6_distanceOf 9 = .ok (.invokestatic 239, 3) := by decide +kernel
theorem dX6_distanceOf_12 : decode cX6_distanceOf 12 = .ok (.istore_n 2, 1) := by decide +kernel
theorem dX6_distanceOf_13 : decode cX6_distanceOf 13 = .ok (.iload_n 0, 1) := by decide +kernel
theorem dX6_distanceOf_14 : decode cX6_distanceOf 14 = .ok (.invokestatic 109, 3) := by decide +kernel
theorem dX6_distanceOf_17 : decode cX6_distanceOf 17 = .ok (.iload_n 1, 1) := by decide +kernel
theorem dX6_distanceOf_18 : decode cX6_distanceOf 18 = .ok (.invokestatic 109, 3) := by decide +kernel
theorem dX6_distanceOf_21 : decode cX6_distanceOf 21 = .ok (.isub, 1) := by decide +kernel
theorem dX6_distanceOf_22 : decode cX6_distanceOf 22 = .ok (.invokestatic 239, 3) := by decide +kernel
theorem dX6_distanceOf_25 : decode cX6_distanceOf 25 = .ok (.istore_n 3, 1) := by decide +kernel
theorem dX6_distanceOf_26 : decode cX6_distanceOf 26 = .ok (.iload_n 2, 1) := by decide +kernel
theorem dX6_distanceOf_27 : decode cX6_distanceOf 27 = .ok (.iload_n 3, 1) := by decide +kernel
theorem dX6_distanceOf_28 : decode cX6_distanceOf 28 = .ok (.invokestatic 244, 3) := by decide +kernel
theorem dX6_distanceOf_31 : decode cX6_distanceOf 31 = .ok (.ireturn, 1) := by decide +kernel
theorem dX6_otherSide_0 : decode cX6_otherSide 0 = .ok (.iconst 1, 1) := by decide +kernel
theorem dX6_otherSide_1 : decode cX6_otherSide 1 = .ok (.iload_n 0, 1) := by decide +kernel
theorem dX6_otherSide_2 : decode cX6_otherSide 2 = .ok (.isub, 1) := by decide +kernel
theorem dX6_otherSide_3 : decode cX6_otherSide 3 = .ok (.ireturn, 1) := by decide +kernel
theorem dX6_bitOf_0 : decode cX6_bitOf 0 = .ok (.iconst 1, 1) := by decide +kernel
theorem dX6_bitOf_1 : decode cX6_bitOf 1 = .ok (.iload_n 0, 1) := by decide +kernel
theorem dX6_bitOf_2 : decode cX6_bitOf 2 = .ok (.ishl, 1) := by decide +kernel
theorem dX6_bitOf_3 : decode cX6_bitOf 3 = .ok (.ireturn, 1) := by decide +kernel
theorem dX6_copy_0 : decode cX6_copy 0 = .ok (.aload_n 0, 1) := by decide +kernel
theorem dX6_copy_1 : decode cX6_copy 1 = .ok (.iconst 0, 1) := by decide +kernel
theorem dX6_copy_2 : decode cX6_copy 2 = .ok (.aload_n 1, 1) := by decide +kernel
theorem dX6_copy_3 : decode cX6_copy 3 = .ok (.iconst 0, 1) := by decide +kernel
theorem dX6_copy_4 : decode cX6_copy 4 = .ok (.aload_n 0, 1) := by decide +kernel
theorem dX6_copy_5 : decode cX6_copy 5 = .ok (.arraylength, 1) := by decide +kernel
theorem dX6_copy_6 : decode cX6_copy 6 = .ok (.aload_n 1, 1) := by decide +kernel
theorem dX6_copy_7 : decode cX6_copy 7 = .ok (.arraylength, 1) := by decide +kernel
theorem dX6_copy_8 : decode cX6_copy 8 = .ok (.invokestatic 247, 3) := by decide +kernel
theorem dX6_copy_11 : decode cX6_copy 11 = .ok (.invokestatic 250, 3) := by decide +kernel
theorem dX6_copy_14 : decode cX6_copy 14 = .ok (.return_, 1) := by decide +kernel
theorem dX6_closeGap_0 : decode cX6_closeGap 0 = .ok (.iload_n 1, 1) := by decide +kernel
theorem dX6_closeGap_1 : decode cX6_closeGap 1 = .ok (.istore_n 3, 1) := by decide +kernel
theorem dX6_closeGap_2 : decode cX6_closeGap 2 = .ok (.iload_n 3, 1) := by decide +kernel
theorem dX6_closeGap_3 : decode cX6_closeGap 3 = .ok (.iconst 1, 1) := by decide +kernel
theorem dX6_closeGap_4 : decode cX6_closeGap 4 = .ok (.iadd, 1) := by decide +kernel
theorem dX6_closeGap_5 : decode cX6_closeGap 5 = .ok (.iload_n 2, 1) := by decide +kernel
theorem dX6_closeGap_6 : decode cX6_closeGap 6 = .ok (.if_icmp .ge 17, 3) := by decide +kernel
theorem dX6_closeGap_9 : decode cX6_closeGap 9 = .ok (.aload_n 0, 1) := by decide +kernel
theorem dX6_closeGap_10 : decode cX6_closeGap 10 = .ok (.iload_n 3, 1) := by decide +kernel
theorem dX6_closeGap_11 : decode cX6_closeGap 11 = .ok (.aload_n 0, 1) := by decide +kernel
theorem dX6_closeGap_12 : decode cX6_closeGap 12 = .ok (.iload_n 3, 1) := by decide +kernel
theorem dX6_closeGap_13 : decode cX6_closeGap 13 = .ok (.iconst 1, 1) := by decide +kernel
theorem dX6_closeGap_14 : decode cX6_closeGap 14 = .ok (.iadd, 1) := by decide +kernel
theorem dX6_closeGap_15 : decode cX6_closeGap 15 = .ok (.iaload, 1) := by decide +kernel
theorem dX6_closeGap_16 : decode cX6_closeGap 16 = .ok (.iastore, 1) := by decide +kernel
theorem dX6_closeGap_17 : decode cX6_closeGap 17 = .ok (.iinc 3 1, 3) := by decide +kernel
theorem dX6_closeGap_20 : decode cX6_closeGap 20 = .ok (.goto (-18), 3) := by decide +kernel
theorem dX6_closeGap_23 : decode cX6_closeGap 23 = .ok (.return_, 1) := by decide +kernel
theorem dJ9_floorDiv_7cf53_0 : decode cJ9_floorDiv_7cf53 0 = .ok (.iload_n 0, 1) := by decide +kernel
theorem dJ9_floorDiv_7cf53_1 : decode cJ9_floorDiv_7cf53 1 = .ok (.iload_n 1, 1) := by decide +kernel
theorem dJ9_floorDiv_7cf53_2 : decode cJ9_floorDiv_7cf53 2 = .ok (.idiv, 1) := by decide +kernel
theorem dJ9_floorDiv_7cf53_3 : decode cJ9_floorDiv_7cf53 3 = .ok (.istore_n 2, 1) := by decide +kernel
theorem dJ9_floorDiv_7cf53_4 : decode cJ9_floorDiv_7cf53 4 = .ok (.iload_n 0, 1) := by decide +kernel
theorem dJ9_floorDiv_7cf53_5 : decode cJ9_floorDiv_7cf53 5 = .ok (.iload_n 1, 1) := by decide +kernel
theorem dJ9_floorDiv_7cf53_6 : decode cJ9_floorDiv_7cf53 6 = .ok (.ixor, 1) := by decide +kernel
theorem dJ9_floorDiv_7cf53_7 : decode cJ9_floorDiv_7cf53 7 = .ok (.ifCond .ge 14, 3) := by decide +kernel
theorem dJ9_floorDiv_7cf53_10 : decode cJ9_floorDiv_7cf53 10 = .ok (.iload_n 2, 1) := by decide +kernel
theorem dJ9_floorDiv_7cf53_11 : decode cJ9_floorDiv_7cf53 11 = .ok (.iload_n 1, 1) := by decide +kernel
theorem dJ9_floorDiv_7cf53_12 : decode cJ9_floorDiv_7cf53 12 = .ok (.imul, 1) := by decide +kernel
theorem dJ9_floorDiv_7cf53_13 : decode cJ9_floorDiv_7cf53 13 = .ok (.iload_n 0, 1) := by decide +kernel
theorem dJ9_floorDiv_7cf53_14 : decode cJ9_floorDiv_7cf53 14 = .ok (.if_icmp .eq 7, 3) := by decide +kernel
theorem dJ9_floorDiv_7cf53_17 : decode cJ9_floorDiv_7cf53 17 = .ok (.iload_n 2, 1) := by decide +kernel
theorem dJ9_floorDiv_7cf53_18 : decode cJ9_floorDiv_7cf53 18 = .ok (.iconst 1, 1) := by decide +kernel
theorem dJ9_floorDiv_7cf53_19 : decode cJ9_floorDiv_7cf53 19 = .ok (.isub, 1) := by decide +kernel
theorem dJ9_floorDiv_7cf53_20 : decode cJ9_floorDiv_7cf53 20 = .ok (.ireturn, 1) := by decide +kernel
theorem dJ9_floorDiv_7cf53_21 : decode cJ9_floorDiv_7cf53 21 = .ok (.iload_n 2, 1) := by decide +kernel
theorem dJ9_floorDiv_7cf53_22 : decode cJ9_floorDiv_7cf53 22 = .ok (.ireturn, 1) := by decide +kernel
theorem dJ9_abs_0f7a4_0 : decode cJ9_abs_0f7a4 0 = .ok (.iload_n 0, 1) := by decide +kernel
theorem dJ9_abs_0f7a4_1 : decode cJ9_abs_0f7a4 1 = .ok (.ifCond .ge 8, 3) := by decide +kernel
theorem dJ9_abs_0f7a4_4 : decode cJ9_abs_0f7a4 4 = .ok (.iload_n 0, 1) := by decide +kernel
theorem dJ9_abs_0f7a4_5 : decode cJ9_abs_0f7a4 5 = .ok (.ineg, 1) := by decide +kernel
theorem dJ9_abs_0f7a4_6 : decode cJ9_abs_0f7a4 6 = .ok (.goto 4, 3) := by decide +kernel
theorem dJ9_abs_0f7a4_9 : decode cJ9_abs_0f7a4 9 = .ok (.iload_n 0, 1) := by decide +kernel
theorem dJ9_abs_0f7a4_10 : decode cJ9_abs_0f7a4 10 = .ok (.ireturn, 1) := by decide +kernel
theorem dJ9_max_7cf53_0 : decode cJ9_max_7cf53 0 = .ok (.iload_n 0, 1) := by decide +kernel
theorem dJ9_max_7cf53_1 : decode cJ9_max_7cf53 1 = .ok (.iload_n 1, 1) := by decide +kernel
theorem dJ9_max_7cf53_2 : decode cJ9_max_7cf53 2 = .ok (.if_icmp .lt 7, 3) := by decide +kernel
theorem dJ9_max_7cf53_5 : decode cJ9_max_7cf53 5 = .ok (.iload_n 0, 1) := by decide +kernel
theorem dJ9_max_7cf53_6 : decode cJ9_max_7cf53 6 = .ok (.goto 4, 3) := by decide +kernel
theorem dJ9_max_7cf53_9 : decode cJ9_max_7cf53 9 = .ok (.iload_n 1, 1) := by decide +kernel
theorem dJ9_max_7cf53_10 : decode cJ9_max_7cf53 10 = .ok (.ireturn, 1) := by decide +kernel
theorem dJ9_min_7cf53_0 : decode cJ9_min_7cf53 0 = .ok (.iload_n 0, 1) := by decide +kernel
theorem dJ9_min_7cf53_1 : decode cJ9_min_7cf53 1 = .ok (.iload_n 1, 1) := by decide +kernel
theorem dJ9_min_7cf53_2 : decode cJ9_min_7cf53 2 = .ok (.if_icmp .gt 7, 3) := by decide +kernel
theorem dJ9_min_7cf53_5 : decode cJ9_min_7cf53 5 = .ok (.iload_n 0, 1) := by decide +kernel
theorem dJ9_min_7cf53_6 : decode cJ9_min_7cf53 6 = .ok (.goto 4, 3) := by decide +kernel
theorem dJ9_min_7cf53_9 : decode cJ9_min_7cf53 9 = .ok (.iload_n 1, 1) := by decide +kernel
theorem dJ9_min_7cf53_10 : decode cJ9_min_7cf53 10 = .ok (.ireturn, 1) := by decide +kernel
theorem dJ7_fill_53178_0 : decode cJ7_fill_53178 0 = .ok (.iconst 0, 1) := by decide +kernel
theorem dJ7_fill_53178_1 : decode cJ7_fill_53178 1 = .ok (.istore_n 2, 1) := by decide +kernel
theorem dJ7_fill_53178_2 : decode cJ7_fill_53178 2 = .ok (.aload_n 0, 1) := by decide +kernel
theorem dJ7_fill_53178_3 : decode cJ7_fill_53178 3 = .ok (.arraylength, 1) := by decide +kernel
theorem dJ7_fill_53178_4 : decode cJ7_fill_53178 4 = .ok (.istore_n 3, 1) := by decide +kernel
theorem dJ7_fill_53178_5 : decode cJ7_fill_53178 5 = .ok (.iload_n 2, 1) := by decide +kernel
theorem dJ7_fill_53178_6 : decode cJ7_fill_53178 6 = .ok (.iload_n 3, 1) := by decide +kernel
theorem dJ7_fill_53178_7 : decode cJ7_fill_53178 7 = .ok (.if_icmp .ge 13, 3) := by decide +kernel
theorem dJ7_fill_53178_10 : decode cJ7_fill_53178 10 = .ok (.aload_n 0, 1) := by decide +kernel
theorem dJ7_fill_53178_11 : decode cJ7_fill_53178 11 = .ok (.iload_n 2, 1) := by decide +kernel
theorem dJ7_fill_53178_12 : decode cJ7_fill_53178 12 = .ok (.iload_n 1, 1) := by decide +kernel
theorem dJ7_fill_53178_13 : decode cJ7_fill_53178 13 = .ok (.iastore, 1) := by decide +kernel
theorem dJ7_fill_53178_14 : decode cJ7_fill_53178 14 = .ok (.iinc 2 1, 3) := by decide +kernel
theorem dJ7_fill_53178_17 : decode cJ7_fill_53178 17 = .ok (.goto (-12), 3) := by decide +kernel
theorem dJ7_fill_53178_20 : decode cJ7_fill_53178 20 = .ok (.return_, 1) := by decide +kernel
theorem dL_cell_0 : decode cL_cell 0 = .ok (.iload_n 1, 1) := by decide +kernel
theorem dL_cell_1 : decode cL_cell 1 = .ok (.aload_n 0, 1) := by decide +kernel
theorem dL_cell_2 : decode cL_cell 2 = .ok (.arraylength, 1) := by decide +kernel
theorem dL_cell_3 : decode cL_cell 3 = .ok (.if_icmp .ge 9, 3) := by decide +kernel
theorem dL_cell_6 : decode cL_cell 6 = .ok (.aload_n 0, 1) := by decide +kernel
theorem dL_cell_7 : decode cL_cell 7 = .ok (.iload_n 1, 1) := by decide +kernel
theorem dL_cell_8 : decode cL_cell 8 = .ok (.iaload, 1) := by decide +kernel
theorem dL_cell_9 : decode cL_cell 9 = .ok (.goto 15, 3) := by decide +kernel
theorem dL_cell_12 : decode cL_cell 12 = .ok (.sipush 7919, 3) := by decide +kernel
theorem dL_cell_15 : decode cL_cell 15 = .ok (.iload_n 1, 1) := by decide +kernel
theorem dL_cell_16 : decode cL_cell 16 = .ok (.iconst 3, 1) := by decide +kernel
theorem dL_cell_17 : decode cL_cell 17 = .ok (.iadd, 1) := by decide +kernel
theorem dL_cell_18 : decode cL_cell 18 = .ok (.imul, 1) := by decide +kernel
theorem dL_cell_19 : decode cL_cell 19 = .ok (.iload_n 1, 1) := by decide +kernel
theorem dL_cell_20 : decode cL_cell 20 = .ok (.bipush 11, 2) := by decide +kernel
theorem dL_cell_22 : decode cL_cell 22 = .ok (.iadd, 1) := by decide +kernel
theorem dL_cell_23 : decode cL_cell 23 = .ok (.imul, 1) := by decide +kernel
theorem dL_cell_24 : decode cL_cell 24 = .ok (.ireturn, 1) := by decide +kernel
theorem dL_low_0 : decode cL_low 0 = .ok (.iload_n 0, 1) := by decide +kernel
theorem dL_low_1 : decode cL_low 1 = .ok (.ldc 7, 2) := by decide +kernel
theorem dL_low_3 : decode cL_low 3 = .ok (.iand, 1) := by decide +kernel
theorem dL_low_4 : decode cL_low 4 = .ok (.iload_n 1, 1) := by decide +kernel
theorem dL_low_5 : decode cL_low 5 = .ok (.irem, 1) := by decide +kernel
theorem dL_low_6 : decode cL_low 6 = .ok (.ireturn, 1) := by decide +kernel
theorem dL_digest_0 : decode cL_digest 0 = .ok (.ldc2_w 8, 3) := by decide +kernel
theorem dL_digest_3 : decode cL_digest 3 = .ok (.lstore_n 1, 1) := by decide +kernel
theorem dL_digest_4 : decode cL_digest 4 = .ok (.iconst 0, 1) := by decide +kernel
theorem dL_digest_5 : decode cL_digest 5 = .ok (.istore_n 3, 1) := by decide +kernel
theorem dL_digest_6 : decode cL_digest 6 = .ok (.iload_n 3, 1) := by decide +kernel
theorem dL_digest_7 : decode cL_digest 7 = .ok (.bipush 10, 2) := by decide +kernel
theorem dL_digest_9 : decode cL_digest 9 = .ok (.if_icmp .ge 22, 3) := by decide +kernel
theorem dL_digest_12 : decode cL_digest 12 = .ok (.ldc2_w 10, 3) := by decide +kernel
theorem dL_digest_15 : decode cL_digest 15 = .ok (.lload_n 1, 1) := by decide +kernel
theorem dL_digest_16 : decode cL_digest 16 = .ok (.lmul, 1) := by decide +kernel
theorem dL_digest_17 : decode cL_digest 17 = .ok (.aload_n 0, 1) := by decide +kernel
theorem dL_digest_18 : decode cL_digest 18 = .ok (.iload_n 3, 1) := by decide +kernel
theorem dL_digest_19 : decode cL_digest 19 = .ok (.invokevirtual 12, 3) := by decide +kernel
theorem dL_digest_22 : decode cL_digest 22 = .ok (.i2l, 1) := by decide +kernel
theorem dL_digest_23 : decode cL_digest 23 = .ok (.ladd, 1) := by decide +kernel
theorem dL_digest_24 : decode cL_digest 24 = .ok (.lstore_n 1, 1) := by decide +kernel
theorem dL_digest_25 : decode cL_digest 25 = .ok (.iinc 3 1, 3) := by decide +kernel
theorem dL_digest_28 : decode cL_digest 28 = .ok (.goto (-22), 3) := by decide +kernel
theorem dL_digest_31 : decode cL_digest 31 = .ok (.iconst 0, 1) := by decide +kernel
theorem dL_digest_32 : decode cL_digest 32 = .ok (.istore_n 3, 1) := by decide +kernel
theorem dL_digest_33 : decode cL_digest 33 = .ok (.iload_n 3, 1) := by decide +kernel
theorem dL_digest_34 : decode cL_digest 34 = .ok (.bipush 10, 2) := by decide +kernel
theorem dL_digest_36 : decode cL_digest 36 = .ok (.if_icmp .ge 93, 3) := by decide +kernel
theorem dL_digest_39 : decode cL_digest 39 = .ok (.iconst 0, 1) := by decide +kernel
theorem dL_digest_40 : decode cL_digest 40 = .ok (.istore 4, 2) := by decide +kernel
theorem dL_digest_42 : decode cL_digest 42 = .ok (.iload 4, 2) := by decide +kernel
theorem dL_digest_44 : decode cL_digest 44 = .ok (.bipush 12, 2) := by decide +kernel
theorem dL_digest_46 : decode cL_digest 46 = .ok (.if_icmp .ge 77, 3) := by decide +kernel
theorem dL_digest_49 : decode cL_digest 49 = .ok (.iconst 0, 1) := by decide +kernel
theorem dL_digest_50 : decode cL_digest 50 = .ok (.istore 5, 2) := by decide +kernel
theorem dL_digest_52 : decode cL_digest 52 = .ok (.iload 5, 2) := by decide +kernel
theorem dL_digest_54 : decode cL_digest 54 = .ok (.iconst 4, 1) := by decide +kernel
theorem dL_digest_55 : decode cL_digest 55 = .ok (.if_icmp .ge 62, 3) := by decide +kernel
theorem dL_digest_58 : decode cL_digest 58 = .ok (.ldc2_w 10, 3) := by decide +kernel
theorem dL_digest_61 : decode cL_digest 61 = .ok (.lload_n 1, 1) := by decide +kernel
theorem dL_digest_62 : decode cL_digest 62 = .ok (.lmul, 1) := by decide +kernel
theorem dL_digest_63 : decode cL_digest 63 = .ok (.aload_n 0, 1) := by decide +kernel
theorem dL_digest_64 : decode cL_digest 64 = .ok (.iload 4, 2) := by decide +kernel
theorem dL_digest_66 : decode cL_digest 66 = .ok (.iload_n 3, 1) := by decide +kernel
theorem dL_digest_67 : decode cL_digest 67 = .ok (.iload 5, 2) := by decide +kernel
theorem dL_digest_69 : decode cL_digest 69 = .ok (.invokevirtual 18, 3) := by decide +kernel
theorem dL_digest_72 : decode cL_digest 72 = .ok (.i2l, 1) := by decide +kernel
theorem dL_digest_73 : decode cL_digest 73 = .ok (.ladd, 1) := by decide +kernel
theorem dL_digest_74 : decode cL_digest 74 = .ok (.lstore_n 1, 1) := by decide +kernel
theorem dL_digest_75 : decode cL_digest 75 = .ok (.ldc2_w 10, 3) := by decide +kernel
theorem dL_digest_78 : decode cL_digest 78 = .ok (.lload_n 1, 1) := by decide +kernel
theorem dL_digest_79 : decode cL_digest 79 = .ok (.lmul, 1) := by decide +kernel
theorem dL_digest_80 : decode cL_digest 80 = .ok (.aload_n 0, 1) := by decide +kernel
theorem dL_digest_81 : decode cL_digest 81 = .ok (.iconst 0, 1) := by decide +kernel
theorem dL_digest_82 : decode cL_digest 82 = .ok (.iload 4, 2) := by decide +kernel
theorem dL_digest_84 : decode cL_digest 84 = .ok (.iload_n 3, 1) := by decide +kernel
theorem dL_digest_85 : decode cL_digest 85 = .ok (.iload 5, 2) := by decide +kernel
theorem dL_digest_87 : decode cL_digest 87 = .ok (.invokevirtual 22, 3) := by decide +kernel
theorem dL_digest_90 : decode cL_digest 90 = .ok (.i2l, 1) := by decide +kernel
theorem dL_digest_91 : decode cL_digest 91 = .ok (.ladd, 1) := by decide +kernel
theorem dL_digest_92 : decode cL_digest 92 = .ok (.lstore_n 1, 1) := by decide +kernel
theorem dL_digest_93 : decode cL_digest 93 = .ok (.ldc2_w 10, 3) := by decide +kernel
theorem dL_digest_96 : decode cL_digest 96 = .ok (.lload_n 1, 1) := by decide +kernel
theorem dL_digest_97 : decode cL_digest 97 = .ok (.lmul, 1) := by decide +kernel
theorem dL_digest_98 : decode cL_digest 98 = .ok (.aload_n 0, 1) := by decide +kernel
theorem dL_digest_99 : decode cL_digest 99 = .ok (.iconst 1, 1) := by decide +kernel
theorem dL_digest_100 : decode cL_digest 100 = .ok (.iload 4, 2) := by decide +kernel
theorem dL_digest_102 : decode cL_digest 102 = .ok (.iload_n 3, 1) := by decide +kernel
theorem dL_digest_103 : decode cL_digest 103 = .ok (.iload 5, 2) := by decide +kernel
theorem dL_digest_105 : decode cL_digest 105 = .ok (.invokevirtual 22, 3) := by decide +kernel
theorem dL_digest_108 : decode cL_digest 108 = .ok (.i2l, 1) := by decide +kernel
theorem dL_digest_109 : decode cL_digest 109 = .ok (.ladd, 1) := by decide +kernel
theorem dL_digest_110 : decode cL_digest 110 = .ok (.lstore_n 1, 1) := by decide +kernel
theorem dL_digest_111 : decode cL_digest 111 = .ok (.iinc 5 1, 3) := by decide +kernel
theorem dL_digest_114 : decode cL_digest 114 = .ok (.goto (-62), 3) := by decide +kernel
theorem dL_digest_117 : decode cL_digest 117 = .ok (.iinc 4 1, 3) := by decide +kernel
theorem dL_digest_120 : decode cL_digest 120 = .ok (.goto (-78), 3) := by decide +kernel
theorem dL_digest_123 : decode cL_digest 123 = .ok (.iinc 3 1, 3) := by decide +kernel
theorem dL_digest_126 : decode cL_digest 126 = .ok (.goto (-93), 3) := by decide +kernel
theorem dL_digest_129 : decode cL_digest 129 = .ok (.iconst 0, 1) := by decide +kernel
theorem dL_digest_130 : decode cL_digest 130 = .ok (.istore_n 3, 1) := by decide +kernel
theorem dL_digest_131 : decode cL_digest 131 = .ok (.iload_n 3, 1) := by decide +kernel
theorem dL_digest_132 : decode cL_digest 132 = .ok (.aload_n 0, 1) := by decide +kernel
theorem dL_digest_133 : decode cL_digest 133 = .ok (.iconst 0, 1) := by decide +kernel
theorem dL_digest_134 : decode cL_digest 134 = .ok (.invokevirtual 12, 3) := by decide +kernel
theorem dL_digest_137 : decode cL_digest 137 = .ok (.if_icmp .ge 40, 3) := by decide +kernel
theorem dL_digest_140 : decode cL_digest 140 = .ok (.iconst 0, 1) := by decide +kernel
theorem dL_digest_141 : decode cL_digest 141 = .ok (.istore 4, 2) := by decide +kernel
theorem dL_digest_143 : decode cL_digest 143 = .ok (.iload 4, 2) := by decide +kernel
theorem dL_digest_145 : decode cL_digest 145 = .ok (.bipush 6, 2) := by decide +kernel
theorem dL_digest_147 : decode cL_digest 147 = .ok (.if_icmp .ge 24, 3) := by decide +kernel
theorem dL_digest_150 : decode cL_digest 150 = .ok (.ldc2_w 10, 3) := by decide +kernel
theorem dL_digest_153 : decode cL_digest 153 = .ok (.lload_n 1, 1) := by decide +kernel
theorem dL_digest_154 : decode cL_digest 154 = .ok (.lmul, 1) := by decide +kernel
theorem dL_digest_155 : decode cL_digest 155 = .ok (.aload_n 0, 1) := by decide +kernel
theorem dL_digest_156 : decode cL_digest 156 = .ok (.iload_n 3, 1) := by decide +kernel
theorem dL_digest_157 : decode cL_digest 157 = .ok (.iload 4, 2) := by decide +kernel
theorem dL_digest_159 : decode cL_digest 159 = .ok (.invokevirtual 26, 3) := by decide +kernel
theorem dL_digest_162 : decode cL_digest 162 = .ok (.i2l, 1) := by decide +kernel
theorem dL_digest_163 : decode cL_digest 163 = .ok (.ladd, 1) := by decide +kernel
theorem dL_digest_164 : decode cL_digest 164 = .ok (.lstore_n 1, 1) := by decide +kernel
theorem dL_digest_165 : decode cL_digest 165 = .ok (.iinc 4 1, 3) := by decide +kernel
theorem dL_digest_168 : decode cL_digest 168 = .ok (.goto (-25), 3) := by decide +kernel
theorem dL_digest_171 : decode cL_digest 171 = .ok (.iinc 3 1, 3) := by decide +kernel
theorem dL_digest_174 : decode cL_digest 174 = .ok (.goto (-43), 3) := by decide +kernel
theorem dL_digest_177 : decode cL_digest 177 = .ok (.iconst 0, 1) := by decide +kernel
theorem dL_digest_178 : decode cL_digest 178 = .ok (.istore_n 3, 1) := by decide +kernel
theorem dL_digest_179 : decode cL_digest 179 = .ok (.iload_n 3, 1) := by decide +kernel
theorem dL_digest_180 : decode cL_digest 180 = .ok (.aload_n 0, 1) := by decide +kernel
theorem dL_digest_181 : decode cL_digest 181 = .ok (.iconst 1, 1) := by decide +kernel
theorem dL_digest_182 : decode cL_digest 182 = .ok (.invokevirtual 12, 3) := by decide +kernel
theorem dL_digest_185 : decode cL_digest 185 = .ok (.if_icmp .ge 39, 3) := by decide +kernel
theorem dL_digest_188 : decode cL_digest 188 = .ok (.iconst 0, 1) := by decide +kernel
theorem dL_digest_189 : decode cL_digest 189 = .ok (.istore 4, 2) := by decide +kernel
theorem dL_digest_191 : decode cL_digest 191 = .ok (.iload 4, 2) := by decide +kernel
theorem dL_digest_193 : decode cL_digest 193 = .ok (.iconst 4, 1) := by decide +kernel
theorem dL_digest_194 : decode cL_digest 194 = .ok (.if_icmp .ge 24, 3) := by decide +kernel
theorem dL_digest_197 : decode cL_digest 197 = .ok (.ldc2_w 10, 3) := by decide +kernel
theorem dL_digest_200 : decode cL_digest 200 = .ok (.lload_n 1, 1) := by decide +kernel
theorem dL_digest_201 : decode cL_digest 201 = .ok (.lmul, 1) := by decide +kernel
theorem dL_digest_202 : decode cL_digest 202 = .ok (.aload_n 0, 1) := by decide +kernel
theorem dL_digest_203 : decode cL_digest 203 = .ok (.iload_n 3, 1) := by decide +kernel
theorem dL_digest_204 : decode cL_digest 204 = .ok (.iload 4, 2) := by decide +kernel
theorem dL_digest_206 : decode cL_digest 206 = .ok (.invokevirtual 30, 3) := by decide +kernel
theorem dL_digest_209 : decode cL_digest 209 = .ok (.i2l, 1) := by decide +kernel
theorem dL_digest_210 : decode cL_digest 210 = .ok (.ladd, 1) := by decide +kernel
theorem dL_digest_211 : decode cL_digest 211 = .ok (.lstore_n 1, 1) := by decide +kernel
theorem dL_digest_212 : decode cL_digest 212 = .ok (.iinc 4 1, 3) := by decide +kernel
theorem dL_digest_215 : decode cL_digest 215 = .ok (.goto (-24), 3) := by decide +kernel
theorem dL_digest_218 : decode cL_digest 218 = .ok (.iinc 3 1, 3) := by decide +kernel
theorem dL_digest_221 : decode cL_digest 221 = .ok (.goto (-42), 3) := by decide +kernel
theorem dL_digest_224 : decode cL_digest 224 = .ok (.lload_n 1, 1) := by decide +kernel
theorem dL_digest_225 : decode cL_digest 225 = .ok (.lreturn, 1) := by decide +kernel
theorem dL_act_0 : decode cL_act 0 = .ok (.iload_n 1, 1) := by decide +kernel
theorem dL_act_1 : decode cL_act 1 = .ok (.iconst 4, 1) := by decide +kernel
theorem dL_act_2 : decode cL_act 2 = .ok (.ishr, 1) := by decide +kernel
theorem dL_act_3 : decode cL_act 3 = .ok (.istore_n 2, 1) := by decide +kernel
theorem dL_act_4 : decode cL_act 4 = .ok (.iload_n 1, 1) := by decide +kernel
theorem dL_act_5 : decode cL_act 5 = .ok (.bipush 15, 2) := by decide +kernel
theorem dL_act_7 : decode cL_act 7 = .ok (.iand, 1) := by decide +kernel
theorem dL_act_8 : decode cL_act 8 = .ok (.tableswitch 265 0 9 #[56, 56, 85, 111, 148, 159, 196, 215, 253, 253], 56) := by decide +kernel
theorem dL_act_64 : decode cL_act 64 = .ok (.aload_n 0, 1) := by decide +kernel
theorem dL_act_65 : decode cL_act 65 = .ok (.iload_n 2, 1) := by decide +kernel
theorem dL_act_66 : decode cL_act 66 = .ok (.bipush 12, 2) := by decide +kernel
theorem dL_act_68 : decode cL_act 68 = .ok (.invokestatic 33, 3) := by decide +kernel
theorem dL_act_71 : decode cL_act 71 = .ok (.iload_n 1, 1) := by decide +kernel
theorem dL_act_72 : decode cL_act 72 = .ok (.bipush 7, 2) := by decide +kernel
theorem dL_act_74 : decode cL_act 74 = .ok (.ishr, 1) := by decide +kernel
theorem dL_act_75 : decode cL_act 75 = .ok (.bipush 10, 2) := by decide +kernel
theorem dL_act_77 : decode cL_act 77 = .ok (.invokestatic 33, 3) := by decide +kernel
theorem dL_act_80 : decode cL_act 80 = .ok (.iload_n 1, 1) := by decide +kernel
theorem dL_act_81 : decode cL_act 81 = .ok (.bipush 6, 2) := by decide +kernel
theorem dL_act_83 : decode cL_act 83 = .ok (.ishr, 1) := by decide +kernel
theorem dL_act_84 : decode cL_act 84 = .ok (.bipush 11, 2) := by decide +kernel
theorem dL_act_86 : decode cL_act 86 = .ok (.invokestatic 33, 3) := by decide +kernel
theorem dL_act_89 : decode cL_act 89 = .ok (.invokevirtual 38, 3) := by decide +kernel
theorem dL_act_92 : decode cL_act 92 = .ok (.ireturn, 1) := by decide +kernel
theorem dL_act_93 : decode cL_act 93 = .ok (.aload_n 0, 1) := by decide +kernel
theorem dL_act_94 : decode cL_act 94 = .ok (.iload_n 2, 1) := by decide +kernel
theorem dL_act_95 : decode cL_act 95 = .ok (.bipush 12, 2) := by decide +kernel
theorem dL_act_97 : decode cL_act 97 = .ok (.invokestatic 33, 3) := by decide +kernel
theorem dL_act_100 : decode cL_act 100 = .ok (.iload_n 1, 1) := by decide +kernel
theorem dL_act_101 : decode cL_act 101 = .ok (.bipush 7, 2) := by decide +kernel
theorem dL_act_103 : decode cL_act 103 = .ok (.ishr, 1) := by decide +kernel
theorem dL_act_104 : decode cL_act 104 = .ok (.bipush 10, 2) := by decide +kernel
theorem dL_act_106 : decode cL_act 106 = .ok (.invokestatic 33, 3) := by decide +kernel
theorem dL_act_109 : decode cL_act 109 = .ok (.iload_n 1, 1) := by decide +kernel
theorem dL_act_110 : decode cL_act 110 = .ok (.bipush 9, 2) := by decide +kernel
theorem dL_act_112 : decode cL_act 112 = .ok (.ishr, 1) := by decide +kernel
theorem dL_act_113 : decode cL_act 113 = .ok (.iconst 1, 1) := by decide +kernel
theorem dL_act_114 : decode cL_act 114 = .ok (.iand, 1) := by decide +kernel
theorem dL_act_115 : decode cL_act 115 = .ok (.invokevirtual 41, 3) := by decide +kernel
theorem dL_act_118 : decode cL_act 118 = .ok (.ireturn, 1) := by decide +kernel
theorem dL_act_119 : decode cL_act 119 = .ok (.aload_n 0, 1) := by decide +kernel
theorem dL_act_120 : decode cL_act 120 = .ok (.iload_n 2, 1) := by decide +kernel
theorem dL_act_121 : decode cL_act 121 = .ok (.iconst 2, 1) := by decide +kernel
theorem dL_act_122 : decode cL_act 122 = .ok (.invokestatic 33, 3) := by decide +kernel
theorem dL_act_125 : decode cL_act 125 = .ok (.iload_n 1, 1) := by decide +kernel
theorem dL_act_126 : decode cL_act 126 = .ok (.iconst 5, 1) := by decide +kernel
theorem dL_act_127 : decode cL_act 127 = .ok (.ishr, 1) := by decide +kernel
theorem dL_act_128 : decode cL_act 128 = .ok (.bipush 12, 2) := by decide +kernel
theorem dL_act_130 : decode cL_act 130 = .ok (.invokestatic 33, 3) := by decide +kernel
theorem dL_act_133 : decode cL_act 133 = .ok (.iload_n 1, 1) := by decide +kernel
theorem dL_act_134 : decode cL_act 134 = .ok (.bipush 7, 2) := by decide +kernel
theorem dL_act_136 : decode cL_act 136 = .ok (.ishr, 1) := by decide +kernel
theorem dL_act_137 : decode cL_act 137 = .ok (.bipush 10, 2) := by decide +kernel
theorem dL_act_139 : decode cL_act 139 = .ok (.invokestatic 33, 3) := by decide +kernel
theorem dL_act_142 : decode cL_act 142 = .ok (.iconst 1, 1) := by decide +kernel
theorem dL_act_143 : decode cL_act 143 = .ok (.iload_n 1, 1) := by decide +kernel
theorem dL_act_144 : decode cL_act 144 = .ok (.bipush 6, 2) := by decide +kernel
theorem dL_act_146 : decode cL_act 146 = .ok (.ishr, 1) := by decide +kernel
theorem dL_act_147 : decode cL_act 147 = .ok (.iconst 5, 1) := by decide +kernel
theorem dL_act_148 : decode cL_act 148 = .ok (.invokestatic 33, 3) := by decide +kernel
theorem dL_act_151 : decode cL_act 151 = .ok (.iadd, 1) := by decide +kernel
theorem dL_act_152 : decode cL_act 152 = .ok (.invokevirtual 44, 3) := by decide +kernel
theorem dL_act_155 : decode cL_act 155 = .ok (.ireturn, 1) := by decide +kernel
theorem dL_act_156 : decode cL_act 156 = .ok (.aload_n 0, 1) := by decide +kernel
theorem dL_act_157 : decode cL_act 157 = .ok (.iload_n 2, 1) := by decide +kernel
theorem dL_act_158 : decode cL_act 158 = .ok (.bipush 6, 2) := by decide +kernel
theorem dL_act_160 : decode cL_act 160 = .ok (.invokestatic 33, 3) := by decide +kernel
theorem dL_act_163 : decode cL_act 163 = .ok (.invokevirtual 47, 3) := by decide +kernel
theorem dL_act_166 : decode cL_act 166 = .ok (.ireturn, 1) := by decide +kernel
theorem dL_act_167 : decode cL_act 167 = .ok (.aload_n 0, 1) := by decide +kernel
theorem dL_act_168 : decode cL_act 168 = .ok (.iload_n 2, 1) := by decide +kernel
theorem dL_act_169 : decode cL_act 169 = .ok (.bipush 12, 2) := by decide +kernel
theorem dL_act_171 : decode cL_act 171 = .ok (.invokestatic 33, 3) := by decide +kernel
theorem dL_act_174 : decode cL_act 174 = .ok (.iload_n 1, 1) := by decide +kernel
theorem dL_act_175 : decode cL_act 175 = .ok (.bipush 7, 2) := by decide +kernel
theorem dL_act_177 : decode cL_act 177 = .ok (.ishr, 1) := by decide +kernel
theorem dL_act_178 : decode cL_act 178 = .ok (.bipush 10, 2) := by decide +kernel
theorem dL_act_180 : decode cL_act 180 = .ok (.invokestatic 33, 3) := by decide +kernel
theorem dL_act_183 : decode cL_act 183 = .ok (.iload_n 1, 1) := by decide +kernel
theorem dL_act_184 : decode cL_act 184 = .ok (.bipush 6, 2) := by decide +kernel
theorem dL_act_186 : decode cL_act 186 = .ok (.ishr, 1) := by decide +kernel
theorem dL_act_187 : decode cL_act 187 = .ok (.iconst 5, 1) := by decide +kernel
theorem dL_act_188 : decode cL_act 188 = .ok (.invokestatic 33, 3) := by decide +kernel
theorem dL_act_191 : decode cL_act 191 = .ok (.iload_n 1, 1) := by decide +kernel
theorem dL_act_192 : decode cL_act 192 = .ok (.bipush 8, 2) := by decide +kernel
theorem dL_act_194 : decode cL_act 194 = .ok (.ishr, 1) := by decide +kernel
theorem dL_act_195 : decode cL_act 195 = .ok (.bipush 6, 2) := by decide +kernel
theorem dL_act_197 : decode cL_act 197 = .ok (.invokestatic 33, 3) := by decide +kernel
theorem dL_act_200 : decode cL_act 200 = .ok (.invokevirtual 50, 3) := by decide +kernel
theorem dL_act_203 : decode cL_act 203 = .ok (.ireturn, 1) := by decide +kernel
theorem dL_act_204 : decode cL_act 204 = .ok (.aload_n 0, 1) := by decide +kernel
theorem dL_act_205 : decode cL_act 205 = .ok (.iload_n 2, 1) := by decide +kernel
theorem dL_act_206 : decode cL_act 206 = .ok (.iconst 3, 1) := by decide +kernel
theorem dL_act_207 : decode cL_act 207 = .ok (.invokestatic 33, 3) := by decide +kernel
theorem dL_act_210 : decode cL_act 210 = .ok (.iload_n 1, 1) := by decide +kernel
theorem dL_act_211 : decode cL_act 211 = .ok (.bipush 7, 2) := by decide +kernel
theorem dL_act_213 : decode cL_act 213 = .ok (.ishr, 1) := by decide +kernel
theorem dL_act_214 : decode cL_act 214 = .ok (.bipush 6, 2) := by decide +kernel
theorem dL_act_216 : decode cL_act 216 = .ok (.invokestatic 33, 3) := by decide +kernel
theorem dL_act_219 : decode cL_act 219 = .ok (.invokevirtual 53, 3) := by decide +kernel
theorem dL_act_222 : decode cL_act 222 = .ok (.ireturn, 1) := by decide +kernel
theorem dL_act_223 : decode cL_act 223 = .ok (.iload_n 1, 1) := by decide +kernel
theorem dL_act_224 : decode cL_act 224 = .ok (.bipush 64, 2) := by decide +kernel
theorem dL_act_226 : decode cL_act 226 = .ok (.iand, 1) := by decide +kernel
theorem dL_act_227 : decode cL_act 227 = .ok (.ifCond .ne 18, 3) := by decide +kernel
theorem dL_act_230 : decode cL_act 230 = .ok (.aload_n 0, 1) := by decide +kernel
theorem dL_act_231 : decode cL_act 231 = .ok (.iload_n 1, 1) := by decide +kernel
theorem dL_act_232 : decode cL_act 232 = .ok (.bipush 7, 2) := by decide +kernel
theorem dL_act_234 : decode cL_act 234 = .ok (.ishr, 1) := by decide +kernel
theorem dL_act_235 : decode cL_act 235 = .ok (.iconst 3, 1) := by decide +kernel
theorem dL_act_236 : decode cL_act 236 = .ok (.invokestatic 33, 3) := by decide +kernel
theorem dL_act_239 : decode cL_act 239 = .ok (.invokevirtual 56, 3) := by decide +kernel
theorem dL_act_242 : decode cL_act 242 = .ok (.goto 18, 3) := by decide +kernel
theorem dL_act_245 : decode cL_act 245 = .ok (.aload_n 0, 1) := by decide +kernel
theorem dL_act_246 : decode cL_act 246 = .ok (.iconst 1, 1) := by decide +kernel
theorem dL_act_247 : decode cL_act 247 = .ok (.iload_n 1, 1) := by decide +kernel
theorem dL_act_248 : decode cL_act 248 = .ok (.bipush 7, 2) := by decide +kernel
theorem dL_act_250 : decode cL_act 250 = .ok (.ishr, 1) := by decide +kernel
theorem dL_act_251 : decode cL_act 251 = .ok (.bipush 12, 2) := by decide +kernel
theorem dL_act_253 : decode cL_act 253 = .ok (.invokestatic 33, 3) := by decide +kernel
theorem dL_act_256 : decode cL_act 256 = .ok (.iadd, 1) := by decide +kernel
theorem dL_act_257 : decode cL_act 257 = .ok (.invokevirtual 59, 3) := by decide +kernel
theorem dL_act_260 : decode cL_act 260 = .ok (.ireturn, 1) := by decide +kernel
theorem dL_act_261 : decode cL_act 261 = .ok (.aload_n 0, 1) := by decide +kernel
theorem dL_act_262 : decode cL_act 262 = .ok (.iconst 1, 1) := by decide +kernel
theorem dL_act_263 : decode cL_act 263 = .ok (.iload_n 2, 1) := by decide +kernel
theorem dL_act_264 : decode cL_act 264 = .ok (.iconst 5, 1) := by decide +kernel
theorem dL_act_265 : decode cL_act 265 = .ok (.invokestatic 33, 3) := by decide +kernel
theorem dL_act_268 : decode cL_act 268 = .ok (.iadd, 1) := by decide +kernel
theorem dL_act_269 : decode cL_act 269 = .ok (.invokevirtual 62, 3) := by decide +kernel
theorem dL_act_272 : decode cL_act 272 = .ok (.ireturn, 1) := by decide +kernel
theorem dL_act_273 : decode cL_act 273 = .ok (.aload_n 0, 1) := by decide +kernel
theorem dL_act_274 : decode cL_act 274 = .ok (.iload_n 2, 1) := by decide +kernel
theorem dL_act_275 : decode cL_act 275 = .ok (.iconst 4, 1) := by decide +kernel
theorem dL_act_276 : decode cL_act 276 = .ok (.invokestatic 33, 3) := by decide +kernel
theorem dL_act_279 : decode cL_act 279 = .ok (.iload_n 1, 1) := by decide +kernel
theorem dL_act_280 : decode cL_act 280 = .ok (.bipush 6, 2) := by decide +kernel
theorem dL_act_282 : decode cL_act 282 = .ok (.ishr, 1) := by decide +kernel
theorem dL_act_283 : decode cL_act 283 = .ok (.iconst 3, 1) := by decide +kernel
theorem dL_act_284 : decode cL_act 284 = .ok (.invokestatic 33, 3) := by decide +kernel
theorem dL_act_287 : decode cL_act 287 = .ok (.iconst 1, 1) := by decide +kernel
theorem dL_act_288 : decode cL_act 288 = .ok (.isub, 1) := by decide +kernel
theorem dL_act_289 : decode cL_act 289 = .ok (.iload_n 1, 1) := by decide +kernel
theorem dL_act_290 : decode cL_act 290 = .ok (.bipush 8, 2) := by decide +kernel
theorem dL_act_292 : decode cL_act 292 = .ok (.ishr, 1) := by decide +kernel
theorem dL_act_293 : decode cL_act 293 = .ok (.iconst 3, 1) := by decide +kernel
theorem dL_act_294 : decode cL_act 294 = .ok (.invokestatic 33, 3) := by decide +kernel
theorem dL_act_297 : decode cL_act 297 = .ok (.iconst 1, 1) := by decide +kernel
theorem dL_act_298 : decode cL_act 298 = .ok (.isub, 1) := by decide +kernel
theorem dL_act_299 : decode cL_act 299 = .ok (.invokevirtual 65, 3) := by decide +kernel
theorem dL_act_302 : decode cL_act 302 = .ok (.ireturn, 1) := by decide +kernel
theorem dL_apart_0 : decode cL_apart 0 = .ok (.iload_n 0, 1) := by decide +kernel
theorem dL_apart_1 : decode cL_apart 1 = .ok (.iload_n 1, 1) := by decide +kernel
theorem dL_apart_2 : decode cL_apart 2 = .ok (.if_icmp .ge 9, 3) := by decide +kernel
theorem dL_apart_5 : decode cL_apart 5 = .ok (.iload_n 1, 1) := by decide +kernel
theorem dL_apart_6 : decode cL_apart 6 = .ok (.iload_n 0, 1) := by decide +kernel
theorem dL_apart_7 : decode cL_apart 7 = .ok (.isub, 1) := by decide +kernel
theorem dL_apart_8 : decode cL_apart 8 = .ok (.goto 6, 3) := by decide +kernel
theorem dL_apart_11 : decode cL_apart 11 = .ok (.iload_n 0, 1) := by decide +kernel
theorem dL_apart_12 : decode cL_apart 12 = .ok (.iload_n 1, 1) := by decide +kernel
theorem dL_apart_13 : decode cL_apart 13 = .ok (.isub, 1) := by decide +kernel
theorem dL_apart_14 : decode cL_apart 14 = .ok (.ireturn, 1) := by decide +kernel
theorem dL_isRight_0 : decode cL_isRight 0 = .ok (.iconst 0, 1) := by decide +kernel
theorem dL_isRight_1 : decode cL_isRight 1 = .ok (.istore_n 1, 1) := by decide +kernel
theorem dL_isRight_2 : decode cL_isRight 2 = .ok (.iconst 0, 1) := by decide +kernel
theorem dL_isRight_3 : decode cL_isRight 3 = .ok (.istore_n 2, 1) := by decide +kernel
theorem dL_isRight_4 : decode cL_isRight 4 = .ok (.iload_n 2, 1) := by decide +kernel
theorem dL_isRight_5 : decode cL_isRight 5 = .ok (.iconst 2, 1) := by decide +kernel
theorem dL_isRight_6 : decode cL_isRight 6 = .ok (.if_icmp .ge 319, 3) := by decide +kernel
theorem dL_isRight_9 : decode cL_isRight 9 = .ok (.iconst 0, 1) := by decide +kernel
theorem dL_isRight_10 : decode cL_isRight 10 = .ok (.istore_n 3, 1) := by decide +kernel
theorem dL_isRight_11 : decode cL_isRight 11 = .ok (.iconst 0, 1) := by decide +kernel
theorem dL_isRight_12 : decode cL_isRight 12 = .ok (.istore 4, 2) := by decide +kernel
theorem dL_isRight_14 : decode cL_isRight 14 = .ok (.iconst 0, 1) := by decide +kernel
theorem dL_isRight_15 : decode cL_isRight 15 = .ok (.istore 5, 2) := by decide +kernel
theorem dL_isRight_17 : decode cL_isRight 17 = .ok (.iload 5, 2) := by decide +kernel
theorem dL_isRight_19 : decode cL_isRight 19 = .ok (.bipush 10, 2) := by decide +kernel
theorem dL_isRight_21 : decode cL_isRight 21 = .ok (.if_icmp .ge 271, 3) := by decide +kernel
theorem dL_isRight_24 : decode cL_isRight 24 = .ok (.iconst 0, 1) := by decide +kernel
theorem dL_isRight_25 : decode cL_isRight 25 = .ok (.istore 6, 2) := by decide +kernel
theorem dL_isRight_27 : decode cL_isRight 27 = .ok (.iload 6, 2) := by decide +kernel
theorem dL_isRight_29 : decode cL_isRight 29 = .ok (.bipush 12, 2) := by decide +kernel
theorem dL_isRight_31 : decode cL_isRight 31 = .ok (.if_icmp .ge 255, 3) := by decide +kernel
theorem dL_isRight_34 : decode cL_isRight 34 = .ok (.aload_n 0, 1) := by decide +kernel
theorem dL_isRight_35 : decode cL_isRight 35 = .ok (.iload_n 2, 1) := by decide +kernel
theorem dL_isRight_36 : decode cL_isRight 36 = .ok (.iload 6, 2) := by decide +kernel
theorem dL_isRight_38 : decode cL_isRight 38 = .ok (.iload 5, 2) := by decide +kernel
theorem dL_isRight_40 : decode cL_isRight 40 = .ok (.iconst 0, 1) := by decide +kernel
theorem dL_isRight_41 : decode cL_isRight 41 = .ok (.invokevirtual 22, 3) := by decide +kernel
theorem dL_isRight_44 : decode cL_isRight 44 = .ok (.istore 7, 2) := by decide +kernel
theorem dL_isRight_46 : decode cL_isRight 46 = .ok (.aload_n 0, 1) := by decide +kernel
theorem dL_isRight_47 : decode cL_isRight 47 = .ok (.iload_n 2, 1) := by decide +kernel
theorem dL_isRight_48 : decode cL_isRight 48 = .ok (.iload 6, 2) := by decide +kernel
theorem dL_isRight_50 : decode cL_isRight 50 = .ok (.iload 5, 2) := by decide +kernel
theorem dL_isRight_52 : decode cL_isRight 52 = .ok (.iconst 4, 1) := by decide +kernel
theorem dL_isRight_53 : decode cL_isRight 53 = .ok (.invokevirtual 22, 3) := by decide +kernel
theorem dL_isRight_56 : decode cL_isRight 56 = .ok (.iconst 1, 1) := by decide +kernel
theorem dL_isRight_57 : decode cL_isRight 57 = .ok (.if_icmp .ne 7, 3) := by decide +kernel
theorem dL_isRight_60 : decode cL_isRight 60 = .ok (.iconst 1, 1) := by decide +kernel
theorem dL_isRight_61 : decode cL_isRight 61 = .ok (.goto 4, 3) := by decide +kernel
theorem dL_isRight_64 : decode cL_isRight 64 = .ok (.iconst 0, 1) := by decide +kernel
theorem dL_isRight_65 : decode cL_isRight 65 = .ok (.istore 8, 2) := by decide +kernel
theorem dL_isRight_67 : decode cL_isRight 67 = .ok (.iload_n 3, 1) := by decide +kernel
theorem dL_isRight_68 : decode cL_isRight 68 = .ok (.iload 8, 2) := by decide +kernel
theorem dL_isRight_70 : decode cL_isRight 70 = .ok (.ifCond .eq 7, 3) := by decide +kernel
theorem dL_isRight_73 : decode cL_isRight 73 = .ok (.iconst 1, 1) := by decide +kernel
theorem dL_isRight_74 : decode cL_isRight 74 = .ok (.goto 4, 3) := by decide +kernel
theorem dL_isRight_77 : decode cL_isRight 77 = .ok (.iconst 0, 1) := by decide +kernel
theorem dL_isRight_78 : decode cL_isRight 78 = .ok (.iadd, 1) := by decide +kernel
theorem dL_isRight_79 : decode cL_isRight 79 = .ok (.istore_n 3, 1) := by decide +kernel
theorem dL_isRight_80 : decode cL_isRight 80 = .ok (.iload 4, 2) := by decide +kernel
theorem dL_isRight_82 : decode cL_isRight 82 = .ok (.iload 7, 2) := by decide +kernel
theorem dL_isRight_84 : decode cL_isRight 84 = .ok (.ifCond .le 7, 3) := by decide +kernel
theorem dL_isRight_87 : decode cL_isRight 87 = .ok (.iconst 1, 1) := by decide +kernel
theorem dL_isRight_88 : decode cL_isRight 88 = .ok (.goto 4, 3) := by decide +kernel
theorem dL_isRight_91 : decode cL_isRight 91 = .ok (.iconst 0, 1) := by decide +kernel
theorem dL_isRight_92 : decode cL_isRight 92 = .ok (.iadd, 1) := by decide +kernel
theorem dL_isRight_93 : decode cL_isRight 93 = .ok (.istore 4, 2) := by decide +kernel
theorem dL_isRight_95 : decode cL_isRight 95 = .ok (.iload_n 1, 1) := by decide +kernel
theorem dL_isRight_96 : decode cL_isRight 96 = .ok (.aload_n 0, 1) := by decide +kernel
theorem dL_isRight_97 : decode cL_isRight 97 = .ok (.iload 6, 2) := by decide +kernel
theorem dL_isRight_99 : decode cL_isRight 99 = .ok (.iload 5, 2) := by decide +kernel
theorem dL_isRight_101 : decode cL_isRight 101 = .ok (.iconst 2, 1) := by decide +kernel
theorem dL_isRight_102 : decode cL_isRight 102 = .ok (.invokevirtual 18, 3) := by decide +kernel
theorem dL_isRight_105 : decode cL_isRight 105 = .ok (.iadd, 1) := by decide +kernel
theorem dL_isRight_106 : decode cL_isRight 106 = .ok (.istore_n 1, 1) := by decide +kernel
theorem dL_isRight_107 : decode cL_isRight 107 = .ok (.aload_n 0, 1) := by decide +kernel
theorem dL_isRight_108 : decode cL_isRight 108 = .ok (.iload 6, 2) := by decide +kernel
theorem dL_isRight_110 : decode cL_isRight 110 = .ok (.iload 5, 2) := by decide +kernel
theorem dL_isRight_112 : decode cL_isRight 112 = .ok (.iconst 3, 1) := by decide +kernel
theorem dL_isRight_113 : decode cL_isRight 113 = .ok (.invokevirtual 18, 3) := by decide +kernel
theorem dL_isRight_116 : decode cL_isRight 116 = .ok (.istore 9, 2) := by decide +kernel
theorem dL_isRight_118 : decode cL_isRight 118 = .ok (.iload 9, 2) := by decide +kernel
theorem dL_isRight_120 : decode cL_isRight 120 = .ok (.ifCond .lt 18, 3) := by decide +kernel
theorem dL_isRight_123 : decode cL_isRight 123 = .ok (.aload_n 0, 1) := by decide +kernel
theorem dL_isRight_124 : decode cL_isRight 124 = .ok (.iload 9, 2) := by decide +kernel
theorem dL_isRight_126 : decode cL_isRight 126 = .ok (.iconst 0, 1) := by decide +kernel
theorem dL_isRight_127 : decode cL_isRight 127 = .ok (.invokevirtual 26, 3) := by decide +kernel
theorem dL_isRight_130 : decode cL_isRight 130 = .ok (.iload_n 2, 1) := by decide +kernel
theorem dL_isRight_131 : decode cL_isRight 131 = .ok (.if_icmp .eq 7, 3) := by decide +kernel
theorem dL_isRight_134 : decode cL_isRight 134 = .ok (.iconst 1, 1) := by decide +kernel
theorem dL_isRight_135 : decode cL_isRight 135 = .ok (.goto 4, 3) := by decide +kernel
theorem dL_isRight_138 : decode cL_isRight 138 = .ok (.iconst 0, 1) := by decide +kernel
theorem dL_isRight_139 : decode cL_isRight 139 = .ok (.istore 10, 2) := by decide +kernel
theorem dL_isRight_141 : decode cL_isRight 141 = .ok (.iload 7, 2) := by decide +kernel
theorem dL_isRight_143 : decode cL_isRight 143 = .ok (.ifCond .lt 61, 3) := by decide +kernel
theorem dL_isRight_146 : decode cL_isRight 146 = .ok (.iload 7, 2) := by decide +kernel
theorem dL_isRight_148 : decode cL_isRight 148 = .ok (.aload_n 0, 1) := by decide +kernel
theorem dL_isRight_149 : decode cL_isRight 149 = .ok (.iconst 4, 1) := by decide +kernel
theorem dL_isRight_150 : decode cL_isRight 150 = .ok (.invokevirtual 12, 3) := by decide +kernel
theorem dL_isRight_153 : decode cL_isRight 153 = .ok (.if_icmp .gt 51, 3) := by decide +kernel
theorem dL_isRight_156 : decode cL_isRight 156 = .ok (.iload 8, 2) := by decide +kernel
theorem dL_isRight_158 : decode cL_isRight 158 = .ok (.ifCond .eq 13, 3) := by decide +kernel
theorem dL_isRight_161 : decode cL_isRight 161 = .ok (.iload 7, 2) := by decide +kernel
theorem dL_isRight_163 : decode cL_isRight 163 = .ok (.aload_n 0, 1) := by decide +kernel
theorem dL_isRight_164 : decode cL_isRight 164 = .ok (.iconst 4, 1) := by decide +kernel
theorem dL_isRight_165 : decode cL_isRight 165 = .ok (.invokevirtual 12, 3) := by decide +kernel
theorem dL_isRight_168 : decode cL_isRight 168 = .ok (.if_icmp .ne 36, 3) := by decide +kernel
theorem dL_isRight_171 : decode cL_isRight 171 = .ok (.iload 7, 2) := by decide +kernel
theorem dL_isRight_173 : decode cL_isRight 173 = .ok (.ifCond .ne 7, 3) := by decide +kernel
theorem dL_isRight_176 : decode cL_isRight 176 = .ok (.iconst 1, 1) := by decide +kernel
theorem dL_isRight_177 : decode cL_isRight 177 = .ok (.goto 4, 3) := by decide +kernel
theorem dL_isRight_180 : decode cL_isRight 180 = .ok (.iconst 0, 1) := by decide +kernel
theorem dL_isRight_181 : decode cL_isRight 181 = .ok (.aload_n 0, 1) := by decide +kernel
theorem dL_isRight_182 : decode cL_isRight 182 = .ok (.iload_n 2, 1) := by decide +kernel
theorem dL_isRight_183 : decode cL_isRight 183 = .ok (.iload 6, 2) := by decide +kernel
theorem dL_isRight_185 : decode cL_isRight 185 = .ok (.iload 5, 2) := by decide +kernel
theorem dL_isRight_187 : decode cL_isRight 187 = .ok (.iconst 1, 1) := by decide +kernel
theorem dL_isRight_188 : decode cL_isRight 188 = .ok (.invokevirtual 22, 3) := by decide +kernel
theorem dL_isRight_191 : decode cL_isRight 191 = .ok (.bipush (-19), 2) := by decide +kernel
theorem dL_isRight_193 : decode cL_isRight 193 = .ok (.if_icmp .ne 7, 3) := by decide +kernel
theorem dL_isRight_196 : decode cL_isRight 196 = .ok (.iconst 1, 1) := by decide +kernel
theorem dL_isRight_197 : decode cL_isRight 197 = .ok (.goto 4, 3) := by decide +kernel
theorem dL_isRight_200 : decode cL_isRight 200 = .ok (.iconst 0, 1) := by decide +kernel
theorem dL_isRight_201 : decode cL_isRight 201 = .ok (.if_icmp .eq 5, 3) := by decide +kernel
theorem dL_isRight_204 : decode cL_isRight 204 = .ok (.iconst 0, 1) := by decide +kernel
theorem dL_isRight_205 : decode cL_isRight 205 = .ok (.ireturn, 1) := by decide +kernel
theorem dL_isRight_206 : decode cL_isRight 206 = .ok (.iload 8, 2) := by decide +kernel
theorem dL_isRight_208 : decode cL_isRight 208 = .ok (.ifCond .eq 72, 3) := by decide +kernel
theorem dL_isRight_211 : decode cL_isRight 211 = .ok (.aload_n 0, 1) := by decide +kernel
theorem dL_isRight_212 : decode cL_isRight 212 = .ok (.iload_n 2, 1) := by decide +kernel
theorem dL_isRight_213 : decode cL_isRight 213 = .ok (.iload 6, 2) := by decide +kernel
theorem dL_isRight_215 : decode cL_isRight 215 = .ok (.iload 5, 2) := by decide +kernel
theorem dL_isRight_217 : decode cL_isRight 217 = .ok (.iconst 1, 1) := by decide +kernel
theorem dL_isRight_218 : decode cL_isRight 218 = .ok (.invokevirtual 22, 3) := by decide +kernel
theorem dL_isRight_221 : decode cL_isRight 221 = .ok (.aload_n 0, 1) := by decide +kernel
theorem dL_isRight_222 : decode cL_isRight 222 = .ok (.iload 6, 2) := by decide +kernel
theorem dL_isRight_224 : decode cL_isRight 224 = .ok (.iload 5, 2) := by decide +kernel
theorem dL_isRight_226 : decode cL_isRight 226 = .ok (.iconst 0, 1) := by decide +kernel
theorem dL_isRight_227 : decode cL_isRight 227 = .ok (.invokevirtual 18, 3) := by decide +kernel
theorem dL_isRight_230 : decode cL_isRight 230 = .ok (.if_icmp .ne 48, 3) := by decide +kernel
theorem dL_isRight_233 : decode cL_isRight 233 = .ok (.aload_n 0, 1) := by decide +kernel
theorem dL_isRight_234 : decode cL_isRight 234 = .ok (.iload_n 2, 1) := by decide +kernel
theorem dL_isRight_235 : decode cL_isRight 235 = .ok (.iload 6, 2) := by decide +kernel
theorem dL_isRight_237 : decode cL_isRight 237 = .ok (.iload 5, 2) := by decide +kernel
theorem dL_isRight_239 : decode cL_isRight 239 = .ok (.iconst 2, 1) := by decide +kernel
theorem dL_isRight_240 : decode cL_isRight 240 = .ok (.invokevirtual 22, 3) := by decide +kernel
theorem dL_isRight_243 : decode cL_isRight 243 = .ok (.aload_n 0, 1) := by decide +kernel
theorem dL_isRight_244 : decode cL_isRight 244 = .ok (.iload 6, 2) := by decide +kernel
theorem dL_isRight_246 : decode cL_isRight 246 = .ok (.iload 5, 2) := by decide +kernel
theorem dL_isRight_248 : decode cL_isRight 248 = .ok (.iconst 1, 1) := by decide +kernel
theorem dL_isRight_249 : decode cL_isRight 249 = .ok (.invokevirtual 18, 3) := by decide +kernel
theorem dL_isRight_252 : decode cL_isRight 252 = .ok (.if_icmp .ne 26, 3) := by decide +kernel
theorem dL_isRight_255 : decode cL_isRight 255 = .ok (.aload_n 0, 1) := by decide +kernel
theorem dL_isRight_256 : decode cL_isRight 256 = .ok (.iload_n 2, 1) := by decide +kernel
theorem dL_isRight_257 : decode cL_isRight 257 = .ok (.iload 6, 2) := by decide +kernel
theorem dL_isRight_259 : decode cL_isRight 259 = .ok (.iload 5, 2) := by decide +kernel
theorem dL_isRight_261 : decode cL_isRight 261 = .ok (.iconst 3, 1) := by decide +kernel
theorem dL_isRight_262 : decode cL_isRight 262 = .ok (.invokevirtual 22, 3) := by decide +kernel
theorem dL_isRight_265 : decode cL_isRight 265 = .ok (.iload 10, 2) := by decide +kernel
theorem dL_isRight_267 : decode cL_isRight 267 = .ok (.ifCond .eq 7, 3) := by decide +kernel
theorem dL_isRight_270 : decode cL_isRight 270 = .ok (.iconst 1, 1) := by decide +kernel
theorem dL_isRight_271 : decode cL_isRight 271 = .ok (.goto 4, 3) := by decide +kernel
theorem dL_isRight_274 : decode cL_isRight 274 = .ok (.iconst 0, 1) := by decide +kernel
theorem dL_isRight_275 : decode cL_isRight 275 = .ok (.if_icmp .eq 5, 3) := by decide +kernel
theorem dL_isRight_278 : decode cL_isRight 278 = .ok (.iconst 0, 1) := by decide +kernel
theorem dL_isRight_279 : decode cL_isRight 279 = .ok (.ireturn, 1) := by decide +kernel
theorem dL_isRight_280 : decode cL_isRight 280 = .ok (.iinc 6 1, 3) := by decide +kernel
theorem dL_isRight_283 : decode cL_isRight 283 = .ok (.goto (-256), 3) := by decide +kernel
theorem dL_isRight_286 : decode cL_isRight 286 = .ok (.iinc 5 1, 3) := by decide +kernel
theorem dL_isRight_289 : decode cL_isRight 289 = .ok (.goto (-272), 3) := by decide +kernel
theorem dL_isRight_292 : decode cL_isRight 292 = .ok (.aload_n 0, 1) := by decide +kernel
theorem dL_isRight_293 : decode cL_isRight 293 = .ok (.bipush 6, 2) := by decide +kernel
theorem dL_isRight_295 : decode cL_isRight 295 = .ok (.iload_n 2, 1) := by decide +kernel
theorem dL_isRight_296 : decode cL_isRight 296 = .ok (.iadd, 1) := by decide +kernel
theorem dL_isRight_297 : decode cL_isRight 297 = .ok (.invokevirtual 12, 3) := by decide +kernel
theorem dL_isRight_300 : decode cL_isRight 300 = .ok (.iload_n 3, 1) := by decide +kernel
theorem dL_isRight_301 : decode cL_isRight 301 = .ok (.if_icmp .ne 16, 3) := by decide +kernel
theorem dL_isRight_304 : decode cL_isRight 304 = .ok (.aload_n 0, 1) := by decide +kernel
theorem dL_isRight_305 : decode cL_isRight 305 = .ok (.bipush 8, 2) := by decide +kernel
theorem dL_isRight_307 : decode cL_isRight 307 = .ok (.iload_n 2, 1) := by decide +kernel
theorem dL_isRight_308 : decode cL_isRight 308 = .ok (.iadd, 1) := by decide +kernel
theorem dL_isRight_309 : decode cL_isRight 309 = .ok (.invokevirtual 12, 3) := by decide +kernel
theorem dL_isRight_312 : decode cL_isRight 312 = .ok (.iload 4, 2) := by decide +kernel
theorem dL_isRight_314 : decode cL_isRight 314 = .ok (.if_icmp .eq 5, 3) := by decide +kernel
theorem dL_isRight_317 : decode cL_isRight 317 = .ok (.iconst 0, 1) := by decide +kernel
theorem dL_isRight_318 : decode cL_isRight 318 = .ok (.ireturn, 1) := by decide +kernel
theorem dL_isRight_319 : decode cL_isRight 319 = .ok (.iinc 2 1, 3) := by decide +kernel
theorem dL_isRight_322 : decode cL_isRight 322 = .ok (.goto (-318), 3) := by decide +kernel
theorem dL_isRight_325 : decode cL_isRight 325 = .ok (.iconst 0, 1) := by decide +kernel
theorem dL_isRight_326 : decode cL_isRight 326 = .ok (.istore_n 2, 1) := by decide +kernel
theorem dL_isRight_327 : decode cL_isRight 327 = .ok (.iload_n 2, 1) := by decide +kernel
theorem dL_isRight_328 : decode cL_isRight 328 = .ok (.aload_n 0, 1) := by decide +kernel
theorem dL_isRight_329 : decode cL_isRight 329 = .ok (.iconst 0, 1) := by decide +kernel
theorem dL_isRight_330 : decode cL_isRight 330 = .ok (.invokevirtual 12, 3) := by decide +kernel
theorem dL_isRight_333 : decode cL_isRight 333 = .ok (.if_icmp .ge 303, 3) := by decide +kernel
theorem dL_isRight_336 : decode cL_isRight 336 = .ok (.aload_n 0, 1) := by decide +kernel
theorem dL_isRight_337 : decode cL_isRight 337 = .ok (.iload_n 2, 1) := by decide +kernel
theorem dL_isRight_338 : decode cL_isRight 338 = .ok (.iconst 1, 1) := by decide +kernel
theorem dL_isRight_339 : decode cL_isRight 339 = .ok (.invokevirtual 26, 3) := by decide +kernel
theorem dL_isRight_342 : decode cL_isRight 342 = .ok (.istore_n 3, 1) := by decide +kernel
theorem dL_isRight_343 : decode cL_isRight 343 = .ok (.aload_n 0, 1) := by decide +kernel
theorem dL_isRight_344 : decode cL_isRight 344 = .ok (.iload_n 2, 1) := by decide +kernel
theorem dL_isRight_345 : decode cL_isRight 345 = .ok (.iconst 2, 1) := by decide +kernel
theorem dL_isRight_346 : decode cL_isRight 346 = .ok (.invokevirtual 26, 3) := by decide +kernel
theorem dL_isRight_349 : decode cL_isRight 349 = .ok (.istore 4, 2) := by decide +kernel
theorem dL_isRight_351 : decode cL_isRight 351 = .ok (.aload_n 0, 1) := by decide +kernel
theorem dL_isRight_352 : decode cL_isRight 352 = .ok (.iload_n 2, 1) := by decide +kernel
theorem dL_isRight_353 : decode cL_isRight 353 = .ok (.iconst 0, 1) := by decide +kernel
theorem dL_isRight_354 : decode cL_isRight 354 = .ok (.invokevirtual 26, 3) := by decide +kernel
theorem dL_isRight_357 : decode cL_isRight 357 = .ok (.istore 5, 2) := by decide +kernel
theorem dL_isRight_359 : decode cL_isRight 359 = .ok (.aload_n 0, 1) := by decide +kernel
theorem dL_isRight_360 : decode cL_isRight 360 = .ok (.iload_n 3, 1) := by decide +kernel
theorem dL_isRight_361 : decode cL_isRight 361 = .ok (.iload 4, 2) := by decide +kernel
theorem dL_isRight_363 : decode cL_isRight 363 = .ok (.iconst 3, 1) := by decide +kernel
theorem dL_isRight_364 : decode cL_isRight 364 = .ok (.invokevirtual 18, 3) := by decide +kernel
theorem dL_isRight_367 : decode cL_isRight 367 = .ok (.iload_n 2, 1) := by decide +kernel
theorem dL_isRight_368 : decode cL_isRight 368 = .ok (.if_icmp .ne 92, 3) := by decide +kernel
theorem dL_isRight_371 : decode cL_isRight 371 = .ok (.aload_n 0, 1) := by decide +kernel
theorem dL_isRight_372 : decode cL_isRight 372 = .ok (.iload_n 3, 1) := by decide +kernel
theorem dL_isRight_373 : decode cL_isRight 373 = .ok (.iload 4, 2) := by decide +kernel
theorem dL_isRight_375 : decode cL_isRight 375 = .ok (.iconst 1, 1) := by decide +kernel
theorem dL_isRight_376 : decode cL_isRight 376 = .ok (.invokevirtual 18, 3) := by decide +kernel
theorem dL_isRight_379 : decode cL_isRight 379 = .ok (.ifCond .ne 81, 3) := by decide +kernel
theorem dL_isRight_382 : decode cL_isRight 382 = .ok (.aload_n 0, 1) := by decide +kernel
theorem dL_isRight_383 : decode cL_isRight 383 = .ok (.iload 5, 2) := by decide +kernel
theorem dL_isRight_385 : decode cL_isRight 385 = .ok (.iload_n 3, 1) := by decide +kernel
theorem dL_isRight_386 : decode cL_isRight 386 = .ok (.iload 4, 2) := by decide +kernel
theorem dL_isRight_388 : decode cL_isRight 388 = .ok (.iconst 4, 1) := by decide +kernel
theorem dL_isRight_389 : decode cL_isRight 389 = .ok (.invokevirtual 22, 3) := by decide +kernel
theorem dL_isRight_392 : decode cL_isRight 392 = .ok (.iconst 1, 1) := by decide +kernel
theorem dL_isRight_393 : decode cL_isRight 393 = .ok (.if_icmp .ne 67, 3) := by decide +kernel
theorem dL_isRight_396 : decode cL_isRight 396 = .ok (.aload_n 0, 1) := by decide +kernel
theorem dL_isRight_397 : decode cL_isRight 397 = .ok (.iconst 1, 1) := by decide +kernel
theorem dL_isRight_398 : decode cL_isRight 398 = .ok (.iload 5, 2) := by decide +kernel
theorem dL_isRight_400 : decode cL_isRight 400 = .ok (.isub, 1) := by decide +kernel
theorem dL_isRight_401 : decode cL_isRight 401 = .ok (.iload_n 3, 1) := by decide +kernel
theorem dL_isRight_402 : decode cL_isRight 402 = .ok (.iload 4, 2) := by decide +kernel
theorem dL_isRight_404 : decode cL_isRight 404 = .ok (.iconst 4, 1) := by decide +kernel
theorem dL_isRight_405 : decode cL_isRight 405 = .ok (.invokevirtual 22, 3) := by decide +kernel
theorem dL_isRight_408 : decode cL_isRight 408 = .ok (.aload_n 0, 1) := by decide +kernel
theorem dL_isRight_409 : decode cL_isRight 409 = .ok (.iload_n 2, 1) := by decide +kernel
theorem dL_isRight_410 : decode cL_isRight 410 = .ok (.iconst 5, 1) := by decide +kernel
theorem dL_isRight_411 : decode cL_isRight 411 = .ok (.invokevirtual 26, 3) := by decide +kernel
theorem dL_isRight_414 : decode cL_isRight 414 = .ok (.if_icmp .ne 46, 3) := by decide +kernel
theorem dL_isRight_417 : decode cL_isRight 417 = .ok (.aload_n 0, 1) := by decide +kernel
theorem dL_isRight_418 : decode cL_isRight 418 = .ok (.iload_n 2, 1) := by decide +kernel
theorem dL_isRight_419 : decode cL_isRight 419 = .ok (.iload_n 3, 1) := by decide +kernel
theorem dL_isRight_420 : decode cL_isRight 420 = .ok (.iload 4, 2) := by decide +kernel
theorem dL_isRight_422 : decode cL_isRight 422 = .ok (.invokevirtual 68, 3) := by decide +kernel
theorem dL_isRight_425 : decode cL_isRight 425 = .ok (.ifCond .ne 35, 3) := by decide +kernel
theorem dL_isRight_428 : decode cL_isRight 428 = .ok (.aload_n 0, 1) := by decide +kernel
theorem dL_isRight_429 : decode cL_isRight 429 = .ok (.iload_n 2, 1) := by decide +kernel
theorem dL_isRight_430 : decode cL_isRight 430 = .ok (.invokevirtual 71, 3) := by decide +kernel
theorem dL_isRight_433 : decode cL_isRight 433 = .ok (.aload_n 0, 1) := by decide +kernel
theorem dL_isRight_434 : decode cL_isRight 434 = .ok (.iload_n 2, 1) := by decide +kernel
theorem dL_isRight_435 : decode cL_isRight 435 = .ok (.iconst 4, 1) := by decide +kernel
theorem dL_isRight_436 : decode cL_isRight 436 = .ok (.invokevirtual 26, 3) := by decide +kernel
theorem dL_isRight_439 : decode cL_isRight 439 = .ok (.if_icmp .gt 21, 3) := by decide +kernel
theorem dL_isRight_442 : decode cL_isRight 442 = .ok (.aload_n 0, 1) := by decide +kernel
theorem dL_isRight_443 : decode cL_isRight 443 = .ok (.iload_n 2, 1) := by decide +kernel
theorem dL_isRight_444 : decode cL_isRight 444 = .ok (.iconst 4, 1) := by decide +kernel
theorem dL_isRight_445 : decode cL_isRight 445 = .ok (.invokevirtual 26, 3) := by decide +kernel
theorem dL_isRight_448 : decode cL_isRight 448 = .ok (.aload_n 0, 1) := by decide +kernel
theorem dL_isRight_449 : decode cL_isRight 449 = .ok (.bipush 6, 2) := by decide +kernel
theorem dL_isRight_451 : decode cL_isRight 451 = .ok (.iload 5, 2) := by decide +kernel
theorem dL_isRight_453 : decode cL_isRight 453 = .ok (.iadd, 1) := by decide +kernel
theorem dL_isRight_454 : decode cL_isRight 454 = .ok (.invokevirtual 12, 3) := by decide +kernel
theorem dL_isRight_457 : decode cL_isRight 457 = .ok (.if_icmp .le 5, 3) := by decide +kernel
theorem dL_isRight_460 : decode cL_isRight 460 = .ok (.iconst 0, 1) := by decide +kernel
theorem dL_isRight_461 : decode cL_isRight 461 = .ok (.ireturn, 1) := by decide +kernel
theorem dL_isRight_462 : decode cL_isRight 462 = .ok (.iconst 2, 1) := by decide +kernel
theorem dL_isRight_463 : decode cL_isRight 463 = .ok (.aload_n 0, 1) := by decide +kernel
theorem dL_isRight_464 : decode cL_isRight 464 = .ok (.iload_n 2, 1) := by decide +kernel
theorem dL_isRight_465 : decode cL_isRight 465 = .ok (.iconst 3, 1) := by decide +kernel
theorem dL_isRight_466 : decode cL_isRight 466 = .ok (.invokevirtual 26, 3) := by decide +kernel
theorem dL_isRight_469 : decode cL_isRight 469 = .ok (.imul, 1) := by decide +kernel
theorem dL_isRight_470 : decode cL_isRight 470 = .ok (.istore 6, 2) := by decide +kernel
theorem dL_isRight_472 : decode cL_isRight 472 = .ok (.aload_n 0, 1) := by decide +kernel
theorem dL_isRight_473 : decode cL_isRight 473 = .ok (.iload_n 2, 1) := by decide +kernel
theorem dL_isRight_474 : decode cL_isRight 474 = .ok (.iconst 2, 1) := by decide +kernel
theorem dL_isRight_475 : decode cL_isRight 475 = .ok (.invokevirtual 74, 3) := by decide +kernel
theorem dL_isRight_478 : decode cL_isRight 478 = .ok (.istore 7, 2) := by decide +kernel
theorem dL_isRight_480 : decode cL_isRight 480 = .ok (.iload 7, 2) := by decide +kernel
theorem dL_isRight_482 : decode cL_isRight 482 = .ok (.bipush 100, 2) := by decide +kernel
theorem dL_isRight_484 : decode cL_isRight 484 = .ok (.idiv, 1) := by decide +kernel
theorem dL_isRight_485 : decode cL_isRight 485 = .ok (.istore 8, 2) := by decide +kernel
theorem dL_isRight_487 : decode cL_isRight 487 = .ok (.iload 7, 2) := by decide +kernel
theorem dL_isRight_489 : decode cL_isRight 489 = .ok (.bipush 100, 2) := by decide +kernel
theorem dL_isRight_491 : decode cL_isRight 491 = .ok (.irem, 1) := by decide +kernel
theorem dL_isRight_492 : decode cL_isRight 492 = .ok (.istore 9, 2) := by decide +kernel
theorem dL_isRight_494 : decode cL_isRight 494 = .ok (.iload 7, 2) := by decide +kernel
theorem dL_isRight_496 : decode cL_isRight 496 = .ok (.ifCond .lt 58, 3) := by decide +kernel
theorem dL_isRight_499 : decode cL_isRight 499 = .ok (.iload 8, 2) := by decide +kernel
theorem dL_isRight_501 : decode cL_isRight 501 = .ok (.iload_n 3, 1) := by decide +kernel
theorem dL_isRight_502 : decode cL_isRight 502 = .ok (.invokestatic 77, 3) := by decide +kernel
theorem dL_isRight_505 : decode cL_isRight 505 = .ok (.iconst 2, 1) := by decide +kernel
theorem dL_isRight_506 : decode cL_isRight 506 = .ok (.if_icmp .gt 48, 3) := by decide +kernel
theorem dL_isRight_509 : decode cL_isRight 509 = .ok (.iload 9, 2) := by decide +kernel
theorem dL_isRight_511 : decode cL_isRight 511 = .ok (.iload 4, 2) := by decide +kernel
theorem dL_isRight_513 : decode cL_isRight 513 = .ok (.invokestatic 77, 3) := by decide +kernel
theorem dL_isRight_516 : decode cL_isRight 516 = .ok (.iconst 2, 1) := by decide +kernel
theorem dL_isRight_517 : decode cL_isRight 517 = .ok (.if_icmp .gt 37, 3) := by decide +kernel
theorem dL_isRight_520 : decode cL_isRight 520 = .ok (.aload_n 0, 1) := by decide +kernel
theorem dL_isRight_521 : decode cL_isRight 521 = .ok (.iload 8, 2) := by decide +kernel
theorem dL_isRight_523 : decode cL_isRight 523 = .ok (.iload 9, 2) := by decide +kernel
theorem dL_isRight_525 : decode cL_isRight 525 = .ok (.iconst 1, 1) := by decide +kernel
theorem dL_isRight_526 : decode cL_isRight 526 = .ok (.invokevirtual 18, 3) := by decide +kernel
theorem dL_isRight_529 : decode cL_isRight 529 = .ok (.ifCond .ne 25, 3) := by decide +kernel
theorem dL_isRight_532 : decode cL_isRight 532 = .ok (.aload_n 0, 1) := by decide +kernel
theorem dL_isRight_533 : decode cL_isRight 533 = .ok (.iload_n 2, 1) := by decide +kernel
theorem dL_isRight_534 : decode cL_isRight 534 = .ok (.iconst 0, 1) := by decide +kernel
theorem dL_isRight_535 : decode cL_isRight 535 = .ok (.invokevirtual 74, 3) := by decide +kernel
theorem dL_isRight_538 : decode cL_isRight 538 = .ok (.bipush 100, 2) := by decide +kernel
theorem dL_isRight_540 : decode cL_isRight 540 = .ok (.iload_n 3, 1) := by decide +kernel
theorem dL_isRight_541 : decode cL_isRight 541 = .ok (.imul, 1) := by decide +kernel
theorem dL_isRight_542 : decode cL_isRight 542 = .ok (.iload 4, 2) := by decide +kernel
theorem dL_isRight_544 : decode cL_isRight 544 = .ok (.iadd, 1) := by decide +kernel
theorem dL_isRight_545 : decode cL_isRight 545 = .ok (.if_icmp .ne 9, 3) := by decide +kernel
theorem dL_isRight_548 : decode cL_isRight 548 = .ok (.iload 6, 2) := by decide +kernel
theorem dL_isRight_550 : decode cL_isRight 550 = .ok (.iconst 2, 1) := by decide +kernel
theorem dL_isRight_551 : decode cL_isRight 551 = .ok (.if_icmp .ge 5, 3) := by decide +kernel
theorem dL_isRight_554 : decode cL_isRight 554 = .ok (.iconst 0, 1) := by decide +kernel
theorem dL_isRight_555 : decode cL_isRight 555 = .ok (.ireturn, 1) := by decide +kernel
theorem dL_isRight_556 : decode cL_isRight 556 = .ok (.aload_n 0, 1) := by decide +kernel
theorem dL_isRight_557 : decode cL_isRight 557 = .ok (.iload_n 2, 1) := by decide +kernel
theorem dL_isRight_558 : decode cL_isRight 558 = .ok (.iload_n 3, 1) := by decide +kernel
theorem dL_isRight_559 : decode cL_isRight 559 = .ok (.iconst 3, 1) := by decide +kernel
theorem dL_isRight_560 : decode cL_isRight 560 = .ok (.iadd, 1) := by decide +kernel
theorem dL_isRight_561 : decode cL_isRight 561 = .ok (.bipush 12, 2) := by decide +kernel
theorem dL_isRight_563 : decode cL_isRight 563 = .ok (.irem, 1) := by decide +kernel
theorem dL_isRight_564 : decode cL_isRight 564 = .ok (.iload 4, 2) := by decide +kernel
theorem dL_isRight_566 : decode cL_isRight 566 = .ok (.invokevirtual 68, 3) := by decide +kernel
theorem dL_isRight_569 : decode cL_isRight 569 = .ok (.istore 10, 2) := by decide +kernel
theorem dL_isRight_571 : decode cL_isRight 571 = .ok (.iload 10, 2) := by decide +kernel
theorem dL_isRight_573 : decode cL_isRight 573 = .ok (.ifCond .lt 57, 3) := by decide +kernel
theorem dL_isRight_576 : decode cL_isRight 576 = .ok (.iload 10, 2) := by decide +kernel
theorem dL_isRight_578 : decode cL_isRight 578 = .ok (.iload_n 3, 1) := by decide +kernel
theorem dL_isRight_579 : decode cL_isRight 579 = .ok (.iconst 3, 1) := by decide +kernel
theorem dL_isRight_580 : decode cL_isRight 580 = .ok (.iadd, 1) := by decide +kernel
theorem dL_isRight_581 : decode cL_isRight 581 = .ok (.bipush 12, 2) := by decide +kernel
theorem dL_isRight_583 : decode cL_isRight 583 = .ok (.irem, 1) := by decide +kernel
theorem dL_isRight_584 : decode cL_isRight 584 = .ok (.iload_n 3, 1) := by decide +kernel
theorem dL_isRight_585 : decode cL_isRight 585 = .ok (.invokestatic 77, 3) := by decide +kernel
theorem dL_isRight_588 : decode cL_isRight 588 = .ok (.if_icmp .lt 40, 3) := by decide +kernel
theorem dL_isRight_591 : decode cL_isRight 591 = .ok (.aload_n 0, 1) := by decide +kernel
theorem dL_isRight_592 : decode cL_isRight 592 = .ok (.iload 5, 2) := by decide +kernel
theorem dL_isRight_594 : decode cL_isRight 594 = .ok (.iload_n 3, 1) := by decide +kernel
theorem dL_isRight_595 : decode cL_isRight 595 = .ok (.iconst 3, 1) := by decide +kernel
theorem dL_isRight_596 : decode cL_isRight 596 = .ok (.iadd, 1) := by decide +kernel
theorem dL_isRight_597 : decode cL_isRight 597 = .ok (.bipush 12, 2) := by decide +kernel
theorem dL_isRight_599 : decode cL_isRight 599 = .ok (.irem, 1) := by decide +kernel
theorem dL_isRight_600 : decode cL_isRight 600 = .ok (.iload 4, 2) := by decide +kernel
theorem dL_isRight_602 : decode cL_isRight 602 = .ok (.iconst 0, 1) := by decide +kernel
theorem dL_isRight_603 : decode cL_isRight 603 = .ok (.invokevirtual 22, 3) := by decide +kernel
theorem dL_isRight_606 : decode cL_isRight 606 = .ok (.ifCond .eq 22, 3) := by decide +kernel
theorem dL_isRight_609 : decode cL_isRight 609 = .ok (.aload_n 0, 1) := by decide +kernel
theorem dL_isRight_610 : decode cL_isRight 610 = .ok (.iload 5, 2) := by decide +kernel
theorem dL_isRight_612 : decode cL_isRight 612 = .ok (.iload_n 3, 1) := by decide +kernel
theorem dL_isRight_613 : decode cL_isRight 613 = .ok (.iconst 3, 1) := by decide +kernel
theorem dL_isRight_614 : decode cL_isRight 614 = .ok (.iadd, 1) := by decide +kernel
theorem dL_isRight_615 : decode cL_isRight 615 = .ok (.bipush 12, 2) := by decide +kernel
theorem dL_isRight_617 : decode cL_isRight 617 = .ok (.irem, 1) := by decide +kernel
theorem dL_isRight_618 : decode cL_isRight 618 = .ok (.iload 4, 2) := by decide +kernel
theorem dL_isRight_620 : decode cL_isRight 620 = .ok (.iconst 2, 1) := by decide +kernel
theorem dL_isRight_621 : decode cL_isRight 621 = .ok (.invokevirtual 22, 3) := by decide +kernel
theorem dL_isRight_624 : decode cL_isRight 624 = .ok (.iconst 1, 1) := by decide +kernel
theorem dL_isRight_625 : decode cL_isRight 625 = .ok (.if_icmp .ne 5, 3) := by decide +kernel
theorem dL_isRight_628 : decode cL_isRight 628 = .ok (.iconst 0, 1) := by decide +kernel
theorem dL_isRight_629 : decode cL_isRight 629 = .ok (.ireturn, 1) := by decide +kernel
theorem dL_isRight_630 : decode cL_isRight 630 = .ok (.iinc 2 1, 3) := by decide +kernel
theorem dL_isRight_633 : decode cL_isRight 633 = .ok (.goto (-306), 3) := by decide +kernel
theorem dL_isRight_636 : decode cL_isRight 636 = .ok (.iload_n 1, 1) := by decide +kernel
theorem dL_isRight_637 : decode cL_isRight 637 = .ok (.iconst 2, 1) := by decide +kernel
theorem dL_isRight_638 : decode cL_isRight 638 = .ok (.aload_n 0, 1) := by decide +kernel
theorem dL_isRight_639 : decode cL_isRight 639 = .ok (.iconst 3, 1) := by decide +kernel
theorem dL_isRight_640 : decode cL_isRight 640 = .ok (.invokevirtual 12, 3) := by decide +kernel
theorem dL_isRight_643 : decode cL_isRight 643 = .ok (.imul, 1) := by decide +kernel
theorem dL_isRight_644 : decode cL_isRight 644 = .ok (.if_icmp .ne 7, 3) := by decide +kernel
theorem dL_isRight_647 : decode cL_isRight 647 = .ok (.iconst 1, 1) := by decide +kernel
theorem dL_isRight_648 : decode cL_isRight 648 = .ok (.goto 4, 3) := by decide +kernel
theorem dL_isRight_651 : decode cL_isRight 651 = .ok (.iconst 0, 1) := by decide +kernel
theorem dL_isRight_652 : decode cL_isRight 652 = .ok (.ireturn, 1) := by decide +kernel
abbrev cL_law : ByteArray := code
