theorem dX0_init_0 : decode cX0_init 0 = .ok (.aload_n 0, 1) := by decide +kernel
theorem dX0_init_1 : decode cX0_init 1 = .ok (.invokespecial 3, 3) := by decide +kernel
theorem dX0_init_4 : decode cX0_init 4 = .ok (.aload_n 0, 1) := by decide +kernel
theorem dX0_init_5 : decode cX0_init 5 = .ok (.bipush 16, 2) := by decide +kernel
theorem dX0_init_7 : decode cX0_init 7 = .ok (.newarray .int, 2) := by decide +kernel
theorem dX0_init_9 : decode cX0_init 9 = .ok (.putfield 9, 3) := by decide +kernel
theorem dX0_init_12 : decode cX0_init 12 = .ok (.aload_n 0, 1) := by decide +kernel
theorem dX0_init_13 : decode cX0_init 13 = .ok (.iconst 0, 1) := by decide +kernel
theorem dX0_init_14 : decode cX0_init 14 = .ok (.putfield 15, 3) := by decide +kernel
theorem dX0_init_17 : decode cX0_init 17 = .ok (.aload_n 0, 1) := by decide +kernel
theorem dX0_init_18 : decode cX0_init 18 = .ok (.iconst 0, 1) := by decide +kernel
theorem dX0_init_19 : decode cX0_init 19 = .ok (.putfield 19, 3) := by decide +kernel
theorem dX0_init_22 : decode cX0_init 22 = .ok (.aload_n 0, 1) := by decide +kernel
theorem dX0_init_23 : decode cX0_init 23 = .ok (.iload_n 1, 1) := by decide +kernel
theorem dX0_init_24 : decode cX0_init 24 = .ok (.putfield 22, 3) := by decide +kernel
theorem dX0_init_27 : decode cX0_init 27 = .ok (.return_, 1) := by decide +kernel
theorem dX0_put_0 : decode cX0_put 0 = .ok (.aload_n 0, 1) := by decide +kernel
theorem dX0_put_1 : decode cX0_put 1 = .ok (.getfield 9, 3) := by decide +kernel
theorem dX0_put_4 : decode cX0_put 4 = .ok (.iload_n 1, 1) := by decide +kernel
theorem dX0_put_5 : decode cX0_put 5 = .ok (.iload_n 2, 1) := by decide +kernel
theorem dX0_put_6 : decode cX0_put 6 = .ok (.iastore, 1) := by decide +kernel
theorem dX0_put_7 : decode cX0_put 7 = .ok (.aload_n 0, 1) := by decide +kernel
theorem dX0_put_8 : decode cX0_put 8 = .ok (.dup, 1) := by decide +kernel
theorem dX0_put_9 : decode cX0_put 9 = .ok (.getfield 15, 3) := by decide +kernel
theorem dX0_put_12 : decode cX0_put 12 = .ok (.iconst 1, 1) := by decide +kernel
theorem dX0_put_13 : decode cX0_put 13 = .ok (.iadd, 1) := by decide +kernel
theorem dX0_put_14 : decode cX0_put 14 = .ok (.putfield 15, 3) := by decide +kernel
theorem dX0_put_17 : decode cX0_put 17 = .ok (.return_, 1) := by decide +kernel
theorem dX0_isLive_0 : decode cX0_isLive 0 = .ok (.aload_n 0, 1) := by decide +kernel
theorem dX0_isLive_1 : decode cX0_isLive 1 = .ok (.getfield 9, 3) := by decide +kernel
theorem dX0_isLive_4 : decode cX0_isLive 4 = .ok (.iload_n 1, 1) := by decide +kernel
theorem dX0_isLive_5 : decode cX0_isLive 5 = .ok (.iaload, 1) := by decide +kernel
theorem dX0_isLive_6 : decode cX0_isLive 6 = .ok (.ifCond .eq 22, 3) := by decide +kernel
theorem dX0_isLive_9 : decode cX0_isLive 9 = .ok (.aload_n 0, 1) := by decide +kernel
theorem dX0_isLive_10 : decode cX0_isLive 10 = .ok (.getfield 9, 3) := by decide +kernel
theorem dX0_isLive_13 : decode cX0_isLive 13 = .ok (.iload_n 1, 1) := by decide +kernel
theorem dX0_isLive_14 : decode cX0_isLive 14 = .ok (.iaload, 1) := by decide +kernel
theorem dX0_isLive_15 : decode cX0_isLive 15 = .ok (.aload_n 2, 1) := by decide +kernel
theorem dX0_isLive_16 : decode cX0_isLive 16 = .ok (.getfield 25, 3) := by decide +kernel
theorem dX0_isLive_19 : decode cX0_isLive 19 = .ok (.iload_n 1, 1) := by decide +kernel
theorem dX0_isLive_20 : decode cX0_isLive 20 = .ok (.iaload, 1) := by decide +kernel
theorem dX0_isLive_21 : decode cX0_isLive 21 = .ok (.if_icmp .ne 7, 3) := by decide +kernel
theorem dX0_isLive_24 : decode cX0_isLive 24 = .ok (.iconst 1, 1) := by decide +kernel
theorem dX0_isLive_25 : decode cX0_isLive 25 = .ok (.goto 4, 3) := by decide +kernel
theorem dX0_isLive_28 : decode cX0_isLive 28 = .ok (.iconst 0, 1) := by decide +kernel
theorem dX0_isLive_29 : decode cX0_isLive 29 = .ok (.ireturn, 1) := by decide +kernel
theorem dX0_countLive_0 : decode cX0_countLive 0 = .ok (.iconst 0, 1) := by decide +kernel
theorem dX0_countLive_1 : decode cX0_countLive 1 = .ok (.istore_n 2, 1) := by decide +kernel
theorem dX0_countLive_2 : decode cX0_countLive 2 = .ok (.iconst 0, 1) := by decide +kernel
theorem dX0_countLive_3 : decode cX0_countLive 3 = .ok (.istore_n 3, 1) := by decide +kernel
theorem dX0_countLive_4 : decode cX0_countLive 4 = .ok (.iload_n 3, 1) := by decide +kernel
theorem dX0_countLive_5 : decode cX0_countLive 5 = .ok (.bipush 16, 2) := by decide +kernel
theorem dX0_countLive_7 : decode cX0_countLive 7 = .ok (.if_icmp .ge 21, 3) := by decide +kernel
theorem dX0_countLive_10 : decode cX0_countLive 10 = .ok (.aload_n 0, 1) := by decide +kernel
theorem dX0_countLive_11 : decode cX0_countLive 11 = .ok (.iload_n 3, 1) := by decide +kernel
theorem dX0_countLive_12 : decode cX0_countLive 12 = .ok (.aload_n 1, 1) := by decide +kernel
theorem dX0_countLive_13 : decode cX0_countLive 13 = .ok (.invokevirtual 30, 3) := by decide +kernel
theorem dX0_countLive_16 : decode cX0_countLive 16 = .ok (.ifCond .eq 6, 3) := by decide +kernel
theorem dX0_countLive_19 : decode cX0_countLive 19 = .ok (.iinc 2 1, 3) := by decide +kernel
theorem dX0_countLive_22 : decode cX0_countLive 22 = .ok (.iinc 3 1, 3) := by decide +kernel
theorem dX0_countLive_25 : decode cX0_countLive 25 = .ok (.goto (-21), 3) := by decide +kernel
theorem dX0_countLive_28 : decode cX0_countLive 28 = .ok (.iload_n 2, 1) := by decide +kernel
theorem dX0_countLive_29 : decode cX0_countLive 29 = .ok (.ireturn, 1) := by decide +kernel
theorem dX0_keyOfRow_0 : decode cX0_keyOfRow 0 = .ok (.iload_n 1, 1) := by decide +kernel
theorem dX0_keyOfRow_1 : decode cX0_keyOfRow 1 = .ok (.istore_n 2, 1) := by decide +kernel
theorem dX0_keyOfRow_2 : decode cX0_keyOfRow 2 = .ok (.iconst 0, 1) := by decide +kernel
theorem dX0_keyOfRow_3 : decode cX0_keyOfRow 3 = .ok (.istore_n 3, 1) := by decide +kernel
theorem dX0_keyOfRow_4 : decode cX0_keyOfRow 4 = .ok (.iload_n 3, 1) := by decide +kernel
theorem dX0_keyOfRow_5 : decode cX0_keyOfRow 5 = .ok (.bipush 16, 2) := by decide +kernel
theorem dX0_keyOfRow_7 : decode cX0_keyOfRow 7 = .ok (.if_icmp .ge 27, 3) := by decide +kernel
theorem dX0_keyOfRow_10 : decode cX0_keyOfRow 10 = .ok (.aload_n 0, 1) := by decide +kernel
theorem dX0_keyOfRow_11 : decode cX0_keyOfRow 11 = .ok (.getfield 9, 3) := by decide +kernel
theorem dX0_keyOfRow_14 : decode cX0_keyOfRow 14 = .ok (.iload_n 3, 1) := by decide +kernel
theorem dX0_keyOfRow_15 : decode cX0_keyOfRow 15 = .ok (.iaload, 1) := by decide +kernel
theorem dX0_keyOfRow_16 : decode cX0_keyOfRow 16 = .ok (.ifCond .eq 12, 3) := by decide +kernel
theorem dX0_keyOfRow_19 : decode cX0_keyOfRow 19 = .ok (.iload_n 2, 1) := by decide +kernel
theorem dX0_keyOfRow_20 : decode cX0_keyOfRow 20 = .ok (.ifCond .ne 5, 3) := by decide +kernel
theorem dX0_keyOfRow_23 : decode cX0_keyOfRow 23 = .ok (.iload_n 3, 1) := by decide +kernel
theorem dX0_keyOfRow_24 : decode cX0_keyOfRow 24 = .ok (.ireturn, 1) := by decide +kernel
theorem dX0_keyOfRow_25 : decode cX0_keyOfRow 25 = .ok (.iinc 2 (-1), 3) := by decide +kernel
theorem dX0_keyOfRow_28 : decode cX0_keyOfRow 28 = .ok (.iinc 3 1, 3) := by decide +kernel
theorem dX0_keyOfRow_31 : decode cX0_keyOfRow 31 = .ok (.goto (-27), 3) := by decide +kernel
theorem dX0_keyOfRow_34 : decode cX0_keyOfRow 34 = .ok (.iconst (-1), 1) := by decide +kernel
theorem dX0_keyOfRow_35 : decode cX0_keyOfRow 35 = .ok (.ireturn, 1) := by decide +kernel
theorem dX1_init_0 : decode cX1_init 0 = .ok (.aload_n 0, 1) := by decide +kernel
theorem dX1_init_1 : decode cX1_init 1 = .ok (.invokespecial 3, 3) := by decide +kernel
theorem dX1_init_4 : decode cX1_init 4 = .ok (.aload_n 0, 1) := by decide +kernel
theorem dX1_init_5 : decode cX1_init 5 = .ok (.iconst 0, 1) := by decide +kernel
theorem dX1_init_6 : decode cX1_init 6 = .ok (.putfield 9, 3) := by decide +kernel
theorem dX1_init_9 : decode cX1_init 9 = .ok (.aload_n 0, 1) := by decide +kernel
theorem dX1_init_10 : decode cX1_init 10 = .ok (.bipush 16, 2) := by decide +kernel
theorem dX1_init_12 : decode cX1_init 12 = .ok (.newarray .int, 2) := by decide +kernel
theorem dX1_init_14 : decode cX1_init 14 = .ok (.putfield 15, 3) := by decide +kernel
theorem dX1_init_17 : decode cX1_init 17 = .ok (.aload_n 0, 1) := by decide +kernel
theorem dX1_init_18 : decode cX1_init 18 = .ok (.bipush 16, 2) := by decide +kernel
theorem dX1_init_20 : decode cX1_init 20 = .ok (.newarray .int, 2) := by decide +kernel
theorem dX1_init_22 : decode cX1_init 22 = .ok (.putfield 19, 3) := by decide +kernel
theorem dX1_init_25 : decode cX1_init 25 = .ok (.return_, 1) := by decide +kernel
theorem dX1_change_0 : decode cX1_change 0 = .ok (.aload_n 0, 1) := by decide +kernel
theorem dX1_change_1 : decode cX1_change 1 = .ok (.dup, 1) := by decide +kernel
theorem dX1_change_2 : decode cX1_change 2 = .ok (.getfield 9, 3) := by decide +kernel
theorem dX1_change_5 : decode cX1_change 5 = .ok (.iconst 1, 1) := by decide +kernel
theorem dX1_change_6 : decode cX1_change 6 = .ok (.iadd, 1) := by decide +kernel
theorem dX1_change_7 : decode cX1_change 7 = .ok (.putfield 9, 3) := by decide +kernel
theorem dX1_change_10 : decode cX1_change 10 = .ok (.aload_n 0, 1) := by decide +kernel
theorem dX1_change_11 : decode cX1_change 11 = .ok (.getfield 15, 3) := by decide +kernel
theorem dX1_change_14 : decode cX1_change 14 = .ok (.iload_n 1, 1) := by decide +kernel
theorem dX1_change_15 : decode cX1_change 15 = .ok (.aload_n 0, 1) := by decide +kernel
theorem dX1_change_16 : decode cX1_change 16 = .ok (.getfield 9, 3) := by decide +kernel
theorem dX1_change_19 : decode cX1_change 19 = .ok (.iastore, 1) := by decide +kernel
theorem dX1_change_20 : decode cX1_change 20 = .ok (.aload_n 0, 1) := by decide +kernel
theorem dX1_change_21 : decode cX1_change 21 = .ok (.getfield 19, 3) := by decide +kernel
theorem dX1_change_24 : decode cX1_change 24 = .ok (.iload_n 1, 1) := by decide +kernel
theorem dX1_change_25 : decode cX1_change 25 = .ok (.iload_n 2, 1) := by decide +kernel
theorem dX1_change_26 : decode cX1_change 26 = .ok (.iastore, 1) := by decide +kernel
theorem dX1_change_27 : decode cX1_change 27 = .ok (.aload_n 0, 1) := by decide +kernel
theorem dX1_change_28 : decode cX1_change 28 = .ok (.getfield 9, 3) := by decide +kernel
theorem dX1_change_31 : decode cX1_change 31 = .ok (.ireturn, 1) := by decide +kernel
theorem dX1_copyFrom_0 : decode cX1_copyFrom 0 = .ok (.aload_n 0, 1) := by decide +kernel
theorem dX1_copyFrom_1 : decode cX1_copyFrom 1 = .ok (.aload_n 1, 1) := by decide +kernel
theorem dX1_copyFrom_2 : decode cX1_copyFrom 2 = .ok (.getfield 9, 3) := by decide +kernel
theorem dX1_copyFrom_5 : decode cX1_copyFrom 5 = .ok (.putfield 9, 3) := by decide +kernel
theorem dX1_copyFrom_8 : decode cX1_copyFrom 8 = .ok (.aload_n 1, 1) := by decide +kernel
theorem dX1_copyFrom_9 : decode cX1_copyFrom 9 = .ok (.getfield 15, 3) := by decide +kernel
theorem dX1_copyFrom_12 : decode cX1_copyFrom 12 = .ok (.iconst 0, 1) := by decide +kernel
theorem dX1_copyFrom_13 : decode cX1_copyFrom 13 = .ok (.aload_n 0, 1) := by decide +kernel
theorem dX1_copyFrom_14 : decode cX1_copyFrom 14 = .ok (.getfield 15, 3) := by decide +kernel
theorem dX1_copyFrom_17 : decode cX1_copyFrom 17 = .ok (.iconst 0, 1) := by decide +kernel
theorem dX1_copyFrom_18 : decode cX1_copyFrom 18 = .ok (.bipush 16, 2) := by decide +kernel
theorem dX1_copyFrom_20 : decode cX1_copyFrom 20 = .ok (.invokestatic 22, 3) := by decide +kernel
theorem dX1_copyFrom_23 : decode cX1_copyFrom 23 = .ok (.aload_n 1, 1) := by decide +kernel
theorem dX1_copyFrom_24 : decode cX1_copyFrom 24 = .ok (.getfield 19, 3) := by decide +kernel
theorem dX1_copyFrom_27 : decode cX1_copyFrom 27 = .ok (.iconst 0, 1) := by decide +kernel
theorem dX1_copyFrom_28 : decode cX1_copyFrom 28 = .ok (.aload_n 0, 1) := by decide +kernel
theorem dX1_copyFrom_29 : decode cX1_copyFrom 29 = .ok (.getfield 19, 3) := by decide +kernel
theorem dX1_copyFrom_32 : decode cX1_copyFrom 32 = .ok (.iconst 0, 1) := by decide +kernel
theorem dX1_copyFrom_33 : decode cX1_copyFrom 33 = .ok (.bipush 16, 2) := by decide +kernel
theorem dX1_copyFrom_35 : decode cX1_copyFrom 35 = .ok (.invokestatic 22, 3) := by decide +kernel
theorem dX1_copyFrom_38 : decode cX1_copyFrom 38 = .ok (.return_, 1) := by decide +kernel
theorem dX1_lives_0 : decode cX1_lives 0 = .ok (.aload_n 0, 1) := by decide +kernel
theorem dX1_lives_1 : decode cX1_lives 1 = .ok (.getfield 19, 3) := by decide +kernel
theorem dX1_lives_4 : decode cX1_lives 4 = .ok (.iload_n 1, 1) := by decide +kernel
theorem dX1_lives_5 : decode cX1_lives 5 = .ok (.iaload, 1) := by decide +kernel
theorem dX1_lives_6 : decode cX1_lives 6 = .ok (.ifCond .eq 7, 3) := by decide +kernel
theorem dX1_lives_9 : decode cX1_lives 9 = .ok (.iconst 1, 1) := by decide +kernel
theorem dX1_lives_10 : decode cX1_lives 10 = .ok (.goto 4, 3) := by decide +kernel
theorem dX1_lives_13 : decode cX1_lives 13 = .ok (.iconst 0, 1) := by decide +kernel
theorem dX1_lives_14 : decode cX1_lives 14 = .ok (.ireturn, 1) := by decide +kernel
theorem dX1_writtenAs_0 : decode cX1_writtenAs 0 = .ok (.aload_n 0, 1) := by decide +kernel
theorem dX1_writtenAs_1 : decode cX1_writtenAs 1 = .ok (.iload_n 1, 1) := by decide +kernel
theorem dX1_writtenAs_2 : decode cX1_writtenAs 2 = .ok (.invokevirtual 28, 3) := by decide +kernel
theorem dX1_writtenAs_5 : decode cX1_writtenAs 5 = .ok (.ifCond .eq 12, 3) := by decide +kernel
theorem dX1_writtenAs_8 : decode cX1_writtenAs 8 = .ok (.aload_n 0, 1) := by decide +kernel
theorem dX1_writtenAs_9 : decode cX1_writtenAs 9 = .ok (.getfield 15, 3) := by decide +kernel
theorem dX1_writtenAs_12 : decode cX1_writtenAs 12 = .ok (.iload_n 1, 1) := by decide +kernel
theorem dX1_writtenAs_13 : decode cX1_writtenAs 13 = .ok (.iaload, 1) := by decide +kernel
theorem dX1_writtenAs_14 : decode cX1_writtenAs 14 = .ok (.goto 4, 3) := by decide +kernel
theorem dX1_writtenAs_17 : decode cX1_writtenAs 17 = .ok (.iconst 0, 1) := by decide +kernel
theorem dX1_writtenAs_18 : decode cX1_writtenAs 18 = .ok (.ireturn, 1) := by decide +kernel
theorem dX1_fits_0 : decode cX1_fits 0 = .ok (.aload_n 0, 1) := by decide +kernel
theorem dX1_fits_1 : decode cX1_fits 1 = .ok (.iload_n 1, 1) := by decide +kernel
theorem dX1_fits_2 : decode cX1_fits 2 = .ok (.invokevirtual 28, 3) := by decide +kernel
theorem dX1_fits_5 : decode cX1_fits 5 = .ok (.ifCond .eq 19, 3) := by decide +kernel
theorem dX1_fits_8 : decode cX1_fits 8 = .ok (.aload_n 0, 1) := by decide +kernel
theorem dX1_fits_9 : decode cX1_fits 9 = .ok (.getfield 19, 3) := by decide +kernel
theorem dX1_fits_12 : decode cX1_fits 12 = .ok (.iload_n 1, 1) := by decide +kernel
theorem dX1_fits_13 : decode cX1_fits 13 = .ok (.iaload, 1) := by decide +kernel
theorem dX1_fits_14 : decode cX1_fits 14 = .ok (.iload_n 2, 1) := by decide +kernel
theorem dX1_fits_15 : decode cX1_fits 15 = .ok (.iand, 1) := by decide +kernel
theorem dX1_fits_16 : decode cX1_fits 16 = .ok (.iload_n 2, 1) := by decide +kernel
theorem dX1_fits_17 : decode cX1_fits 17 = .ok (.if_icmp .ne 7, 3) := by decide +kernel
theorem dX1_fits_20 : decode cX1_fits 20 = .ok (.iconst 1, 1) := by decide +kernel
theorem dX1_fits_21 : decode cX1_fits 21 = .ok (.goto 4, 3) := by decide +kernel
theorem dX1_fits_24 : decode cX1_fits 24 = .ok (.iconst 0, 1) := by decide +kernel
theorem dX1_fits_25 : decode cX1_fits 25 = .ok (.ireturn, 1) := by decide +kernel
theorem dX1_rank_0 : decode cX1_rank 0 = .ok (.aload_n 0, 1) := by decide +kernel
theorem dX1_rank_1 : decode cX1_rank 1 = .ok (.getfield 19, 3) := by decide +kernel
theorem dX1_rank_4 : decode cX1_rank 4 = .ok (.iload_n 1, 1) := by decide +kernel
theorem dX1_rank_5 : decode cX1_rank 5 = .ok (.iaload, 1) := by decide +kernel
theorem dX1_rank_6 : decode cX1_rank 6 = .ok (.iload_n 2, 1) := by decide +kernel
theorem dX1_rank_7 : decode cX1_rank 7 = .ok (.iand, 1) := by decide +kernel
theorem dX1_rank_8 : decode cX1_rank 8 = .ok (.invokestatic 32, 3) := by decide +kernel
theorem dX1_rank_11 : decode cX1_rank 11 = .ok (.sipush 601, 3) := by decide +kernel
theorem dX1_rank_14 : decode cX1_rank 14 = .ok (.imul, 1) := by decide +kernel
theorem dX1_rank_15 : decode cX1_rank 15 = .ok (.aload_n 0, 1) := by decide +kernel
theorem dX1_rank_16 : decode cX1_rank 16 = .ok (.getfield 15, 3) := by decide +kernel
theorem dX1_rank_19 : decode cX1_rank 19 = .ok (.iload_n 1, 1) := by decide +kernel
theorem dX1_rank_20 : decode cX1_rank 20 = .ok (.iaload, 1) := by decide +kernel
theorem dX1_rank_21 : decode cX1_rank 21 = .ok (.iadd, 1) := by decide +kernel
theorem dX1_rank_22 : decode cX1_rank 22 = .ok (.ireturn, 1) := by decide +kernel
theorem dX1_countBefore_0 : decode cX1_countBefore 0 = .ok (.iconst 0, 1) := by decide +kernel
theorem dX1_countBefore_1 : decode cX1_countBefore 1 = .ok (.istore 4, 2) := by decide +kernel
theorem dX1_countBefore_3 : decode cX1_countBefore 3 = .ok (.iconst 0, 1) := by decide +kernel
theorem dX1_countBefore_4 : decode cX1_countBefore 4 = .ok (.istore 5, 2) := by decide +kernel
theorem dX1_countBefore_6 : decode cX1_countBefore 6 = .ok (.iload 5, 2) := by decide +kernel
theorem dX1_countBefore_8 : decode cX1_countBefore 8 = .ok (.bipush 16, 2) := by decide +kernel
theorem dX1_countBefore_10 : decode cX1_countBefore 10 = .ok (.if_icmp .ge 38, 3) := by decide +kernel
theorem dX1_countBefore_13 : decode cX1_countBefore 13 = .ok (.aload_n 0, 1) := by decide +kernel
theorem dX1_countBefore_14 : decode cX1_countBefore 14 = .ok (.iload 5, 2) := by decide +kernel
theorem dX1_countBefore_16 : decode cX1_countBefore 16 = .ok (.iload_n 2, 1) := by decide +kernel
theorem dX1_countBefore_17 : decode cX1_countBefore 17 = .ok (.invokevirtual 38, 3) := by decide +kernel
theorem dX1_countBefore_20 : decode cX1_countBefore 20 = .ok (.ifCond .eq 22, 3) := by decide +kernel
theorem dX1_countBefore_23 : decode cX1_countBefore 23 = .ok (.aload_n 0, 1) := by decide +kernel
theorem dX1_countBefore_24 : decode cX1_countBefore 24 = .ok (.iload 5, 2) := by decide +kernel
theorem dX1_countBefore_26 : decode cX1_countBefore 26 = .ok (.iload_n 3, 1) := by decide +kernel
theorem dX1_countBefore_27 : decode cX1_countBefore 27 = .ok (.invokevirtual 42, 3) := by decide +kernel
theorem dX1_countBefore_30 : decode cX1_countBefore 30 = .ok (.aload_n 0, 1) := by decide +kernel
theorem dX1_countBefore_31 : decode cX1_countBefore 31 = .ok (.iload_n 1, 1) := by decide +kernel
theorem dX1_countBefore_32 : decode cX1_countBefore 32 = .ok (.iload_n 3, 1) := by decide +kernel
theorem dX1_countBefore_33 : decode cX1_countBefore 33 = .ok (.invokevirtual 42, 3) := by decide +kernel
theorem dX1_countBefore_36 : decode cX1_countBefore 36 = .ok (.if_icmp .le 6, 3) := by decide +kernel
theorem dX1_countBefore_39 : decode cX1_countBefore 39 = .ok (.iinc 4 1, 3) := by decide +kernel
theorem dX1_countBefore_42 : decode cX1_countBefore 42 = .ok (.iinc 5 1, 3) := by decide +kernel
theorem dX1_countBefore_45 : decode cX1_countBefore 45 = .ok (.goto (-39), 3) := by decide +kernel
theorem dX1_countBefore_48 : decode cX1_countBefore 48 = .ok (.iload 4, 2) := by decide +kernel
theorem dX1_countBefore_50 : decode cX1_countBefore 50 = .ok (.ireturn, 1) := by decide +kernel
theorem dX2_init_0 : decode cX2_init 0 = .ok (.aload_n 0, 1) := by decide +kernel
theorem dX2_init_1 : decode cX2_init 1 = .ok (.invokespecial 1, 3) := by decide +kernel
theorem dX2_init_4 : decode cX2_init 4 = .ok (.aload_n 0, 1) := by decide +kernel
theorem dX2_init_5 : decode cX2_init 5 = .ok (.iconst 0, 1) := by decide +kernel
theorem dX2_init_6 : decode cX2_init 6 = .ok (.putfield 7, 3) := by decide +kernel
theorem dX2_init_9 : decode cX2_init 9 = .ok (.aload_n 0, 1) := by decide +kernel
theorem dX2_init_10 : decode cX2_init 10 = .ok (.iload_n 1, 1) := by decide +kernel
theorem dX2_init_11 : decode cX2_init 11 = .ok (.putfield 13, 3) := by decide +kernel
theorem dX2_init_14 : decode cX2_init 14 = .ok (.aload_n 0, 1) := by decide +kernel
theorem dX2_init_15 : decode cX2_init 15 = .ok (.aload_n 2, 1) := by decide +kernel
theorem dX2_init_16 : decode cX2_init 16 = .ok (.putfield 16, 3) := by decide +kernel
theorem dX2_init_19 : decode cX2_init 19 = .ok (.aload_n 0, 1) := by decide +kernel
theorem dX2_init_20 : decode cX2_init 20 = .ok (.aload_n 3, 1) := by decide +kernel
theorem dX2_init_21 : decode cX2_init 21 = .ok (.putfield 20, 3) := by decide +kernel
theorem dX2_init_24 : decode cX2_init 24 = .ok (.return_, 1) := by decide +kernel
theorem dX3_init_0 : decode cX3_init 0 = .ok (.aload_n 0, 1) := by decide +kernel
theorem dX3_init_1 : decode cX3_init 1 = .ok (.invokespecial 1, 3) := by decide +kernel
theorem dX3_init_4 : decode cX3_init 4 = .ok (.aload_n 0, 1) := by decide +kernel
theorem dX3_init_5 : decode cX3_init 5 = .ok (.new 7, 3) := by decide +kernel
theorem dX3_init_8 : decode cX3_init 8 = .ok (.dup, 1) := by decide +kernel
theorem dX3_init_9 : decode cX3_init 9 = .ok (.invokespecial 9, 3) := by decide +kernel
theorem dX3_init_12 : decode cX3_init 12 = .ok (.putfield 10, 3) := by decide +kernel
theorem dX3_init_15 : decode cX3_init 15 = .ok (.aload_n 0, 1) := by decide +kernel
theorem dX3_init_16 : decode cX3_init 16 = .ok (.new 7, 3) := by decide +kernel
theorem dX3_init_19 : decode cX3_init 19 = .ok (.dup, 1) := by decide +kernel
theorem dX3_init_20 : decode cX3_init 20 = .ok (.invokespecial 9, 3) := by decide +kernel
theorem dX3_init_23 : decode cX3_init 23 = .ok (.putfield 16, 3) := by decide +kernel
theorem dX3_init_26 : decode cX3_init 26 = .ok (.aload_n 0, 1) := by decide +kernel
theorem dX3_init_27 : decode cX3_init 27 = .ok (.sipush 150, 3) := by decide +kernel
theorem dX3_init_30 : decode cX3_init 30 = .ok (.anewarray 19, 3) := by decide +kernel
theorem dX3_init_33 : decode cX3_init 33 = .ok (.putfield 21, 3) := by decide +kernel
theorem dX3_init_36 : decode cX3_init 36 = .ok (.aload_n 0, 1) := by decide +kernel
theorem dX3_init_37 : decode cX3_init 37 = .ok (.iconst 1, 1) := by decide +kernel
theorem dX3_init_38 : decode cX3_init 38 = .ok (.putfield 25, 3) := by decide +kernel
theorem dX3_init_41 : decode cX3_init 41 = .ok (.aload_n 0, 1) := by decide +kernel
theorem dX3_init_42 : decode cX3_init 42 = .ok (.iconst 0, 1) := by decide +kernel
theorem dX3_init_43 : decode cX3_init 43 = .ok (.putfield 29, 3) := by decide +kernel
theorem dX3_init_46 : decode cX3_init 46 = .ok (.aload_n 0, 1) := by decide +kernel
theorem dX3_init_47 : decode cX3_init 47 = .ok (.iconst 0, 1) := by decide +kernel
theorem dX3_init_48 : decode cX3_init 48 = .ok (.putfield 32, 3) := by decide +kernel
theorem dX3_init_51 : decode cX3_init 51 = .ok (.aload_n 0, 1) := by decide +kernel
theorem dX3_init_52 : decode cX3_init 52 = .ok (.iconst 0, 1) := by decide +kernel
theorem dX3_init_53 : decode cX3_init 53 = .ok (.putfield 35, 3) := by decide +kernel
theorem dX3_init_56 : decode cX3_init 56 = .ok (.aload_n 0, 1) := by decide +kernel
theorem dX3_init_57 : decode cX3_init 57 = .ok (.iconst (-1), 1) := by decide +kernel
theorem dX3_init_58 : decode cX3_init 58 = .ok (.putfield 38, 3) := by decide +kernel
theorem dX3_init_61 : decode cX3_init 61 = .ok (.aload_n 0, 1) := by decide +kernel
theorem dX3_init_62 : decode cX3_init 62 = .ok (.iconst (-1), 1) := by decide +kernel
theorem dX3_init_63 : decode cX3_init 63 = .ok (.putfield 41, 3) := by decide +kernel
theorem dX3_init_66 : decode cX3_init 66 = .ok (.aload_n 0, 1) := by decide +kernel
theorem dX3_init_67 : decode cX3_init 67 = .ok (.iconst 0, 1) := by decide +kernel
theorem dX3_init_68 : decode cX3_init 68 = .ok (.putfield 44, 3) := by decide +kernel
theorem dX3_init_71 : decode cX3_init 71 = .ok (.new 19, 3) := by decide +kernel
theorem dX3_init_74 : decode cX3_init 74 = .ok (.dup, 1) := by decide +kernel
theorem dX3_init_75 : decode cX3_init 75 = .ok (.iconst 0, 1) := by decide +kernel
theorem dX3_init_76 : decode cX3_init 76 = .ok (.new 7, 3) := by decide +kernel
theorem dX3_init_79 : decode cX3_init 79 = .ok (.dup, 1) := by decide +kernel
theorem dX3_init_80 : decode cX3_init 80 = .ok (.invokespecial 9, 3) := by decide +kernel
theorem dX3_init_83 : decode cX3_init 83 = .ok (.iconst 0, 1) := by decide +kernel
theorem dX3_init_84 : decode cX3_init 84 = .ok (.anewarray 47, 3) := by decide +kernel
theorem dX3_init_87 : decode cX3_init 87 = .ok (.invokespecial 49, 3) := by decide +kernel
theorem dX3_init_90 : decode cX3_init 90 = .ok (.astore_n 1, 1) := by decide +kernel
theorem dX3_init_91 : decode cX3_init 91 = .ok (.aload_n 0, 1) := by decide +kernel
theorem dX3_init_92 : decode cX3_init 92 = .ok (.getfield 21, 3) := by decide +kernel
theorem dX3_init_95 : decode cX3_init 95 = .ok (.iconst 0, 1) := by decide +kernel
theorem dX3_init_96 : decode cX3_init 96 = .ok (.aload_n 1, 1) := by decide +kernel
theorem dX3_init_97 : decode cX3_init 97 = .ok (.aastore, 1) := by decide +kernel
theorem dX3_init_98 : decode cX3_init 98 = .ok (.aload_n 0, 1) := by decide +kernel
theorem dX3_init_99 : decode cX3_init 99 = .ok (.aload_n 1, 1) := by decide +kernel
theorem dX3_init_100 : decode cX3_init 100 = .ok (.putfield 52, 3) := by decide +kernel
theorem dX3_init_103 : decode cX3_init 103 = .ok (.aload_n 0, 1) := by decide +kernel
theorem dX3_init_104 : decode cX3_init 104 = .ok (.aload_n 1, 1) := by decide +kernel
theorem dX3_init_105 : decode cX3_init 105 = .ok (.putfield 56, 3) := by decide +kernel
theorem dX3_init_108 : decode cX3_init 108 = .ok (.return_, 1) := by decide +kernel
theorem dX3_write_0 : decode cX3_write 0 = .ok (.iload_n 1, 1) := by decide +kernel
theorem dX3_write_1 : decode cX3_write 1 = .ok (.invokestatic 59, 3) := by decide +kernel
theorem dX3_write_4 : decode cX3_write 4 = .ok (.ifCond .eq 20, 3) := by decide +kernel
theorem dX3_write_7 : decode cX3_write 7 = .ok (.iload_n 2, 1) := by decide +kernel
theorem dX3_write_8 : decode cX3_write 8 = .ok (.iconst 1, 1) := by decide +kernel
theorem dX3_write_9 : decode cX3_write 9 = .ok (.if_icmp .lt 15, 3) := by decide +kernel
theorem dX3_write_12 : decode cX3_write 12 = .ok (.iload_n 2, 1) := by decide +kernel
theorem dX3_write_13 : decode cX3_write 13 = .ok (.sipush 255, 3) := by decide +kernel
theorem dX3_write_16 : decode cX3_write 16 = .ok (.if_icmp .gt 8, 3) := by decide +kernel
theorem dX3_write_19 : decode cX3_write 19 = .ok (.iload_n 3, 1) := by decide +kernel
theorem dX3_write_20 : decode cX3_write 20 = .ok (.iconst (-1), 1) := by decide +kernel
theorem dX3_write_21 : decode cX3_write 21 = .ok (.if_icmp .ge 6, 3) := by decide +kernel
theorem dX3_write_24 : decode cX3_write 24 = .ok (.bipush (-3), 2) := by decide +kernel
theorem dX3_write_26 : decode cX3_write 26 = .ok (.ireturn, 1) := by decide +kernel
theorem dX3_write_27 : decode cX3_write 27 = .ok (.aload_n 0, 1) := by decide +kernel
theorem dX3_write_28 : decode cX3_write 28 = .ok (.iload_n 1, 1) := by decide +kernel
theorem dX3_write_29 : decode cX3_write 29 = .ok (.iload_n 2, 1) := by decide +kernel
theorem dX3_write_30 : decode cX3_write 30 = .ok (.iload_n 3, 1) := by decide +kernel
theorem dX3_write_31 : decode cX3_write 31 = .ok (.invokevirtual 63, 3) := by decide +kernel
theorem dX3_write_34 : decode cX3_write 34 = .ok (.ireturn, 1) := by decide +kernel
theorem dX3_remove_0 : decode cX3_remove 0 = .ok (.iload_n 1, 1) := by decide +kernel
theorem dX3_remove_1 : decode cX3_remove 1 = .ok (.invokestatic 59, 3) := by decide +kernel
theorem dX3_remove_4 : decode cX3_remove 4 = .ok (.ifCond .eq 8, 3) := by decide +kernel
theorem dX3_remove_7 : decode cX3_remove 7 = .ok (.iload_n 2, 1) := by decide +kernel
theorem dX3_remove_8 : decode cX3_remove 8 = .ok (.iconst (-1), 1) := by decide +kernel
theorem dX3_remove_9 : decode cX3_remove 9 = .ok (.if_icmp .ge 6, 3) := by decide +kernel
theorem dX3_remove_12 : decode cX3_remove 12 = .ok (.bipush (-3), 2) := by decide +kernel
theorem dX3_remove_14 : decode cX3_remove 14 = .ok (.ireturn, 1) := by decide +kernel
theorem dX3_remove_15 : decode cX3_remove 15 = .ok (.aload_n 0, 1) := by decide +kernel
theorem dX3_remove_16 : decode cX3_remove 16 = .ok (.iload_n 1, 1) := by decide +kernel
theorem dX3_remove_17 : decode cX3_remove 17 = .ok (.iconst 0, 1) := by decide +kernel
theorem dX3_remove_18 : decode cX3_remove 18 = .ok (.iload_n 2, 1) := by decide +kernel
theorem dX3_remove_19 : decode cX3_remove 19 = .ok (.invokevirtual 63, 3) := by decide +kernel
theorem dX3_remove_22 : decode cX3_remove 22 = .ok (.ireturn, 1) := by decide +kernel
theorem dX3_drop_0 : decode cX3_drop 0 = .ok (.aload_n 0, 1) := by decide +kernel
theorem dX3_drop_1 : decode cX3_drop 1 = .ok (.iload_n 1, 1) := by decide +kernel
theorem dX3_drop_2 : decode cX3_drop 2 = .ok (.invokevirtual 67, 3) := by decide +kernel
theorem dX3_drop_5 : decode cX3_drop 5 = .ok (.astore_n 3, 1) := by decide +kernel
theorem dX3_drop_6 : decode cX3_drop 6 = .ok (.aload_n 3, 1) := by decide +kernel
theorem dX3_drop_7 : decode cX3_drop 7 = .ok (.ifnonnull 6, 3) := by decide +kernel
theorem dX3_drop_10 : decode cX3_drop 10 = .ok (.bipush (-2), 2) := by decide +kernel
theorem dX3_drop_12 : decode cX3_drop 12 = .ok (.ireturn, 1) := by decide +kernel
theorem dX3_drop_13 : decode cX3_drop 13 = .ok (.iload_n 2, 1) := by decide +kernel
theorem dX3_drop_14 : decode cX3_drop 14 = .ok (.invokestatic 71, 3) := by decide +kernel
theorem dX3_drop_17 : decode cX3_drop 17 = .ok (.ifCond .ne 6, 3) := by decide +kernel
theorem dX3_drop_20 : decode cX3_drop 20 = .ok (.bipush (-3), 2) := by decide +kernel
theorem dX3_drop_22 : decode cX3_drop 22 = .ok (.ireturn, 1) := by decide +kernel
theorem dX3_drop_23 : decode cX3_drop 23 = .ok (.aload_n 3, 1) := by decide +kernel
theorem dX3_drop_24 : decode cX3_drop 24 = .ok (.getfield 74, 3) := by decide +kernel
theorem dX3_drop_27 : decode cX3_drop 27 = .ok (.iload_n 2, 1) := by decide +kernel
theorem dX3_drop_28 : decode cX3_drop 28 = .ok (.invokestatic 77, 3) := by decide +kernel
theorem dX3_drop_31 : decode cX3_drop 31 = .ok (.istore 4, 2) := by decide +kernel
theorem dX3_drop_33 : decode cX3_drop 33 = .ok (.aload_n 0, 1) := by decide +kernel
theorem dX3_drop_34 : decode cX3_drop 34 = .ok (.aload_n 3, 1) := by decide +kernel
theorem dX3_drop_35 : decode cX3_drop 35 = .ok (.getfield 74, 3) := by decide +kernel
theorem dX3_drop_38 : decode cX3_drop 38 = .ok (.iload_n 2, 1) := by decide +kernel
theorem dX3_drop_39 : decode cX3_drop 39 = .ok (.invokevirtual 81, 3) := by decide +kernel
theorem dX3_drop_42 : decode cX3_drop 42 = .ok (.istore 5, 2) := by decide +kernel
theorem dX3_drop_44 : decode cX3_drop 44 = .ok (.aload_n 0, 1) := by decide +kernel
theorem dX3_drop_45 : decode cX3_drop 45 = .ok (.getfield 10, 3) := by decide +kernel
theorem dX3_drop_48 : decode cX3_drop 48 = .ok (.getfield 84, 3) := by decide +kernel
theorem dX3_drop_51 : decode cX3_drop 51 = .ok (.iload 5, 2) := by decide +kernel
theorem dX3_drop_53 : decode cX3_drop 53 = .ok (.iadd, 1) := by decide +kernel
theorem dX3_drop_54 : decode cX3_drop 54 = .ok (.sipush 600, 3) := by decide +kernel
theorem dX3_drop_57 : decode cX3_drop 57 = .ok (.if_icmp .le 6, 3) := by decide +kernel
theorem dX3_drop_60 : decode cX3_drop 60 = .ok (.bipush (-5), 2) := by decide +kernel
theorem dX3_drop_62 : decode cX3_drop 62 = .ok (.ireturn, 1) := by decide +kernel
theorem dX3_drop_63 : decode cX3_drop 63 = .ok (.iconst 0, 1) := by decide +kernel
theorem dX3_drop_64 : decode cX3_drop 64 = .ok (.istore 6, 2) := by decide +kernel
theorem dX3_drop_66 : decode cX3_drop 66 = .ok (.iload 6, 2) := by decide +kernel
theorem dX3_drop_68 : decode cX3_drop 68 = .ok (.bipush 16, 2) := by decide +kernel
theorem dX3_drop_70 : decode cX3_drop 70 = .ok (.if_icmp .ge 34, 3) := by decide +kernel
theorem dX3_drop_73 : decode cX3_drop 73 = .ok (.aload_n 0, 1) := by decide +kernel
theorem dX3_drop_74 : decode cX3_drop 74 = .ok (.aload_n 3, 1) := by decide +kernel
theorem dX3_drop_75 : decode cX3_drop 75 = .ok (.getfield 74, 3) := by decide +kernel
theorem dX3_drop_78 : decode cX3_drop 78 = .ok (.iload 6, 2) := by decide +kernel
theorem dX3_drop_80 : decode cX3_drop 80 = .ok (.iload_n 2, 1) := by decide +kernel
theorem dX3_drop_81 : decode cX3_drop 81 = .ok (.invokevirtual 87, 3) := by decide +kernel
theorem dX3_drop_84 : decode cX3_drop 84 = .ok (.ifCond .eq 14, 3) := by decide +kernel
theorem dX3_drop_87 : decode cX3_drop 87 = .ok (.aload_n 0, 1) := by decide +kernel
theorem dX3_drop_88 : decode cX3_drop 88 = .ok (.getfield 10, 3) := by decide +kernel
theorem dX3_drop_91 : decode cX3_drop 91 = .ok (.iload 6, 2) := by decide +kernel
theorem dX3_drop_93 : decode cX3_drop 93 = .ok (.iconst 0, 1) := by decide +kernel
theorem dX3_drop_94 : decode cX3_drop 94 = .ok (.invokevirtual 91, 3) := by decide +kernel
theorem dX3_drop_97 : decode cX3_drop 97 = .ok (.pop, 1) := by decide +kernel
theorem dX3_drop_98 : decode cX3_drop 98 = .ok (.iinc 6 1, 3) := by decide +kernel
theorem dX3_drop_101 : decode cX3_drop 101 = .ok (.goto (-35), 3) := by decide +kernel
theorem dX3_drop_104 : decode cX3_drop 104 = .ok (.aload_n 0, 1) := by decide +kernel
theorem dX3_drop_105 : decode cX3_drop 105 = .ok (.iload 4, 2) := by decide +kernel
theorem dX3_drop_107 : decode cX3_drop 107 = .ok (.iload 5, 2) := by decide +kernel
theorem dX3_drop_109 : decode cX3_drop 109 = .ok (.isub, 1) := by decide +kernel
theorem dX3_drop_110 : decode cX3_drop 110 = .ok (.putfield 35, 3) := by decide +kernel
theorem dX3_drop_113 : decode cX3_drop 113 = .ok (.iload 5, 2) := by decide +kernel
theorem dX3_drop_115 : decode cX3_drop 115 = .ok (.ireturn, 1) := by decide +kernel
theorem dX3_conflict_0 : decode cX3_conflict 0 = .ok (.iload_n 1, 1) := by decide +kernel
theorem dX3_conflict_1 : decode cX3_conflict 1 = .ok (.tableswitch 42 0 2 #[27, 32, 37], 27) := by decide +kernel
theorem dX3_conflict_28 : decode cX3_conflict 28 = .ok (.aload_n 0, 1) := by decide +kernel
theorem dX3_conflict_29 : decode cX3_conflict 29 = .ok (.getfield 35, 3) := by decide +kernel
theorem dX3_conflict_32 : decode cX3_conflict 32 = .ok (.ireturn, 1) := by decide +kernel
theorem dX3_conflict_33 : decode cX3_conflict 33 = .ok (.aload_n 0, 1) := by decide +kernel
theorem dX3_conflict_34 : decode cX3_conflict 34 = .ok (.getfield 38, 3) := by decide +kernel
theorem dX3_conflict_37 : decode cX3_conflict 37 = .ok (.ireturn, 1) := by decide +kernel
theorem dX3_conflict_38 : decode cX3_conflict 38 = .ok (.aload_n 0, 1) := by decide +kernel
theorem dX3_conflict_39 : decode cX3_conflict 39 = .ok (.getfield 41, 3) := by decide +kernel
theorem dX3_conflict_42 : decode cX3_conflict 42 = .ok (.ireturn, 1) := by decide +kernel
theorem dX3_conflict_43 : decode cX3_conflict 43 = .ok (.bipush (-3), 2) := by decide +kernel
theorem dX3_conflict_45 : decode cX3_conflict 45 = .ok (.ireturn, 1) := by decide +kernel
theorem dX3_refresh_0 : decode cX3_refresh 0 = .ok (.aload_n 0, 1) := by decide +kernel
theorem dX3_refresh_1 : decode cX3_refresh 1 = .ok (.aload_n 0, 1) := by decide +kernel
theorem dX3_refresh_2 : decode cX3_refresh 2 = .ok (.getfield 52, 3) := by decide +kernel
theorem dX3_refresh_5 : decode cX3_refresh 5 = .ok (.aload_n 0, 1) := by decide +kernel
theorem dX3_refresh_6 : decode cX3_refresh 6 = .ok (.getfield 10, 3) := by decide +kernel
theorem dX3_refresh_9 : decode cX3_refresh 9 = .ok (.invokevirtual 94, 3) := by decide +kernel
theorem dX3_refresh_12 : decode cX3_refresh 12 = .ok (.ifCond .ne 6, 3) := by decide +kernel
theorem dX3_refresh_15 : decode cX3_refresh 15 = .ok (.bipush (-5), 2) := by decide +kernel
theorem dX3_refresh_17 : decode cX3_refresh 17 = .ok (.ireturn, 1) := by decide +kernel
theorem dX3_refresh_18 : decode cX3_refresh 18 = .ok (.aload_n 0, 1) := by decide +kernel
theorem dX3_refresh_19 : decode cX3_refresh 19 = .ok (.invokevirtual 98, 3) := by decide +kernel
theorem dX3_refresh_22 : decode cX3_refresh 22 = .ok (.aload_n 0, 1) := by decide +kernel
theorem dX3_refresh_23 : decode cX3_refresh 23 = .ok (.invokevirtual 101, 3) := by decide +kernel
theorem dX3_refresh_26 : decode cX3_refresh 26 = .ok (.aload_n 0, 1) := by decide +kernel
theorem dX3_refresh_27 : decode cX3_refresh 27 = .ok (.getfield 52, 3) := by decide +kernel
theorem dX3_refresh_30 : decode cX3_refresh 30 = .ok (.getfield 104, 3) := by decide +kernel
theorem dX3_refresh_33 : decode cX3_refresh 33 = .ok (.ireturn, 1) := by decide +kernel
theorem dX3_commit_0 : decode cX3_commit 0 = .ok (.aload_n 0, 1) := by decide +kernel
theorem dX3_commit_1 : decode cX3_commit 1 = .ok (.aload_n 0, 1) := by decide +kernel
theorem dX3_commit_2 : decode cX3_commit 2 = .ok (.getfield 52, 3) := by decide +kernel
theorem dX3_commit_5 : decode cX3_commit 5 = .ok (.aload_n 0, 1) := by decide +kernel
theorem dX3_commit_6 : decode cX3_commit 6 = .ok (.getfield 10, 3) := by decide +kernel
theorem dX3_commit_9 : decode cX3_commit 9 = .ok (.invokevirtual 94, 3) := by decide +kernel
theorem dX3_commit_12 : decode cX3_commit 12 = .ok (.ifCond .ne 6, 3) := by decide +kernel
theorem dX3_commit_15 : decode cX3_commit 15 = .ok (.bipush (-5), 2) := by decide +kernel
theorem dX3_commit_17 : decode cX3_commit 17 = .ok (.ireturn, 1) := by decide +kernel
theorem dX3_commit_18 : decode cX3_commit 18 = .ok (.aload_n 0, 1) := by decide +kernel
theorem dX3_commit_19 : decode cX3_commit 19 = .ok (.invokevirtual 98, 3) := by decide +kernel
theorem dX3_commit_22 : decode cX3_commit 22 = .ok (.aload_n 0, 1) := by decide +kernel
theorem dX3_commit_23 : decode cX3_commit 23 = .ok (.aload_n 0, 1) := by decide +kernel
theorem dX3_commit_24 : decode cX3_commit 24 = .ok (.getfield 52, 3) := by decide +kernel
theorem dX3_commit_27 : decode cX3_commit 27 = .ok (.putfield 56, 3) := by decide +kernel
theorem dX3_commit_30 : decode cX3_commit 30 = .ok (.aload_n 0, 1) := by decide +kernel
theorem dX3_commit_31 : decode cX3_commit 31 = .ok (.getfield 16, 3) := by decide +kernel
theorem dX3_commit_34 : decode cX3_commit 34 = .ok (.aload_n 0, 1) := by decide +kernel
theorem dX3_commit_35 : decode cX3_commit 35 = .ok (.getfield 10, 3) := by decide +kernel
theorem dX3_commit_38 : decode cX3_commit 38 = .ok (.invokevirtual 107, 3) := by decide +kernel
theorem dX3_commit_41 : decode cX3_commit 41 = .ok (.aload_n 0, 1) := by decide +kernel
theorem dX3_commit_42 : decode cX3_commit 42 = .ok (.invokevirtual 101, 3) := by decide +kernel
theorem dX3_commit_45 : decode cX3_commit 45 = .ok (.aload_n 0, 1) := by decide +kernel
theorem dX3_commit_46 : decode cX3_commit 46 = .ok (.getfield 52, 3) := by decide +kernel
theorem dX3_commit_49 : decode cX3_commit 49 = .ok (.getfield 104, 3) := by decide +kernel
theorem dX3_commit_52 : decode cX3_commit 52 = .ok (.ireturn, 1) := by decide +kernel
theorem dX3_sync_0 : decode cX3_sync 0 = .ok (.aload_n 0, 1) := by decide +kernel
theorem dX3_sync_1 : decode cX3_sync 1 = .ok (.getfield 10, 3) := by decide +kernel
theorem dX3_sync_4 : decode cX3_sync 4 = .ok (.getfield 84, 3) := by decide +kernel
theorem dX3_sync_7 : decode cX3_sync 7 = .ok (.aload_n 0, 1) := by decide +kernel
theorem dX3_sync_8 : decode cX3_sync 8 = .ok (.getfield 16, 3) := by decide +kernel
theorem dX3_sync_11 : decode cX3_sync 11 = .ok (.getfield 84, 3) := by decide +kernel
theorem dX3_sync_14 : decode cX3_sync 14 = .ok (.isub, 1) := by decide +kernel
theorem dX3_sync_15 : decode cX3_sync 15 = .ok (.istore_n 1, 1) := by decide +kernel
theorem dX3_sync_16 : decode cX3_sync 16 = .ok (.aload_n 0, 1) := by decide +kernel
theorem dX3_sync_17 : decode cX3_sync 17 = .ok (.getfield 16, 3) := by decide +kernel
theorem dX3_sync_20 : decode cX3_sync 20 = .ok (.aload_n 0, 1) := by decide +kernel
theorem dX3_sync_21 : decode cX3_sync 21 = .ok (.getfield 10, 3) := by decide +kernel
theorem dX3_sync_24 : decode cX3_sync 24 = .ok (.invokevirtual 107, 3) := by decide +kernel
theorem dX3_sync_27 : decode cX3_sync 27 = .ok (.iload_n 1, 1) := by decide +kernel
theorem dX3_sync_28 : decode cX3_sync 28 = .ok (.ireturn, 1) := by decide +kernel
theorem dX3_crash_0 : decode cX3_crash 0 = .ok (.aload_n 0, 1) := by decide +kernel
theorem dX3_crash_1 : decode cX3_crash 1 = .ok (.aload_n 0, 1) := by decide +kernel
theorem dX3_crash_2 : decode cX3_crash 2 = .ok (.getfield 56, 3) := by decide +kernel
theorem dX3_crash_5 : decode cX3_crash 5 = .ok (.aload_n 0, 1) := by decide +kernel
theorem dX3_crash_6 : decode cX3_crash 6 = .ok (.getfield 16, 3) := by decide +kernel
theorem dX3_crash_9 : decode cX3_crash 9 = .ok (.invokevirtual 94, 3) := by decide +kernel
theorem dX3_crash_12 : decode cX3_crash 12 = .ok (.ifCond .ne 6, 3) := by decide +kernel
theorem dX3_crash_15 : decode cX3_crash 15 = .ok (.bipush (-5), 2) := by decide +kernel
theorem dX3_crash_17 : decode cX3_crash 17 = .ok (.ireturn, 1) := by decide +kernel
theorem dX3_crash_18 : decode cX3_crash 18 = .ok (.aload_n 0, 1) := by decide +kernel
theorem dX3_crash_19 : decode cX3_crash 19 = .ok (.getfield 10, 3) := by decide +kernel
theorem dX3_crash_22 : decode cX3_crash 22 = .ok (.getfield 84, 3) := by decide +kernel
theorem dX3_crash_25 : decode cX3_crash 25 = .ok (.aload_n 0, 1) := by decide +kernel
theorem dX3_crash_26 : decode cX3_crash 26 = .ok (.getfield 16, 3) := by decide +kernel
theorem dX3_crash_29 : decode cX3_crash 29 = .ok (.getfield 84, 3) := by decide +kernel
theorem dX3_crash_32 : decode cX3_crash 32 = .ok (.isub, 1) := by decide +kernel
theorem dX3_crash_33 : decode cX3_crash 33 = .ok (.istore_n 1, 1) := by decide +kernel
theorem dX3_crash_34 : decode cX3_crash 34 = .ok (.aload_n 0, 1) := by decide +kernel
theorem dX3_crash_35 : decode cX3_crash 35 = .ok (.getfield 10, 3) := by decide +kernel
theorem dX3_crash_38 : decode cX3_crash 38 = .ok (.aload_n 0, 1) := by decide +kernel
theorem dX3_crash_39 : decode cX3_crash 39 = .ok (.getfield 16, 3) := by decide +kernel
theorem dX3_crash_42 : decode cX3_crash 42 = .ok (.invokevirtual 107, 3) := by decide +kernel
theorem dX3_crash_45 : decode cX3_crash 45 = .ok (.aload_n 0, 1) := by decide +kernel
theorem dX3_crash_46 : decode cX3_crash 46 = .ok (.invokevirtual 111, 3) := by decide +kernel
theorem dX3_crash_49 : decode cX3_crash 49 = .ok (.aload_n 0, 1) := by decide +kernel
theorem dX3_crash_50 : decode cX3_crash 50 = .ok (.aload_n 0, 1) := by decide +kernel
theorem dX3_crash_51 : decode cX3_crash 51 = .ok (.getfield 56, 3) := by decide +kernel
theorem dX3_crash_54 : decode cX3_crash 54 = .ok (.putfield 52, 3) := by decide +kernel
theorem dX3_crash_57 : decode cX3_crash 57 = .ok (.aload_n 0, 1) := by decide +kernel
theorem dX3_crash_58 : decode cX3_crash 58 = .ok (.invokevirtual 98, 3) := by decide +kernel
theorem dX3_crash_61 : decode cX3_crash 61 = .ok (.aload_n 0, 1) := by decide +kernel
theorem dX3_crash_62 : decode cX3_crash 62 = .ok (.invokevirtual 101, 3) := by decide +kernel
theorem dX3_crash_65 : decode cX3_crash 65 = .ok (.iload_n 1, 1) := by decide +kernel
theorem dX3_crash_66 : decode cX3_crash 66 = .ok (.ireturn, 1) := by decide +kernel
theorem dX3_open_0 : decode cX3_open 0 = .ok (.aload_n 0, 1) := by decide +kernel
theorem dX3_open_1 : decode cX3_open 1 = .ok (.iload_n 1, 1) := by decide +kernel
theorem dX3_open_2 : decode cX3_open 2 = .ok (.invokevirtual 67, 3) := by decide +kernel
theorem dX3_open_5 : decode cX3_open 5 = .ok (.astore_n 2, 1) := by decide +kernel
theorem dX3_open_6 : decode cX3_open 6 = .ok (.aload_n 2, 1) := by decide +kernel
theorem dX3_open_7 : decode cX3_open 7 = .ok (.ifnonnull 6, 3) := by decide +kernel
theorem dX3_open_10 : decode cX3_open 10 = .ok (.bipush (-2), 2) := by decide +kernel
theorem dX3_open_12 : decode cX3_open 12 = .ok (.ireturn, 1) := by decide +kernel
theorem dX3_open_13 : decode cX3_open 13 = .ok (.aload_n 2, 1) := by decide +kernel
theorem dX3_open_14 : decode cX3_open 14 = .ok (.dup, 1) := by decide +kernel
theorem dX3_open_15 : decode cX3_open 15 = .ok (.getfield 114, 3) := by decide +kernel
theorem dX3_open_18 : decode cX3_open 18 = .ok (.iconst 1, 1) := by decide +kernel
theorem dX3_open_19 : decode cX3_open 19 = .ok (.iadd, 1) := by decide +kernel
theorem dX3_open_20 : decode cX3_open 20 = .ok (.putfield 114, 3) := by decide +kernel
theorem dX3_open_23 : decode cX3_open 23 = .ok (.aload_n 2, 1) := by decide +kernel
theorem dX3_open_24 : decode cX3_open 24 = .ok (.getfield 114, 3) := by decide +kernel
theorem dX3_open_27 : decode cX3_open 27 = .ok (.ireturn, 1) := by decide +kernel
theorem dX3_close_0 : decode cX3_close 0 = .ok (.aload_n 0, 1) := by decide +kernel
theorem dX3_close_1 : decode cX3_close 1 = .ok (.iload_n 1, 1) := by decide +kernel
theorem dX3_close_2 : decode cX3_close 2 = .ok (.invokevirtual 67, 3) := by decide +kernel
theorem dX3_close_5 : decode cX3_close 5 = .ok (.astore_n 2, 1) := by decide +kernel
theorem dX3_close_6 : decode cX3_close 6 = .ok (.aload_n 2, 1) := by decide +kernel
theorem dX3_close_7 : decode cX3_close 7 = .ok (.ifnonnull 6, 3) := by decide +kernel
theorem dX3_close_10 : decode cX3_close 10 = .ok (.bipush (-2), 2) := by decide +kernel
theorem dX3_close_12 : decode cX3_close 12 = .ok (.ireturn, 1) := by decide +kernel
theorem dX3_close_13 : decode cX3_close 13 = .ok (.aload_n 2, 1) := by decide +kernel
theorem dX3_close_14 : decode cX3_close 14 = .ok (.getfield 114, 3) := by decide +kernel
theorem dX3_close_17 : decode cX3_close 17 = .ok (.ifCond .ne 6, 3) := by decide +kernel
theorem dX3_close_20 : decode cX3_close 20 = .ok (.bipush (-3), 2) := by decide +kernel
theorem dX3_close_22 : decode cX3_close 22 = .ok (.ireturn, 1) := by decide +kernel
theorem dX3_close_23 : decode cX3_close 23 = .ok (.aload_n 2, 1) := by decide +kernel
theorem dX3_close_24 : decode cX3_close 24 = .ok (.dup, 1) := by decide +kernel
theorem dX3_close_25 : decode cX3_close 25 = .ok (.getfield 114, 3) := by decide +kernel
theorem dX3_close_28 : decode cX3_close 28 = .ok (.iconst 1, 1) := by decide +kernel
theorem dX3_close_29 : decode cX3_close 29 = .ok (.isub, 1) := by decide +kernel
theorem dX3_close_30 : decode cX3_close 30 = .ok (.putfield 114, 3) := by decide +kernel
theorem dX3_close_33 : decode cX3_close 33 = .ok (.aload_n 0, 1) := by decide +kernel
theorem dX3_close_34 : decode cX3_close 34 = .ok (.invokevirtual 101, 3) := by decide +kernel
theorem dX3_close_37 : decode cX3_close 37 = .ok (.aload_n 2, 1) := by decide +kernel
theorem dX3_close_38 : decode cX3_close 38 = .ok (.getfield 114, 3) := by decide +kernel
theorem dX3_close_41 : decode cX3_close 41 = .ok (.ireturn, 1) := by decide +kernel
theorem dX3_get_0 : decode cX3_get 0 = .ok (.iload_n 1, 1) := by decide +kernel
theorem dX3_get_1 : decode cX3_get 1 = .ok (.invokestatic 59, 3) := by decide +kernel
theorem dX3_get_4 : decode cX3_get 4 = .ok (.ifCond .eq 15, 3) := by decide +kernel
theorem dX3_get_7 : decode cX3_get 7 = .ok (.aload_n 0, 1) := by decide +kernel
theorem dX3_get_8 : decode cX3_get 8 = .ok (.getfield 10, 3) := by decide +kernel
theorem dX3_get_11 : decode cX3_get 11 = .ok (.getfield 117, 3) := by decide +kernel
theorem dX3_get_14 : decode cX3_get 14 = .ok (.iload_n 1, 1) := by decide +kernel
theorem dX3_get_15 : decode cX3_get 15 = .ok (.iaload, 1) := by decide +kernel
theorem dX3_get_16 : decode cX3_get 16 = .ok (.goto 5, 3) := by decide +kernel
theorem dX3_get_19 : decode cX3_get 19 = .ok (.bipush (-3), 2) := by decide +kernel
theorem dX3_get_21 : decode cX3_get 21 = .ok (.ireturn, 1) := by decide +kernel
theorem dX3_number_0 : decode cX3_number 0 = .ok (.iload_n 1, 1) := by decide +kernel
theorem dX3_number_1 : decode cX3_number 1 = .ok (.invokestatic 59, 3) := by decide +kernel
theorem dX3_number_4 : decode cX3_number 4 = .ok (.ifCond .eq 15, 3) := by decide +kernel
theorem dX3_number_7 : decode cX3_number 7 = .ok (.aload_n 0, 1) := by decide +kernel
theorem dX3_number_8 : decode cX3_number 8 = .ok (.getfield 10, 3) := by decide +kernel
theorem dX3_number_11 : decode cX3_number 11 = .ok (.getfield 121, 3) := by decide +kernel
theorem dX3_number_14 : decode cX3_number 14 = .ok (.iload_n 1, 1) := by decide +kernel
theorem dX3_number_15 : decode cX3_number 15 = .ok (.iaload, 1) := by decide +kernel
theorem dX3_number_16 : decode cX3_number 16 = .ok (.goto 5, 3) := by decide +kernel
theorem dX3_number_19 : decode cX3_number 19 = .ok (.bipush (-3), 2) := by decide +kernel
theorem dX3_number_21 : decode cX3_number 21 = .ok (.ireturn, 1) := by decide +kernel
theorem dX3_at_0 : decode cX3_at 0 = .ok (.aload_n 0, 1) := by decide +kernel
theorem dX3_at_1 : decode cX3_at 1 = .ok (.iload_n 1, 1) := by decide +kernel
theorem dX3_at_2 : decode cX3_at 2 = .ok (.invokevirtual 67, 3) := by decide +kernel
theorem dX3_at_5 : decode cX3_at 5 = .ok (.astore_n 3, 1) := by decide +kernel
theorem dX3_at_6 : decode cX3_at 6 = .ok (.aload_n 3, 1) := by decide +kernel
theorem dX3_at_7 : decode cX3_at 7 = .ok (.ifnonnull 6, 3) := by decide +kernel
theorem dX3_at_10 : decode cX3_at 10 = .ok (.bipush (-2), 2) := by decide +kernel
theorem dX3_at_12 : decode cX3_at 12 = .ok (.ireturn, 1) := by decide +kernel
theorem dX3_at_13 : decode cX3_at 13 = .ok (.iload_n 2, 1) := by decide +kernel
theorem dX3_at_14 : decode cX3_at 14 = .ok (.invokestatic 59, 3) := by decide +kernel
theorem dX3_at_17 : decode cX3_at 17 = .ok (.ifCond .eq 15, 3) := by decide +kernel
theorem dX3_at_20 : decode cX3_at 20 = .ok (.aload_n 3, 1) := by decide +kernel
theorem dX3_at_21 : decode cX3_at 21 = .ok (.getfield 74, 3) := by decide +kernel
theorem dX3_at_24 : decode cX3_at 24 = .ok (.getfield 117, 3) := by decide +kernel
theorem dX3_at_27 : decode cX3_at 27 = .ok (.iload_n 2, 1) := by decide +kernel
theorem dX3_at_28 : decode cX3_at 28 = .ok (.iaload, 1) := by decide +kernel
theorem dX3_at_29 : decode cX3_at 29 = .ok (.goto 5, 3) := by decide +kernel
theorem dX3_at_32 : decode cX3_at 32 = .ok (.bipush (-3), 2) := by decide +kernel
theorem dX3_at_34 : decode cX3_at 34 = .ok (.ireturn, 1) := by decide +kernel
theorem dX3_find_0 : decode cX3_find 0 = .ok (.aload_n 0, 1) := by decide +kernel
theorem dX3_find_1 : decode cX3_find 1 = .ok (.iload_n 1, 1) := by decide +kernel
theorem dX3_find_2 : decode cX3_find 2 = .ok (.invokevirtual 67, 3) := by decide +kernel
theorem dX3_find_5 : decode cX3_find 5 = .ok (.astore_n 3, 1) := by decide +kernel
theorem dX3_find_6 : decode cX3_find 6 = .ok (.aload_n 3, 1) := by decide +kernel
theorem dX3_find_7 : decode cX3_find 7 = .ok (.ifnonnull 6, 3) := by decide +kernel
theorem dX3_find_10 : decode cX3_find 10 = .ok (.bipush (-2), 2) := by decide +kernel
theorem dX3_find_12 : decode cX3_find 12 = .ok (.ireturn, 1) := by decide +kernel
theorem dX3_find_13 : decode cX3_find 13 = .ok (.iload_n 2, 1) := by decide +kernel
theorem dX3_find_14 : decode cX3_find 14 = .ok (.invokestatic 71, 3) := by decide +kernel
theorem dX3_find_17 : decode cX3_find 17 = .ok (.ifCond .eq 14, 3) := by decide +kernel
theorem dX3_find_20 : decode cX3_find 20 = .ok (.aload_n 3, 1) := by decide +kernel
theorem dX3_find_21 : decode cX3_find 21 = .ok (.getfield 74, 3) := by decide +kernel
theorem dX3_find_24 : decode cX3_find 24 = .ok (.iload_n 2, 1) := by decide +kernel
theorem dX3_find_25 : decode cX3_find 25 = .ok (.invokestatic 77, 3) := by decide +kernel
theorem dX3_find_28 : decode cX3_find 28 = .ok (.goto 5, 3) := by decide +kernel
theorem dX3_find_31 : decode cX3_find 31 = .ok (.bipush (-3), 2) := by decide +kernel
theorem dX3_find_33 : decode cX3_find 33 = .ok (.ireturn, 1) := by decide +kernel
theorem dX3_match_0 : decode cX3_match 0 = .ok (.aload_n 0, 1) := by decide +kernel
theorem dX3_match_1 : decode cX3_match 1 = .ok (.iload_n 1, 1) := by decide +kernel
theorem dX3_match_2 : decode cX3_match 2 = .ok (.invokevirtual 67, 3) := by decide +kernel
theorem dX3_match_5 : decode cX3_match 5 = .ok (.astore 5, 2) := by decide +kernel
theorem dX3_match_7 : decode cX3_match 7 = .ok (.aload 5, 2) := by decide +kernel
theorem dX3_match_9 : decode cX3_match 9 = .ok (.ifnonnull 6, 3) := by decide +kernel
theorem dX3_match_12 : decode cX3_match 12 = .ok (.bipush (-2), 2) := by decide +kernel
theorem dX3_match_14 : decode cX3_match 14 = .ok (.ireturn, 1) := by decide +kernel
theorem dX3_match_15 : decode cX3_match 15 = .ok (.iload_n 2, 1) := by decide +kernel
theorem dX3_match_16 : decode cX3_match 16 = .ok (.invokestatic 71, 3) := by decide +kernel
theorem dX3_match_19 : decode cX3_match 19 = .ok (.ifCond .eq 10, 3) := by decide +kernel
theorem dX3_match_22 : decode cX3_match 22 = .ok (.iload_n 3, 1) := by decide +kernel
theorem dX3_match_23 : decode cX3_match 23 = .ok (.invokestatic 71, 3) := by decide +kernel
theorem dX3_match_26 : decode cX3_match 26 = .ok (.ifCond .ne 6, 3) := by decide +kernel
theorem dX3_match_29 : decode cX3_match 29 = .ok (.bipush (-3), 2) := by decide +kernel
theorem dX3_match_31 : decode cX3_match 31 = .ok (.ireturn, 1) := by decide +kernel
theorem dX3_match_32 : decode cX3_match 32 = .ok (.aload 5, 2) := by decide +kernel
theorem dX3_match_34 : decode cX3_match 34 = .ok (.getfield 74, 3) := by decide +kernel
theorem dX3_match_37 : decode cX3_match 37 = .ok (.astore 6, 2) := by decide +kernel
theorem dX3_match_39 : decode cX3_match 39 = .ok (.iconst 0, 1) := by decide +kernel
theorem dX3_match_40 : decode cX3_match 40 = .ok (.istore 7, 2) := by decide +kernel
theorem dX3_match_42 : decode cX3_match 42 = .ok (.iload 7, 2) := by decide +kernel
theorem dX3_match_44 : decode cX3_match 44 = .ok (.bipush 16, 2) := by decide +kernel
theorem dX3_match_46 : decode cX3_match 46 = .ok (.if_icmp .ge 37, 3) := by decide +kernel
theorem dX3_match_49 : decode cX3_match 49 = .ok (.aload 6, 2) := by decide +kernel
theorem dX3_match_51 : decode cX3_match 51 = .ok (.iload 7, 2) := by decide +kernel
theorem dX3_match_53 : decode cX3_match 53 = .ok (.iload_n 2, 1) := by decide +kernel
theorem dX3_match_54 : decode cX3_match 54 = .ok (.invokevirtual 124, 3) := by decide +kernel
theorem dX3_match_57 : decode cX3_match 57 = .ok (.ifCond .eq 20, 3) := by decide +kernel
theorem dX3_match_60 : decode cX3_match 60 = .ok (.aload 6, 2) := by decide +kernel
theorem dX3_match_62 : decode cX3_match 62 = .ok (.iload 7, 2) := by decide +kernel
theorem dX3_match_64 : decode cX3_match 64 = .ok (.iload_n 2, 1) := by decide +kernel
theorem dX3_match_65 : decode cX3_match 65 = .ok (.iload_n 3, 1) := by decide +kernel
theorem dX3_match_66 : decode cX3_match 66 = .ok (.invokevirtual 128, 3) := by decide +kernel
theorem dX3_match_69 : decode cX3_match 69 = .ok (.iload 4, 2) := by decide +kernel
theorem dX3_match_71 : decode cX3_match 71 = .ok (.if_icmp .ne 6, 3) := by decide +kernel
theorem dX3_match_74 : decode cX3_match 74 = .ok (.iload 7, 2) := by decide +kernel
theorem dX3_match_76 : decode cX3_match 76 = .ok (.ireturn, 1) := by decide +kernel
theorem dX3_match_77 : decode cX3_match 77 = .ok (.iinc 7 1, 3) := by decide +kernel
theorem dX3_match_80 : decode cX3_match 80 = .ok (.goto (-38), 3) := by decide +kernel
theorem dX3_match_83 : decode cX3_match 83 = .ok (.iconst (-1), 1) := by decide +kernel
theorem dX3_match_84 : decode cX3_match 84 = .ok (.ireturn, 1) := by decide +kernel
theorem dX3_segments_0 : decode cX3_segments 0 = .ok (.aload_n 0, 1) := by decide +kernel
theorem dX3_segments_1 : decode cX3_segments 1 = .ok (.iload_n 1, 1) := by decide +kernel
theorem dX3_segments_2 : decode cX3_segments 2 = .ok (.invokevirtual 67, 3) := by decide +kernel
theorem dX3_segments_5 : decode cX3_segments 5 = .ok (.astore_n 2, 1) := by decide +kernel
theorem dX3_segments_6 : decode cX3_segments 6 = .ok (.aload_n 2, 1) := by decide +kernel
theorem dX3_segments_7 : decode cX3_segments 7 = .ok (.ifnonnull 8, 3) := by decide +kernel
theorem dX3_segments_10 : decode cX3_segments 10 = .ok (.bipush (-2), 2) := by decide +kernel
theorem dX3_segments_12 : decode cX3_segments 12 = .ok (.goto 8, 3) := by decide +kernel
theorem dX3_segments_15 : decode cX3_segments 15 = .ok (.aload_n 2, 1) := by decide +kernel
theorem dX3_segments_16 : decode cX3_segments 16 = .ok (.getfield 131, 3) := by decide +kernel
theorem dX3_segments_19 : decode cX3_segments 19 = .ok (.arraylength, 1) := by decide +kernel
theorem dX3_segments_20 : decode cX3_segments 20 = .ok (.ireturn, 1) := by decide +kernel
theorem dX3_segment_0 : decode cX3_segment 0 = .ok (.aload_n 0, 1) := by decide +kernel
theorem dX3_segment_1 : decode cX3_segment 1 = .ok (.iload_n 1, 1) := by decide +kernel
theorem dX3_segment_2 : decode cX3_segment 2 = .ok (.invokevirtual 67, 3) := by decide +kernel
theorem dX3_segment_5 : decode cX3_segment 5 = .ok (.astore 4, 2) := by decide +kernel
theorem dX3_segment_7 : decode cX3_segment 7 = .ok (.aload 4, 2) := by decide +kernel
theorem dX3_segment_9 : decode cX3_segment 9 = .ok (.ifnonnull 6, 3) := by decide +kernel
theorem dX3_segment_12 : decode cX3_segment 12 = .ok (.bipush (-2), 2) := by decide +kernel
theorem dX3_segment_14 : decode cX3_segment 14 = .ok (.ireturn, 1) := by decide +kernel
theorem dX3_segment_15 : decode cX3_segment 15 = .ok (.iload_n 2, 1) := by decide +kernel
theorem dX3_segment_16 : decode cX3_segment 16 = .ok (.ifCond .lt 13, 3) := by decide +kernel
theorem dX3_segment_19 : decode cX3_segment 19 = .ok (.iload_n 2, 1) := by decide +kernel
theorem dX3_segment_20 : decode cX3_segment 20 = .ok (.aload 4, 2) := by decide +kernel
theorem dX3_segment_22 : decode cX3_segment 22 = .ok (.getfield 131, 3) := by decide +kernel
theorem dX3_segment_25 : decode cX3_segment 25 = .ok (.arraylength, 1) := by decide +kernel
theorem dX3_segment_26 : decode cX3_segment 26 = .ok (.if_icmp .lt 6, 3) := by decide +kernel
theorem dX3_segment_29 : decode cX3_segment 29 = .ok (.bipush (-3), 2) := by decide +kernel
theorem dX3_segment_31 : decode cX3_segment 31 = .ok (.ireturn, 1) := by decide +kernel
theorem dX3_segment_32 : decode cX3_segment 32 = .ok (.aload 4, 2) := by decide +kernel
theorem dX3_segment_34 : decode cX3_segment 34 = .ok (.getfield 131, 3) := by decide +kernel
theorem dX3_segment_37 : decode cX3_segment 37 = .ok (.iload_n 2, 1) := by decide +kernel
theorem dX3_segment_38 : decode cX3_segment 38 = .ok (.aaload, 1) := by decide +kernel
theorem dX3_segment_39 : decode cX3_segment 39 = .ok (.astore 5, 2) := by decide +kernel
theorem dX3_segment_41 : decode cX3_segment 41 = .ok (.iload_n 3, 1) := by decide +kernel
theorem dX3_segment_42 : decode cX3_segment 42 = .ok (.tableswitch 49 0 2 #[26, 32, 38], 26) := by decide +kernel
theorem dX3_segment_68 : decode cX3_segment 68 = .ok (.aload 5, 2) := by decide +kernel
theorem dX3_segment_70 : decode cX3_segment 70 = .ok (.getfield 135, 3) := by decide +kernel
theorem dX3_segment_73 : decode cX3_segment 73 = .ok (.ireturn, 1) := by decide +kernel
theorem dX3_segment_74 : decode cX3_segment 74 = .ok (.aload 5, 2) := by decide +kernel
theorem dX3_segment_76 : decode cX3_segment 76 = .ok (.getfield 136, 3) := by decide +kernel
theorem dX3_segment_79 : decode cX3_segment 79 = .ok (.ireturn, 1) := by decide +kernel
theorem dX3_segment_80 : decode cX3_segment 80 = .ok (.aload 5, 2) := by decide +kernel
theorem dX3_segment_82 : decode cX3_segment 82 = .ok (.aload 4, 2) := by decide +kernel
theorem dX3_segment_84 : decode cX3_segment 84 = .ok (.getfield 74, 3) := by decide +kernel
theorem dX3_segment_87 : decode cX3_segment 87 = .ok (.invokevirtual 139, 3) := by decide +kernel
theorem dX3_segment_90 : decode cX3_segment 90 = .ok (.ireturn, 1) := by decide +kernel
theorem dX3_segment_91 : decode cX3_segment 91 = .ok (.aload 5, 2) := by decide +kernel
theorem dX3_segment_93 : decode cX3_segment 93 = .ok (.iload_n 3, 1) := by decide +kernel
theorem dX3_segment_94 : decode cX3_segment 94 = .ok (.invokestatic 143, 3) := by decide +kernel
theorem dX3_segment_97 : decode cX3_segment 97 = .ok (.ireturn, 1) := by decide +kernel
theorem dX3_told_0 : decode cX3_told 0 = .ok (.iload_n 1, 1) := by decide +kernel
theorem dX3_told_1 : decode cX3_told 1 = .ok (.tableswitch 99 0 7 #[47, 55, 63, 71, 79, 84, 89, 94], 47) := by decide +kernel
theorem dX3_told_48 : decode cX3_told 48 = .ok (.aload_n 0, 1) := by decide +kernel
theorem dX3_told_49 : decode cX3_told 49 = .ok (.getfield 52, 3) := by decide +kernel
theorem dX3_told_52 : decode cX3_told 52 = .ok (.getfield 104, 3) := by decide +kernel
theorem dX3_told_55 : decode cX3_told 55 = .ok (.ireturn, 1) := by decide +kernel
theorem dX3_told_56 : decode cX3_told 56 = .ok (.aload_n 0, 1) := by decide +kernel
theorem dX3_told_57 : decode cX3_told 57 = .ok (.getfield 56, 3) := by decide +kernel
theorem dX3_told_60 : decode cX3_told 60 = .ok (.getfield 104, 3) := by decide +kernel
theorem dX3_told_63 : decode cX3_told 63 = .ok (.ireturn, 1) := by decide +kernel
theorem dX3_told_64 : decode cX3_told 64 = .ok (.aload_n 0, 1) := by decide +kernel
theorem dX3_told_65 : decode cX3_told 65 = .ok (.getfield 16, 3) := by decide +kernel
theorem dX3_told_68 : decode cX3_told 68 = .ok (.getfield 84, 3) := by decide +kernel
theorem dX3_told_71 : decode cX3_told 71 = .ok (.ireturn, 1) := by decide +kernel
theorem dX3_told_72 : decode cX3_told 72 = .ok (.aload_n 0, 1) := by decide +kernel
theorem dX3_told_73 : decode cX3_told 73 = .ok (.getfield 10, 3) := by decide +kernel
theorem dX3_told_76 : decode cX3_told 76 = .ok (.getfield 84, 3) := by decide +kernel
theorem dX3_told_79 : decode cX3_told 79 = .ok (.ireturn, 1) := by decide +kernel
theorem dX3_told_80 : decode cX3_told 80 = .ok (.aload_n 0, 1) := by decide +kernel
theorem dX3_told_81 : decode cX3_told 81 = .ok (.getfield 32, 3) := by decide +kernel
theorem dX3_told_84 : decode cX3_told 84 = .ok (.ireturn, 1) := by decide +kernel
theorem dX3_told_85 : decode cX3_told 85 = .ok (.aload_n 0, 1) := by decide +kernel
theorem dX3_told_86 : decode cX3_told 86 = .ok (.invokevirtual 147, 3) := by decide +kernel
theorem dX3_told_89 : decode cX3_told 89 = .ok (.ireturn, 1) := by decide +kernel
theorem dX3_told_90 : decode cX3_told 90 = .ok (.aload_n 0, 1) := by decide +kernel
theorem dX3_told_91 : decode cX3_told 91 = .ok (.getfield 29, 3) := by decide +kernel
theorem dX3_told_94 : decode cX3_told 94 = .ok (.ireturn, 1) := by decide +kernel
theorem dX3_told_95 : decode cX3_told 95 = .ok (.aload_n 0, 1) := by decide +kernel
theorem dX3_told_96 : decode cX3_told 96 = .ok (.invokevirtual 151, 3) := by decide +kernel
theorem dX3_told_99 : decode cX3_told 99 = .ok (.ireturn, 1) := by decide +kernel
theorem dX3_told_100 : decode cX3_told 100 = .ok (.bipush (-3), 2) := by decide +kernel
theorem dX3_told_102 : decode cX3_told 102 = .ok (.ireturn, 1) := by decide +kernel
theorem dX3_isKey_0 : decode cX3_isKey 0 = .ok (.iload_n 0, 1) := by decide +kernel
theorem dX3_isKey_1 : decode cX3_isKey 1 = .ok (.ifCond .lt 13, 3) := by decide +kernel
theorem dX3_isKey_4 : decode cX3_isKey 4 = .ok (.iload_n 0, 1) := by decide +kernel
theorem dX3_isKey_5 : decode cX3_isKey 5 = .ok (.bipush 16, 2) := by decide +kernel
theorem dX3_isKey_7 : decode cX3_isKey 7 = .ok (.if_icmp .ge 7, 3) := by decide +kernel
theorem dX3_isKey_10 : decode cX3_isKey 10 = .ok (.iconst 1, 1) := by decide +kernel
theorem dX3_isKey_11 : decode cX3_isKey 11 = .ok (.goto 4, 3) := by decide +kernel
theorem dX3_isKey_14 : decode cX3_isKey 14 = .ok (.iconst 0, 1) := by decide +kernel
theorem dX3_isKey_15 : decode cX3_isKey 15 = .ok (.ireturn, 1) := by decide +kernel
theorem dX3_isQuery_0 : decode cX3_isQuery 0 = .ok (.iload_n 0, 1) := by decide +kernel
theorem dX3_isQuery_1 : decode cX3_isQuery 1 = .ok (.ifCond .lt 14, 3) := by decide +kernel
theorem dX3_isQuery_4 : decode cX3_isQuery 4 = .ok (.iload_n 0, 1) := by decide +kernel
theorem dX3_isQuery_5 : decode cX3_isQuery 5 = .ok (.sipush 255, 3) := by decide +kernel
theorem dX3_isQuery_8 : decode cX3_isQuery 8 = .ok (.if_icmp .gt 7, 3) := by decide +kernel
theorem dX3_isQuery_11 : decode cX3_isQuery 11 = .ok (.iconst 1, 1) := by decide +kernel
theorem dX3_isQuery_12 : decode cX3_isQuery 12 = .ok (.goto 4, 3) := by decide +kernel
theorem dX3_isQuery_15 : decode cX3_isQuery 15 = .ok (.iconst 0, 1) := by decide +kernel
theorem dX3_isQuery_16 : decode cX3_isQuery 16 = .ok (.ireturn, 1) := by decide +kernel
theorem dX3_keyOrOutside_0 : decode cX3_keyOrOutside 0 = .ok (.iload_n 1, 1) := by decide +kernel
theorem dX3_keyOrOutside_1 : decode cX3_keyOrOutside 1 = .ok (.bipush 10, 2) := by decide +kernel
theorem dX3_keyOrOutside_3 : decode cX3_keyOrOutside 3 = .ok (.if_icmp .lt 14, 3) := by decide +kernel
theorem dX3_keyOrOutside_6 : decode cX3_keyOrOutside 6 = .ok (.iload_n 1, 1) := by decide +kernel
theorem dX3_keyOrOutside_7 : decode cX3_keyOrOutside 7 = .ok (.bipush 10, 2) := by decide +kernel
theorem dX3_keyOrOutside_9 : decode cX3_keyOrOutside 9 = .ok (.isub, 1) := by decide +kernel
theorem dX3_keyOrOutside_10 : decode cX3_keyOrOutside 10 = .ok (.aload_n 0, 1) := by decide +kernel
theorem dX3_keyOrOutside_11 : decode cX3_keyOrOutside 11 = .ok (.getfield 136, 3) := by decide +kernel
theorem dX3_keyOrOutside_14 : decode cX3_keyOrOutside 14 = .ok (.if_icmp .lt 6, 3) := by decide +kernel
theorem dX3_keyOrOutside_17 : decode cX3_keyOrOutside 17 = .ok (.bipush (-3), 2) := by decide +kernel
theorem dX3_keyOrOutside_19 : decode cX3_keyOrOutside 19 = .ok (.ireturn, 1) := by decide +kernel
theorem dX3_keyOrOutside_20 : decode cX3_keyOrOutside 20 = .ok (.aload_n 0, 1) := by decide +kernel
theorem dX3_keyOrOutside_21 : decode cX3_keyOrOutside 21 = .ok (.iload_n 1, 1) := by decide +kernel
theorem dX3_keyOrOutside_22 : decode cX3_keyOrOutside 22 = .ok (.bipush 10, 2) := by decide +kernel
theorem dX3_keyOrOutside_24 : decode cX3_keyOrOutside 24 = .ok (.isub, 1) := by decide +kernel
theorem dX3_keyOrOutside_25 : decode cX3_keyOrOutside 25 = .ok (.invokevirtual 154, 3) := by decide +kernel
theorem dX3_keyOrOutside_28 : decode cX3_keyOrOutside 28 = .ok (.ireturn, 1) := by decide +kernel
theorem dX3_heldView_0 : decode cX3_heldView 0 = .ok (.iload_n 1, 1) := by decide +kernel
theorem dX3_heldView_1 : decode cX3_heldView 1 = .ok (.ifCond .lt 19, 3) := by decide +kernel
theorem dX3_heldView_4 : decode cX3_heldView 4 = .ok (.iload_n 1, 1) := by decide +kernel
theorem dX3_heldView_5 : decode cX3_heldView 5 = .ok (.sipush 150, 3) := by decide +kernel
theorem dX3_heldView_8 : decode cX3_heldView 8 = .ok (.if_icmp .ge 12, 3) := by decide +kernel
theorem dX3_heldView_11 : decode cX3_heldView 11 = .ok (.aload_n 0, 1) := by decide +kernel
theorem dX3_heldView_12 : decode cX3_heldView 12 = .ok (.getfield 21, 3) := by decide +kernel
theorem dX3_heldView_15 : decode cX3_heldView 15 = .ok (.iload_n 1, 1) := by decide +kernel
theorem dX3_heldView_16 : decode cX3_heldView 16 = .ok (.aaload, 1) := by decide +kernel
theorem dX3_heldView_17 : decode cX3_heldView 17 = .ok (.goto 4, 3) := by decide +kernel
theorem dX3_heldView_20 : decode cX3_heldView 20 = .ok (.aconst_null, 1) := by decide +kernel
theorem dX3_heldView_21 : decode cX3_heldView 21 = .ok (.areturn, 1) := by decide +kernel
theorem dX3_change_0 : decode cX3_change 0 = .ok (.aload_n 0, 1) := by decide +kernel
theorem dX3_change_1 : decode cX3_change 1 = .ok (.getfield 10, 3) := by decide +kernel
theorem dX3_change_4 : decode cX3_change 4 = .ok (.iload_n 1, 1) := by decide +kernel
theorem dX3_change_5 : decode cX3_change 5 = .ok (.invokevirtual 158, 3) := by decide +kernel
theorem dX3_change_8 : decode cX3_change 8 = .ok (.istore 4, 2) := by decide +kernel
theorem dX3_change_10 : decode cX3_change 10 = .ok (.iload_n 3, 1) := by decide +kernel
theorem dX3_change_11 : decode cX3_change 11 = .ok (.iconst (-1), 1) := by decide +kernel
theorem dX3_change_12 : decode cX3_change 12 = .ok (.if_icmp .eq 23, 3) := by decide +kernel
theorem dX3_change_15 : decode cX3_change 15 = .ok (.iload_n 3, 1) := by decide +kernel
theorem dX3_change_16 : decode cX3_change 16 = .ok (.iload 4, 2) := by decide +kernel
theorem dX3_change_18 : decode cX3_change 18 = .ok (.if_icmp .eq 17, 3) := by decide +kernel
theorem dX3_change_21 : decode cX3_change 21 = .ok (.aload_n 0, 1) := by decide +kernel
theorem dX3_change_22 : decode cX3_change 22 = .ok (.iload_n 3, 1) := by decide +kernel
theorem dX3_change_23 : decode cX3_change 23 = .ok (.putfield 38, 3) := by decide +kernel
theorem dX3_change_26 : decode cX3_change 26 = .ok (.aload_n 0, 1) := by decide +kernel
theorem dX3_change_27 : decode cX3_change 27 = .ok (.iload 4, 2) := by decide +kernel
theorem dX3_change_29 : decode cX3_change 29 = .ok (.putfield 41, 3) := by decide +kernel
theorem dX3_change_32 : decode cX3_change 32 = .ok (.bipush (-4), 2) := by decide +kernel
theorem dX3_change_34 : decode cX3_change 34 = .ok (.ireturn, 1) := by decide +kernel
theorem dX3_change_35 : decode cX3_change 35 = .ok (.aload_n 0, 1) := by decide +kernel
theorem dX3_change_36 : decode cX3_change 36 = .ok (.getfield 10, 3) := by decide +kernel
theorem dX3_change_39 : decode cX3_change 39 = .ok (.getfield 84, 3) := by decide +kernel
theorem dX3_change_42 : decode cX3_change 42 = .ok (.sipush 600, 3) := by decide +kernel
theorem dX3_change_45 : decode cX3_change 45 = .ok (.if_icmp .lt 6, 3) := by decide +kernel
theorem dX3_change_48 : decode cX3_change 48 = .ok (.bipush (-5), 2) := by decide +kernel
theorem dX3_change_50 : decode cX3_change 50 = .ok (.ireturn, 1) := by decide +kernel
theorem dX3_change_51 : decode cX3_change 51 = .ok (.aload_n 0, 1) := by decide +kernel
theorem dX3_change_52 : decode cX3_change 52 = .ok (.getfield 10, 3) := by decide +kernel
theorem dX3_change_55 : decode cX3_change 55 = .ok (.iload_n 1, 1) := by decide +kernel
theorem dX3_change_56 : decode cX3_change 56 = .ok (.iload_n 2, 1) := by decide +kernel
theorem dX3_change_57 : decode cX3_change 57 = .ok (.invokevirtual 91, 3) := by decide +kernel
theorem dX3_change_60 : decode cX3_change 60 = .ok (.ireturn, 1) := by decide +kernel
theorem dX3_isUnchanged_0 : decode cX3_isUnchanged 0 = .ok (.aload_n 1, 1) := by decide +kernel
theorem dX3_isUnchanged_1 : decode cX3_isUnchanged 1 = .ok (.iload_n 2, 1) := by decide +kernel
theorem dX3_isUnchanged_2 : decode cX3_isUnchanged 2 = .ok (.iload_n 3, 1) := by decide +kernel
theorem dX3_isUnchanged_3 : decode cX3_isUnchanged 3 = .ok (.invokevirtual 124, 3) := by decide +kernel
theorem dX3_isUnchanged_6 : decode cX3_isUnchanged 6 = .ok (.ifCond .eq 25, 3) := by decide +kernel
theorem dX3_isUnchanged_9 : decode cX3_isUnchanged 9 = .ok (.aload_n 1, 1) := by decide +kernel
theorem dX3_isUnchanged_10 : decode cX3_isUnchanged 10 = .ok (.getfield 121, 3) := by decide +kernel
theorem dX3_isUnchanged_13 : decode cX3_isUnchanged 13 = .ok (.iload_n 2, 1) := by decide +kernel
theorem dX3_isUnchanged_14 : decode cX3_isUnchanged 14 = .ok (.iaload, 1) := by decide +kernel
theorem dX3_isUnchanged_15 : decode cX3_isUnchanged 15 = .ok (.aload_n 0, 1) := by decide +kernel
theorem dX3_isUnchanged_16 : decode cX3_isUnchanged 16 = .ok (.getfield 10, 3) := by decide +kernel
theorem dX3_isUnchanged_19 : decode cX3_isUnchanged 19 = .ok (.getfield 121, 3) := by decide +kernel
theorem dX3_isUnchanged_22 : decode cX3_isUnchanged 22 = .ok (.iload_n 2, 1) := by decide +kernel
theorem dX3_isUnchanged_23 : decode cX3_isUnchanged 23 = .ok (.iaload, 1) := by decide +kernel
theorem dX3_isUnchanged_24 : decode cX3_isUnchanged 24 = .ok (.if_icmp .ne 7, 3) := by decide +kernel
theorem dX3_isUnchanged_27 : decode cX3_isUnchanged 27 = .ok (.iconst 1, 1) := by decide +kernel
theorem dX3_isUnchanged_28 : decode cX3_isUnchanged 28 = .ok (.goto 4, 3) := by decide +kernel
theorem dX3_isUnchanged_31 : decode cX3_isUnchanged 31 = .ok (.iconst 0, 1) := by decide +kernel
theorem dX3_isUnchanged_32 : decode cX3_isUnchanged 32 = .ok (.ireturn, 1) := by decide +kernel
theorem dX3_countUnchanged_0 : decode cX3_countUnchanged 0 = .ok (.iconst 0, 1) := by decide +kernel
theorem dX3_countUnchanged_1 : decode cX3_countUnchanged 1 = .ok (.istore_n 3, 1) := by decide +kernel
theorem dX3_countUnchanged_2 : decode cX3_countUnchanged 2 = .ok (.iconst 0, 1) := by decide +kernel
theorem dX3_countUnchanged_3 : decode cX3_countUnchanged 3 = .ok (.istore 4, 2) := by decide +kernel
theorem dX3_countUnchanged_5 : decode cX3_countUnchanged 5 = .ok (.iload 4, 2) := by decide +kernel
theorem dX3_countUnchanged_7 : decode cX3_countUnchanged 7 = .ok (.bipush 16, 2) := by decide +kernel
theorem dX3_countUnchanged_9 : decode cX3_countUnchanged 9 = .ok (.if_icmp .ge 23, 3) := by decide +kernel
theorem dX3_countUnchanged_12 : decode cX3_countUnchanged 12 = .ok (.aload_n 0, 1) := by decide +kernel
theorem dX3_countUnchanged_13 : decode cX3_countUnchanged 13 = .ok (.aload_n 1, 1) := by decide +kernel
theorem dX3_countUnchanged_14 : decode cX3_countUnchanged 14 = .ok (.iload 4, 2) := by decide +kernel
theorem dX3_countUnchanged_16 : decode cX3_countUnchanged 16 = .ok (.iload_n 2, 1) := by decide +kernel
theorem dX3_countUnchanged_17 : decode cX3_countUnchanged 17 = .ok (.invokevirtual 87, 3) := by decide +kernel
theorem dX3_countUnchanged_20 : decode cX3_countUnchanged 20 = .ok (.ifCond .eq 6, 3) := by decide +kernel
theorem dX3_countUnchanged_23 : decode cX3_countUnchanged 23 = .ok (.iinc 3 1, 3) := by decide +kernel
theorem dX3_countUnchanged_26 : decode cX3_countUnchanged 26 = .ok (.iinc 4 1, 3) := by decide +kernel
theorem dX3_countUnchanged_29 : decode cX3_countUnchanged 29 = .ok (.goto (-24), 3) := by decide +kernel
theorem dX3_countUnchanged_32 : decode cX3_countUnchanged 32 = .ok (.iload_n 3, 1) := by decide +kernel
theorem dX3_countUnchanged_33 : decode cX3_countUnchanged 33 = .ok (.ireturn, 1) := by decide +kernel
theorem dX3_countFitting_0 : decode cX3_countFitting 0 = .ok (.iconst 0, 1) := by decide +kernel
theorem dX3_countFitting_1 : decode cX3_countFitting 1 = .ok (.istore_n 2, 1) := by decide +kernel
theorem dX3_countFitting_2 : decode cX3_countFitting 2 = .ok (.iconst 0, 1) := by decide +kernel
theorem dX3_countFitting_3 : decode cX3_countFitting 3 = .ok (.istore_n 3, 1) := by decide +kernel
theorem dX3_countFitting_4 : decode cX3_countFitting 4 = .ok (.iload_n 3, 1) := by decide +kernel
theorem dX3_countFitting_5 : decode cX3_countFitting 5 = .ok (.bipush 16, 2) := by decide +kernel
theorem dX3_countFitting_7 : decode cX3_countFitting 7 = .ok (.if_icmp .ge 21, 3) := by decide +kernel
theorem dX3_countFitting_10 : decode cX3_countFitting 10 = .ok (.aload_n 0, 1) := by decide +kernel
theorem dX3_countFitting_11 : decode cX3_countFitting 11 = .ok (.iload_n 3, 1) := by decide +kernel
theorem dX3_countFitting_12 : decode cX3_countFitting 12 = .ok (.iload_n 1, 1) := by decide +kernel
theorem dX3_countFitting_13 : decode cX3_countFitting 13 = .ok (.invokevirtual 124, 3) := by decide +kernel
theorem dX3_countFitting_16 : decode cX3_countFitting 16 = .ok (.ifCond .eq 6, 3) := by decide +kernel
theorem dX3_countFitting_19 : decode cX3_countFitting 19 = .ok (.iinc 2 1, 3) := by decide +kernel
theorem dX3_countFitting_22 : decode cX3_countFitting 22 = .ok (.iinc 3 1, 3) := by decide +kernel
theorem dX3_countFitting_25 : decode cX3_countFitting 25 = .ok (.goto (-21), 3) := by decide +kernel
theorem dX3_countFitting_28 : decode cX3_countFitting 28 = .ok (.iload_n 2, 1) := by decide +kernel
theorem dX3_countFitting_29 : decode cX3_countFitting 29 = .ok (.ireturn, 1) := by decide +kernel
theorem dX3_hasRoomToRefresh_0 : decode cX3_hasRoomToRefresh 0 = .ok (.aload_n 1, 1) := by decide +kernel
theorem dX3_hasRoomToRefresh_1 : decode cX3_hasRoomToRefresh 1 = .ok (.getfield 74, 3) := by decide +kernel
theorem dX3_hasRoomToRefresh_4 : decode cX3_hasRoomToRefresh 4 = .ok (.getfield 84, 3) := by decide +kernel
theorem dX3_hasRoomToRefresh_7 : decode cX3_hasRoomToRefresh 7 = .ok (.aload_n 2, 1) := by decide +kernel
theorem dX3_hasRoomToRefresh_8 : decode cX3_hasRoomToRefresh 8 = .ok (.getfield 84, 3) := by decide +kernel
theorem dX3_hasRoomToRefresh_11 : decode cX3_hasRoomToRefresh 11 = .ok (.if_icmp .eq 13, 3) := by decide +kernel
theorem dX3_hasRoomToRefresh_14 : decode cX3_hasRoomToRefresh 14 = .ok (.aload_n 0, 1) := by decide +kernel
theorem dX3_hasRoomToRefresh_15 : decode cX3_hasRoomToRefresh 15 = .ok (.getfield 25, 3) := by decide +kernel
theorem dX3_hasRoomToRefresh_18 : decode cX3_hasRoomToRefresh 18 = .ok (.sipush 150, 3) := by decide +kernel
theorem dX3_hasRoomToRefresh_21 : decode cX3_hasRoomToRefresh 21 = .ok (.if_icmp .ge 7, 3) := by decide +kernel
theorem dX3_hasRoomToRefresh_24 : decode cX3_hasRoomToRefresh 24 = .ok (.iconst 1, 1) := by decide +kernel
theorem dX3_hasRoomToRefresh_25 : decode cX3_hasRoomToRefresh 25 = .ok (.goto 4, 3) := by decide +kernel
theorem dX3_hasRoomToRefresh_28 : decode cX3_hasRoomToRefresh 28 = .ok (.iconst 0, 1) := by decide +kernel
theorem dX3_hasRoomToRefresh_29 : decode cX3_hasRoomToRefresh 29 = .ok (.ireturn, 1) := by decide +kernel
theorem dX3_refreshLatest_0 : decode cX3_refreshLatest 0 = .ok (.aload_n 0, 1) := by decide +kernel
theorem dX3_refreshLatest_1 : decode cX3_refreshLatest 1 = .ok (.getfield 52, 3) := by decide +kernel
theorem dX3_refreshLatest_4 : decode cX3_refreshLatest 4 = .ok (.getfield 74, 3) := by decide +kernel
theorem dX3_refreshLatest_7 : decode cX3_refreshLatest 7 = .ok (.getfield 84, 3) := by decide +kernel
theorem dX3_refreshLatest_10 : decode cX3_refreshLatest 10 = .ok (.aload_n 0, 1) := by decide +kernel
theorem dX3_refreshLatest_11 : decode cX3_refreshLatest 11 = .ok (.getfield 10, 3) := by decide +kernel
theorem dX3_refreshLatest_14 : decode cX3_refreshLatest 14 = .ok (.getfield 84, 3) := by decide +kernel
theorem dX3_refreshLatest_17 : decode cX3_refreshLatest 17 = .ok (.if_icmp .eq 13, 3) := by decide +kernel
theorem dX3_refreshLatest_20 : decode cX3_refreshLatest 20 = .ok (.aload_n 0, 1) := by decide +kernel
theorem dX3_refreshLatest_21 : decode cX3_refreshLatest 21 = .ok (.getfield 25, 3) := by decide +kernel
theorem dX3_refreshLatest_24 : decode cX3_refreshLatest 24 = .ok (.sipush 150, 3) := by decide +kernel
theorem dX3_refreshLatest_27 : decode cX3_refreshLatest 27 = .ok (.if_icmp .lt 4, 3) := by decide +kernel
theorem dX3_refreshLatest_30 : decode cX3_refreshLatest 30 = .ok (.return_, 1) := by decide +kernel
theorem dX3_refreshLatest_31 : decode cX3_refreshLatest 31 = .ok (.aload_n 0, 1) := by decide +kernel
theorem dX3_refreshLatest_32 : decode cX3_refreshLatest 32 = .ok (.getfield 52, 3) := by decide +kernel
theorem dX3_refreshLatest_35 : decode cX3_refreshLatest 35 = .ok (.getfield 131, 3) := by decide +kernel
theorem dX3_refreshLatest_38 : decode cX3_refreshLatest 38 = .ok (.arraylength, 1) := by decide +kernel
theorem dX3_refreshLatest_39 : decode cX3_refreshLatest 39 = .ok (.iconst 1, 1) := by decide +kernel
theorem dX3_refreshLatest_40 : decode cX3_refreshLatest 40 = .ok (.iadd, 1) := by decide +kernel
theorem dX3_refreshLatest_41 : decode cX3_refreshLatest 41 = .ok (.anewarray 47, 3) := by decide +kernel
theorem dX3_refreshLatest_44 : decode cX3_refreshLatest 44 = .ok (.astore_n 1, 1) := by decide +kernel
theorem dX3_refreshLatest_45 : decode cX3_refreshLatest 45 = .ok (.iconst 0, 1) := by decide +kernel
theorem dX3_refreshLatest_46 : decode cX3_refreshLatest 46 = .ok (.istore_n 2, 1) := by decide +kernel
theorem dX3_refreshLatest_47 : decode cX3_refreshLatest 47 = .ok (.iconst 0, 1) := by decide +kernel
theorem dX3_refreshLatest_48 : decode cX3_refreshLatest 48 = .ok (.istore_n 3, 1) := by decide +kernel
theorem dX3_refreshLatest_49 : decode cX3_refreshLatest 49 = .ok (.iload_n 3, 1) := by decide +kernel
theorem dX3_refreshLatest_50 : decode cX3_refreshLatest 50 = .ok (.aload_n 0, 1) := by decide +kernel
theorem dX3_refreshLatest_51 : decode cX3_refreshLatest 51 = .ok (.getfield 52, 3) := by decide +kernel
theorem dX3_refreshLatest_54 : decode cX3_refreshLatest 54 = .ok (.getfield 131, 3) := by decide +kernel
theorem dX3_refreshLatest_57 : decode cX3_refreshLatest 57 = .ok (.arraylength, 1) := by decide +kernel
theorem dX3_refreshLatest_58 : decode cX3_refreshLatest 58 = .ok (.if_icmp .ge 43, 3) := by decide +kernel
theorem dX3_refreshLatest_61 : decode cX3_refreshLatest 61 = .ok (.aload_n 0, 1) := by decide +kernel
theorem dX3_refreshLatest_62 : decode cX3_refreshLatest 62 = .ok (.getfield 52, 3) := by decide +kernel
theorem dX3_refreshLatest_65 : decode cX3_refreshLatest 65 = .ok (.getfield 131, 3) := by decide +kernel
theorem dX3_refreshLatest_68 : decode cX3_refreshLatest 68 = .ok (.iload_n 3, 1) := by decide +kernel
theorem dX3_refreshLatest_69 : decode cX3_refreshLatest 69 = .ok (.aaload, 1) := by decide +kernel
theorem dX3_refreshLatest_70 : decode cX3_refreshLatest 70 = .ok (.aload_n 0, 1) := by decide +kernel
theorem dX3_refreshLatest_71 : decode cX3_refreshLatest 71 = .ok (.getfield 10, 3) := by decide +kernel
theorem dX3_refreshLatest_74 : decode cX3_refreshLatest 74 = .ok (.invokevirtual 139, 3) := by decide +kernel
