theorem dX0_init_0 : decode cX0_init 0 = .ok (.aload_n 0, 1) := by decide +kernel
theorem dX0_init_1 : decode cX0_init 1 = .ok (.iload_n 1, 1) := by decide +kernel
theorem dX0_init_2 : decode cX0_init 2 = .ok (.iload_n 2, 1) := by decide +kernel
theorem dX0_init_3 : decode cX0_init 3 = .ok (.iload_n 3, 1) := by decide +kernel
theorem dX0_init_4 : decode cX0_init 4 = .ok (.invokespecial 1, 3) := by decide +kernel
theorem dX0_init_7 : decode cX0_init 7 = .ok (.return_, 1) := by decide +kernel
theorem dX0_widens_0 : decode cX0_widens 0 = .ok (.aload_n 1, 1) := by decide +kernel
theorem dX0_widens_1 : decode cX0_widens 1 = .ok (.getfield 7, 3) := by decide +kernel
theorem dX0_widens_4 : decode cX0_widens 4 = .ok (.aload_n 2, 1) := by decide +kernel
theorem dX0_widens_5 : decode cX0_widens 5 = .ok (.getfield 7, 3) := by decide +kernel
theorem dX0_widens_8 : decode cX0_widens 8 = .ok (.if_icmp .eq 20, 3) := by decide +kernel
theorem dX0_widens_11 : decode cX0_widens 11 = .ok (.aload_n 1, 1) := by decide +kernel
theorem dX0_widens_12 : decode cX0_widens 12 = .ok (.aload_n 2, 1) := by decide +kernel
theorem dX0_widens_13 : decode cX0_widens 13 = .ok (.invokevirtual 13, 3) := by decide +kernel
theorem dX0_widens_16 : decode cX0_widens 16 = .ok (.ifCond .eq 12, 3) := by decide +kernel
theorem dX0_widens_19 : decode cX0_widens 19 = .ok (.aload_n 0, 1) := by decide +kernel
theorem dX0_widens_20 : decode cX0_widens 20 = .ok (.aload_n 1, 1) := by decide +kernel
theorem dX0_widens_21 : decode cX0_widens 21 = .ok (.aload_n 2, 1) := by decide +kernel
theorem dX0_widens_22 : decode cX0_widens 22 = .ok (.invokevirtual 17, 3) := by decide +kernel
theorem dX0_widens_25 : decode cX0_widens 25 = .ok (.goto 4, 3) := by decide +kernel
theorem dX0_widens_28 : decode cX0_widens 28 = .ok (.iconst 0, 1) := by decide +kernel
theorem dX0_widens_29 : decode cX0_widens 29 = .ok (.ireturn, 1) := by decide +kernel
theorem dX0_ends_0 : decode cX0_ends 0 = .ok (.aload_n 2, 1) := by decide +kernel
theorem dX0_ends_1 : decode cX0_ends 1 = .ok (.bipush 40, 2) := by decide +kernel
theorem dX0_ends_3 : decode cX0_ends 3 = .ok (.invokevirtual 23, 3) := by decide +kernel
theorem dX0_ends_6 : decode cX0_ends 6 = .ok (.aload_n 0, 1) := by decide +kernel
theorem dX0_ends_7 : decode cX0_ends 7 = .ok (.iload_n 1, 1) := by decide +kernel
theorem dX0_ends_8 : decode cX0_ends 8 = .ok (.aload_n 2, 1) := by decide +kernel
theorem dX0_ends_9 : decode cX0_ends 9 = .ok (.invokespecial 29, 3) := by decide +kernel
theorem dX0_ends_12 : decode cX0_ends 12 = .ok (.ineg, 1) := by decide +kernel
theorem dX0_ends_13 : decode cX0_ends 13 = .ok (.ireturn, 1) := by decide +kernel
theorem dX1_init_0 : decode cX1_init 0 = .ok (.aload_n 0, 1) := by decide +kernel
theorem dX1_init_1 : decode cX1_init 1 = .ok (.iconst 2, 1) := by decide +kernel
theorem dX1_init_2 : decode cX1_init 2 = .ok (.iload_n 1, 1) := by decide +kernel
theorem dX1_init_3 : decode cX1_init 3 = .ok (.iload_n 2, 1) := by decide +kernel
theorem dX1_init_4 : decode cX1_init 4 = .ok (.invokespecial 3, 3) := by decide +kernel
theorem dX1_init_7 : decode cX1_init 7 = .ok (.return_, 1) := by decide +kernel
theorem dX1_endsBy_0 : decode cX1_endsBy 0 = .ok (.aload_n 1, 1) := by decide +kernel
theorem dX1_endsBy_1 : decode cX1_endsBy 1 = .ok (.aload_n 2, 1) := by decide +kernel
theorem dX1_endsBy_2 : decode cX1_endsBy 2 = .ok (.invokevirtual 9, 3) := by decide +kernel
theorem dX1_endsBy_5 : decode cX1_endsBy 5 = .ok (.ifCond .eq 27, 3) := by decide +kernel
theorem dX1_endsBy_8 : decode cX1_endsBy 8 = .ok (.aload_n 1, 1) := by decide +kernel
theorem dX1_endsBy_9 : decode cX1_endsBy 9 = .ok (.aload_n 2, 1) := by decide +kernel
theorem dX1_endsBy_10 : decode cX1_endsBy 10 = .ok (.invokevirtual 15, 3) := by decide +kernel
theorem dX1_endsBy_13 : decode cX1_endsBy 13 = .ok (.aload_n 0, 1) := by decide +kernel
theorem dX1_endsBy_14 : decode cX1_endsBy 14 = .ok (.getfield 19, 3) := by decide +kernel
theorem dX1_endsBy_17 : decode cX1_endsBy 17 = .ok (.if_icmp .gt 15, 3) := by decide +kernel
theorem dX1_endsBy_20 : decode cX1_endsBy 20 = .ok (.aload_n 1, 1) := by decide +kernel
theorem dX1_endsBy_21 : decode cX1_endsBy 21 = .ok (.aload_n 2, 1) := by decide +kernel
theorem dX1_endsBy_22 : decode cX1_endsBy 22 = .ok (.invokevirtual 25, 3) := by decide +kernel
theorem dX1_endsBy_25 : decode cX1_endsBy 25 = .ok (.ifCond .eq 7, 3) := by decide +kernel
theorem dX1_endsBy_28 : decode cX1_endsBy 28 = .ok (.iconst 1, 1) := by decide +kernel
theorem dX1_endsBy_29 : decode cX1_endsBy 29 = .ok (.goto 4, 3) := by decide +kernel
theorem dX1_endsBy_32 : decode cX1_endsBy 32 = .ok (.iconst 0, 1) := by decide +kernel
theorem dX1_endsBy_33 : decode cX1_endsBy 33 = .ok (.ireturn, 1) := by decide +kernel
theorem dX1_goes_0 : decode cX1_goes 0 = .ok (.aload_n 2, 1) := by decide +kernel
theorem dX1_goes_1 : decode cX1_goes 1 = .ok (.bipush 30, 2) := by decide +kernel
theorem dX1_goes_3 : decode cX1_goes 3 = .ok (.invokevirtual 28, 3) := by decide +kernel
theorem dX1_goes_6 : decode cX1_goes 6 = .ok (.aload_n 0, 1) := by decide +kernel
theorem dX1_goes_7 : decode cX1_goes 7 = .ok (.iload_n 1, 1) := by decide +kernel
theorem dX1_goes_8 : decode cX1_goes 8 = .ok (.aload_n 2, 1) := by decide +kernel
theorem dX1_goes_9 : decode cX1_goes 9 = .ok (.invokespecial 34, 3) := by decide +kernel
theorem dX1_goes_12 : decode cX1_goes 12 = .ok (.iconst 3, 1) := by decide +kernel
theorem dX1_goes_13 : decode cX1_goes 13 = .ok (.imul, 1) := by decide +kernel
theorem dX1_goes_14 : decode cX1_goes 14 = .ok (.ireturn, 1) := by decide +kernel
theorem dX2_init_0 : decode cX2_init 0 = .ok (.aload_n 0, 1) := by decide +kernel
theorem dX2_init_1 : decode cX2_init 1 = .ok (.invokespecial 1, 3) := by decide +kernel
theorem dX2_init_4 : decode cX2_init 4 = .ok (.aload_n 0, 1) := by decide +kernel
theorem dX2_init_5 : decode cX2_init 5 = .ok (.iload_n 1, 1) := by decide +kernel
theorem dX2_init_6 : decode cX2_init 6 = .ok (.putfield 7, 3) := by decide +kernel
theorem dX2_init_9 : decode cX2_init 9 = .ok (.aload_n 0, 1) := by decide +kernel
theorem dX2_init_10 : decode cX2_init 10 = .ok (.iload_n 2, 1) := by decide +kernel
theorem dX2_init_11 : decode cX2_init 11 = .ok (.putfield 13, 3) := by decide +kernel
theorem dX2_init_14 : decode cX2_init 14 = .ok (.aload_n 0, 1) := by decide +kernel
theorem dX2_init_15 : decode cX2_init 15 = .ok (.iload_n 3, 1) := by decide +kernel
theorem dX2_init_16 : decode cX2_init 16 = .ok (.putfield 16, 3) := by decide +kernel
theorem dX2_init_19 : decode cX2_init 19 = .ok (.return_, 1) := by decide +kernel
theorem dX2_pull_0 : decode cX2_pull 0 = .ok (.aload_n 0, 1) := by decide +kernel
theorem dX2_pull_1 : decode cX2_pull 1 = .ok (.getfield 16, 3) := by decide +kernel
theorem dX2_pull_4 : decode cX2_pull 4 = .ok (.aload_n 2, 1) := by decide +kernel
theorem dX2_pull_5 : decode cX2_pull 5 = .ok (.getfield 19, 3) := by decide +kernel
theorem dX2_pull_8 : decode cX2_pull 8 = .ok (.imul, 1) := by decide +kernel
theorem dX2_pull_9 : decode cX2_pull 9 = .ok (.aload_n 1, 1) := by decide +kernel
theorem dX2_pull_10 : decode cX2_pull 10 = .ok (.aload_n 2, 1) := by decide +kernel
theorem dX2_pull_11 : decode cX2_pull 11 = .ok (.invokevirtual 24, 3) := by decide +kernel
theorem dX2_pull_14 : decode cX2_pull 14 = .ok (.bipush 10, 2) := by decide +kernel
theorem dX2_pull_16 : decode cX2_pull 16 = .ok (.iadd, 1) := by decide +kernel
theorem dX2_pull_17 : decode cX2_pull 17 = .ok (.invokestatic 28, 3) := by decide +kernel
theorem dX2_pull_20 : decode cX2_pull 20 = .ok (.ireturn, 1) := by decide +kernel
theorem dX2_widens_0 : decode cX2_widens 0 = .ok (.aload_n 1, 1) := by decide +kernel
theorem dX2_widens_1 : decode cX2_widens 1 = .ok (.getfield 34, 3) := by decide +kernel
theorem dX2_widens_4 : decode cX2_widens 4 = .ok (.aload_n 2, 1) := by decide +kernel
theorem dX2_widens_5 : decode cX2_widens 5 = .ok (.getfield 34, 3) := by decide +kernel
theorem dX2_widens_8 : decode cX2_widens 8 = .ok (.if_icmp .ne 11, 3) := by decide +kernel
theorem dX2_widens_11 : decode cX2_widens 11 = .ok (.aload_n 1, 1) := by decide +kernel
theorem dX2_widens_12 : decode cX2_widens 12 = .ok (.aload_n 2, 1) := by decide +kernel
theorem dX2_widens_13 : decode cX2_widens 13 = .ok (.invokevirtual 37, 3) := by decide +kernel
theorem dX2_widens_16 : decode cX2_widens 16 = .ok (.ifCond .ne 5, 3) := by decide +kernel
theorem dX2_widens_19 : decode cX2_widens 19 = .ok (.iconst 0, 1) := by decide +kernel
theorem dX2_widens_20 : decode cX2_widens 20 = .ok (.ireturn, 1) := by decide +kernel
theorem dX2_widens_21 : decode cX2_widens 21 = .ok (.aload_n 0, 1) := by decide +kernel
theorem dX2_widens_22 : decode cX2_widens 22 = .ok (.aload_n 1, 1) := by decide +kernel
theorem dX2_widens_23 : decode cX2_widens 23 = .ok (.aload_n 2, 1) := by decide +kernel
theorem dX2_widens_24 : decode cX2_widens 24 = .ok (.invokevirtual 41, 3) := by decide +kernel
theorem dX2_widens_27 : decode cX2_widens 27 = .ok (.istore_n 3, 1) := by decide +kernel
theorem dX2_widens_28 : decode cX2_widens 28 = .ok (.aload_n 1, 1) := by decide +kernel
theorem dX2_widens_29 : decode cX2_widens 29 = .ok (.aload_n 2, 1) := by decide +kernel
theorem dX2_widens_30 : decode cX2_widens 30 = .ok (.invokevirtual 45, 3) := by decide +kernel
theorem dX2_widens_33 : decode cX2_widens 33 = .ok (.ifCond .eq 8, 3) := by decide +kernel
theorem dX2_widens_36 : decode cX2_widens 36 = .ok (.iload_n 3, 1) := by decide +kernel
theorem dX2_widens_37 : decode cX2_widens 37 = .ok (.ineg, 1) := by decide +kernel
theorem dX2_widens_38 : decode cX2_widens 38 = .ok (.goto 4, 3) := by decide +kernel
theorem dX2_widens_41 : decode cX2_widens 41 = .ok (.iload_n 3, 1) := by decide +kernel
theorem dX2_widens_42 : decode cX2_widens 42 = .ok (.ireturn, 1) := by decide +kernel
theorem dX2_spreads_0 : decode cX2_spreads 0 = .ok (.iconst 0, 1) := by decide +kernel
theorem dX2_spreads_1 : decode cX2_spreads 1 = .ok (.ireturn, 1) := by decide +kernel
theorem dX2_lifts_0 : decode cX2_lifts 0 = .ok (.iconst 0, 1) := by decide +kernel
theorem dX2_lifts_1 : decode cX2_lifts 1 = .ok (.ireturn, 1) := by decide +kernel
theorem dX2_endsBy_0 : decode cX2_endsBy 0 = .ok (.iconst 0, 1) := by decide +kernel
theorem dX2_endsBy_1 : decode cX2_endsBy 1 = .ok (.ireturn, 1) := by decide +kernel
theorem dX2_goes_0 : decode cX2_goes 0 = .ok (.aload_n 2, 1) := by decide +kernel
theorem dX2_goes_1 : decode cX2_goes 1 = .ok (.bipush 10, 2) := by decide +kernel
theorem dX2_goes_3 : decode cX2_goes 3 = .ok (.invokevirtual 48, 3) := by decide +kernel
theorem dX2_goes_6 : decode cX2_goes 6 = .ok (.iload_n 1, 1) := by decide +kernel
theorem dX2_goes_7 : decode cX2_goes 7 = .ok (.aload_n 0, 1) := by decide +kernel
theorem dX2_goes_8 : decode cX2_goes 8 = .ok (.getfield 13, 3) := by decide +kernel
theorem dX2_goes_11 : decode cX2_goes 11 = .ok (.iadd, 1) := by decide +kernel
theorem dX2_goes_12 : decode cX2_goes 12 = .ok (.ireturn, 1) := by decide +kernel
theorem dX2_moves_0 : decode cX2_moves 0 = .ok (.aload_n 2, 1) := by decide +kernel
theorem dX2_moves_1 : decode cX2_moves 1 = .ok (.bipush 11, 2) := by decide +kernel
theorem dX2_moves_3 : decode cX2_moves 3 = .ok (.invokevirtual 48, 3) := by decide +kernel
theorem dX2_moves_6 : decode cX2_moves 6 = .ok (.aload_n 0, 1) := by decide +kernel
theorem dX2_moves_7 : decode cX2_moves 7 = .ok (.iload_n 1, 1) := by decide +kernel
theorem dX2_moves_8 : decode cX2_moves 8 = .ok (.aload_n 2, 1) := by decide +kernel
theorem dX2_moves_9 : decode cX2_moves 9 = .ok (.invokevirtual 54, 3) := by decide +kernel
theorem dX2_moves_12 : decode cX2_moves 12 = .ok (.iconst 2, 1) := by decide +kernel
theorem dX2_moves_13 : decode cX2_moves 13 = .ok (.imul, 1) := by decide +kernel
theorem dX2_moves_14 : decode cX2_moves 14 = .ok (.ireturn, 1) := by decide +kernel
theorem dX2_ends_0 : decode cX2_ends 0 = .ok (.aload_n 2, 1) := by decide +kernel
theorem dX2_ends_1 : decode cX2_ends 1 = .ok (.bipush 12, 2) := by decide +kernel
theorem dX2_ends_3 : decode cX2_ends 3 = .ok (.invokevirtual 48, 3) := by decide +kernel
theorem dX2_ends_6 : decode cX2_ends 6 = .ok (.iload_n 1, 1) := by decide +kernel
theorem dX2_ends_7 : decode cX2_ends 7 = .ok (.aload_n 0, 1) := by decide +kernel
theorem dX2_ends_8 : decode cX2_ends 8 = .ok (.getfield 16, 3) := by decide +kernel
theorem dX2_ends_11 : decode cX2_ends 11 = .ok (.isub, 1) := by decide +kernel
theorem dX2_ends_12 : decode cX2_ends 12 = .ok (.ireturn, 1) := by decide +kernel
theorem dX2_tells_0 : decode cX2_tells 0 = .ok (.aload_n 2, 1) := by decide +kernel
theorem dX2_tells_1 : decode cX2_tells 1 = .ok (.bipush 13, 2) := by decide +kernel
theorem dX2_tells_3 : decode cX2_tells 3 = .ok (.invokevirtual 48, 3) := by decide +kernel
theorem dX2_tells_6 : decode cX2_tells 6 = .ok (.aload_n 0, 1) := by decide +kernel
theorem dX2_tells_7 : decode cX2_tells 7 = .ok (.iload_n 1, 1) := by decide +kernel
theorem dX2_tells_8 : decode cX2_tells 8 = .ok (.aload_n 2, 1) := by decide +kernel
theorem dX2_tells_9 : decode cX2_tells 9 = .ok (.invokevirtual 58, 3) := by decide +kernel
theorem dX2_tells_12 : decode cX2_tells 12 = .ok (.aload_n 0, 1) := by decide +kernel
theorem dX2_tells_13 : decode cX2_tells 13 = .ok (.iload_n 1, 1) := by decide +kernel
theorem dX2_tells_14 : decode cX2_tells 14 = .ok (.aload_n 2, 1) := by decide +kernel
theorem dX2_tells_15 : decode cX2_tells 15 = .ok (.invokevirtual 61, 3) := by decide +kernel
theorem dX2_tells_18 : decode cX2_tells 18 = .ok (.ixor, 1) := by decide +kernel
theorem dX2_tells_19 : decode cX2_tells 19 = .ok (.ireturn, 1) := by decide +kernel
theorem dX3_init_0 : decode cX3_init 0 = .ok (.aload_n 0, 1) := by decide +kernel
theorem dX3_init_1 : decode cX3_init 1 = .ok (.invokespecial 1, 3) := by decide +kernel
theorem dX3_init_4 : decode cX3_init 4 = .ok (.aload_n 0, 1) := by decide +kernel
theorem dX3_init_5 : decode cX3_init 5 = .ok (.iload_n 1, 1) := by decide +kernel
theorem dX3_init_6 : decode cX3_init 6 = .ok (.putfield 7, 3) := by decide +kernel
theorem dX3_init_9 : decode cX3_init 9 = .ok (.aload_n 0, 1) := by decide +kernel
theorem dX3_init_10 : decode cX3_init 10 = .ok (.iconst 1, 1) := by decide +kernel
theorem dX3_init_11 : decode cX3_init 11 = .ok (.putfield 13, 3) := by decide +kernel
theorem dX3_init_14 : decode cX3_init 14 = .ok (.aload_n 0, 1) := by decide +kernel
theorem dX3_init_15 : decode cX3_init 15 = .ok (.iconst 1, 1) := by decide +kernel
theorem dX3_init_16 : decode cX3_init 16 = .ok (.putfield 16, 3) := by decide +kernel
theorem dX3_init_19 : decode cX3_init 19 = .ok (.aload_n 0, 1) := by decide +kernel
theorem dX3_init_20 : decode cX3_init 20 = .ok (.iconst 1, 1) := by decide +kernel
theorem dX3_init_21 : decode cX3_init 21 = .ok (.putfield 19, 3) := by decide +kernel
theorem dX3_init_24 : decode cX3_init 24 = .ok (.return_, 1) := by decide +kernel
theorem dX3_become_0 : decode cX3_become 0 = .ok (.aload_n 0, 1) := by decide +kernel
theorem dX3_become_1 : decode cX3_become 1 = .ok (.aload_n 1, 1) := by decide +kernel
theorem dX3_become_2 : decode cX3_become 2 = .ok (.getfield 22, 3) := by decide +kernel
theorem dX3_become_5 : decode cX3_become 5 = .ok (.putfield 22, 3) := by decide +kernel
theorem dX3_become_8 : decode cX3_become 8 = .ok (.aload_n 0, 1) := by decide +kernel
theorem dX3_become_9 : decode cX3_become 9 = .ok (.aload_n 1, 1) := by decide +kernel
theorem dX3_become_10 : decode cX3_become 10 = .ok (.getfield 25, 3) := by decide +kernel
theorem dX3_become_13 : decode cX3_become 13 = .ok (.putfield 25, 3) := by decide +kernel
theorem dX3_become_16 : decode cX3_become 16 = .ok (.aload_n 0, 1) := by decide +kernel
theorem dX3_become_17 : decode cX3_become 17 = .ok (.aload_n 1, 1) := by decide +kernel
theorem dX3_become_18 : decode cX3_become 18 = .ok (.getfield 13, 3) := by decide +kernel
theorem dX3_become_21 : decode cX3_become 21 = .ok (.putfield 13, 3) := by decide +kernel
theorem dX3_become_24 : decode cX3_become 24 = .ok (.aload_n 0, 1) := by decide +kernel
theorem dX3_become_25 : decode cX3_become 25 = .ok (.aload_n 1, 1) := by decide +kernel
theorem dX3_become_26 : decode cX3_become 26 = .ok (.getfield 28, 3) := by decide +kernel
theorem dX3_become_29 : decode cX3_become 29 = .ok (.putfield 28, 3) := by decide +kernel
theorem dX3_become_32 : decode cX3_become 32 = .ok (.aload_n 0, 1) := by decide +kernel
theorem dX3_become_33 : decode cX3_become 33 = .ok (.aload_n 1, 1) := by decide +kernel
theorem dX3_become_34 : decode cX3_become 34 = .ok (.getfield 16, 3) := by decide +kernel
theorem dX3_become_37 : decode cX3_become 37 = .ok (.putfield 16, 3) := by decide +kernel
theorem dX3_become_40 : decode cX3_become 40 = .ok (.aload_n 0, 1) := by decide +kernel
theorem dX3_become_41 : decode cX3_become 41 = .ok (.aload_n 1, 1) := by decide +kernel
theorem dX3_become_42 : decode cX3_become 42 = .ok (.getfield 19, 3) := by decide +kernel
theorem dX3_become_45 : decode cX3_become 45 = .ok (.putfield 19, 3) := by decide +kernel
theorem dX3_become_48 : decode cX3_become 48 = .ok (.aload_n 0, 1) := by decide +kernel
theorem dX3_become_49 : decode cX3_become 49 = .ok (.aload_n 1, 1) := by decide +kernel
theorem dX3_become_50 : decode cX3_become 50 = .ok (.getfield 31, 3) := by decide +kernel
theorem dX3_become_53 : decode cX3_become 53 = .ok (.putfield 31, 3) := by decide +kernel
theorem dX3_become_56 : decode cX3_become 56 = .ok (.return_, 1) := by decide +kernel
theorem dX3_pace_0 : decode cX3_pace 0 = .ok (.iconst 3, 1) := by decide +kernel
theorem dX3_pace_1 : decode cX3_pace 1 = .ok (.istore_n 1, 1) := by decide +kernel
theorem dX3_pace_2 : decode cX3_pace 2 = .ok (.aload_n 0, 1) := by decide +kernel
theorem dX3_pace_3 : decode cX3_pace 3 = .ok (.getfield 16, 3) := by decide +kernel
theorem dX3_pace_6 : decode cX3_pace 6 = .ok (.istore_n 2, 1) := by decide +kernel
theorem dX3_pace_7 : decode cX3_pace 7 = .ok (.iload_n 2, 1) := by decide +kernel
theorem dX3_pace_8 : decode cX3_pace 8 = .ok (.ifCond .le 21, 3) := by decide +kernel
theorem dX3_pace_11 : decode cX3_pace 11 = .ok (.iload_n 2, 1) := by decide +kernel
theorem dX3_pace_12 : decode cX3_pace 12 = .ok (.aload_n 0, 1) := by decide +kernel
theorem dX3_pace_13 : decode cX3_pace 13 = .ok (.getfield 19, 3) := by decide +kernel
theorem dX3_pace_16 : decode cX3_pace 16 = .ok (.if_icmp .le 13, 3) := by decide +kernel
theorem dX3_pace_19 : decode cX3_pace 19 = .ok (.iinc 1 1, 3) := by decide +kernel
theorem dX3_pace_22 : decode cX3_pace 22 = .ok (.iload_n 2, 1) := by decide +kernel
theorem dX3_pace_23 : decode cX3_pace 23 = .ok (.iconst 2, 1) := by decide +kernel
theorem dX3_pace_24 : decode cX3_pace 24 = .ok (.idiv, 1) := by decide +kernel
theorem dX3_pace_25 : decode cX3_pace 25 = .ok (.istore_n 2, 1) := by decide +kernel
theorem dX3_pace_26 : decode cX3_pace 26 = .ok (.goto (-19), 3) := by decide +kernel
theorem dX3_pace_29 : decode cX3_pace 29 = .ok (.aload_n 0, 1) := by decide +kernel
theorem dX3_pace_30 : decode cX3_pace 30 = .ok (.getfield 28, 3) := by decide +kernel
theorem dX3_pace_33 : decode cX3_pace 33 = .ok (.iload_n 1, 1) := by decide +kernel
theorem dX3_pace_34 : decode cX3_pace 34 = .ok (.imul, 1) := by decide +kernel
theorem dX3_pace_35 : decode cX3_pace 35 = .ok (.aload_n 0, 1) := by decide +kernel
theorem dX3_pace_36 : decode cX3_pace 36 = .ok (.getfield 16, 3) := by decide +kernel
theorem dX3_pace_39 : decode cX3_pace 39 = .ok (.invokestatic 35, 3) := by decide +kernel
theorem dX3_pace_42 : decode cX3_pace 42 = .ok (.ireturn, 1) := by decide +kernel
theorem dX3_trait_0 : decode cX3_trait 0 = .ok (.iload_n 1, 1) := by decide +kernel
theorem dX3_trait_1 : decode cX3_trait 1 = .ok (.tableswitch 81 0 6 #[43, 48, 53, 58, 63, 68, 73], 43) := by decide +kernel
theorem dX3_trait_44 : decode cX3_trait 44 = .ok (.aload_n 0, 1) := by decide +kernel
theorem dX3_trait_45 : decode cX3_trait 45 = .ok (.getfield 22, 3) := by decide +kernel
theorem dX3_trait_48 : decode cX3_trait 48 = .ok (.ireturn, 1) := by decide +kernel
theorem dX3_trait_49 : decode cX3_trait 49 = .ok (.aload_n 0, 1) := by decide +kernel
theorem dX3_trait_50 : decode cX3_trait 50 = .ok (.getfield 25, 3) := by decide +kernel
theorem dX3_trait_53 : decode cX3_trait 53 = .ok (.ireturn, 1) := by decide +kernel
theorem dX3_trait_54 : decode cX3_trait 54 = .ok (.aload_n 0, 1) := by decide +kernel
theorem dX3_trait_55 : decode cX3_trait 55 = .ok (.getfield 13, 3) := by decide +kernel
theorem dX3_trait_58 : decode cX3_trait 58 = .ok (.ireturn, 1) := by decide +kernel
theorem dX3_trait_59 : decode cX3_trait 59 = .ok (.aload_n 0, 1) := by decide +kernel
theorem dX3_trait_60 : decode cX3_trait 60 = .ok (.getfield 28, 3) := by decide +kernel
theorem dX3_trait_63 : decode cX3_trait 63 = .ok (.ireturn, 1) := by decide +kernel
theorem dX3_trait_64 : decode cX3_trait 64 = .ok (.aload_n 0, 1) := by decide +kernel
theorem dX3_trait_65 : decode cX3_trait 65 = .ok (.getfield 16, 3) := by decide +kernel
theorem dX3_trait_68 : decode cX3_trait 68 = .ok (.ireturn, 1) := by decide +kernel
theorem dX3_trait_69 : decode cX3_trait 69 = .ok (.aload_n 0, 1) := by decide +kernel
theorem dX3_trait_70 : decode cX3_trait 70 = .ok (.getfield 19, 3) := by decide +kernel
theorem dX3_trait_73 : decode cX3_trait 73 = .ok (.ireturn, 1) := by decide +kernel
theorem dX3_trait_74 : decode cX3_trait 74 = .ok (.aload_n 0, 1) := by decide +kernel
theorem dX3_trait_75 : decode cX3_trait 75 = .ok (.getfield 31, 3) := by decide +kernel
theorem dX3_trait_78 : decode cX3_trait 78 = .ok (.invokestatic 41, 3) := by decide +kernel
theorem dX3_trait_81 : decode cX3_trait 81 = .ok (.ireturn, 1) := by decide +kernel
theorem dX3_trait_82 : decode cX3_trait 82 = .ok (.aload_n 0, 1) := by decide +kernel
theorem dX3_trait_83 : decode cX3_trait 83 = .ok (.invokevirtual 45, 3) := by decide +kernel
theorem dX3_trait_86 : decode cX3_trait 86 = .ok (.ireturn, 1) := by decide +kernel
theorem dX3_gap_0 : decode cX3_gap 0 = .ok (.aload_n 0, 1) := by decide +kernel
theorem dX3_gap_1 : decode cX3_gap 1 = .ok (.getfield 22, 3) := by decide +kernel
theorem dX3_gap_4 : decode cX3_gap 4 = .ok (.aload_n 1, 1) := by decide +kernel
theorem dX3_gap_5 : decode cX3_gap 5 = .ok (.getfield 22, 3) := by decide +kernel
theorem dX3_gap_8 : decode cX3_gap 8 = .ok (.if_icmp .ge 15, 3) := by decide +kernel
theorem dX3_gap_11 : decode cX3_gap 11 = .ok (.aload_n 1, 1) := by decide +kernel
theorem dX3_gap_12 : decode cX3_gap 12 = .ok (.getfield 22, 3) := by decide +kernel
theorem dX3_gap_15 : decode cX3_gap 15 = .ok (.aload_n 0, 1) := by decide +kernel
theorem dX3_gap_16 : decode cX3_gap 16 = .ok (.getfield 22, 3) := by decide +kernel
theorem dX3_gap_19 : decode cX3_gap 19 = .ok (.isub, 1) := by decide +kernel
theorem dX3_gap_20 : decode cX3_gap 20 = .ok (.goto 12, 3) := by decide +kernel
theorem dX3_gap_23 : decode cX3_gap 23 = .ok (.aload_n 0, 1) := by decide +kernel
theorem dX3_gap_24 : decode cX3_gap 24 = .ok (.getfield 22, 3) := by decide +kernel
theorem dX3_gap_27 : decode cX3_gap 27 = .ok (.aload_n 1, 1) := by decide +kernel
theorem dX3_gap_28 : decode cX3_gap 28 = .ok (.getfield 22, 3) := by decide +kernel
theorem dX3_gap_31 : decode cX3_gap 31 = .ok (.isub, 1) := by decide +kernel
theorem dX3_gap_32 : decode cX3_gap 32 = .ok (.ireturn, 1) := by decide +kernel
theorem dX3_isNear_0 : decode cX3_isNear 0 = .ok (.aload_n 0, 1) := by decide +kernel
theorem dX3_isNear_1 : decode cX3_isNear 1 = .ok (.getfield 25, 3) := by decide +kernel
theorem dX3_isNear_4 : decode cX3_isNear 4 = .ok (.aload_n 1, 1) := by decide +kernel
theorem dX3_isNear_5 : decode cX3_isNear 5 = .ok (.getfield 25, 3) := by decide +kernel
theorem dX3_isNear_8 : decode cX3_isNear 8 = .ok (.isub, 1) := by decide +kernel
theorem dX3_isNear_9 : decode cX3_isNear 9 = .ok (.invokestatic 49, 3) := by decide +kernel
theorem dX3_isNear_12 : decode cX3_isNear 12 = .ok (.aload_n 0, 1) := by decide +kernel
theorem dX3_isNear_13 : decode cX3_isNear 13 = .ok (.getfield 16, 3) := by decide +kernel
theorem dX3_isNear_16 : decode cX3_isNear 16 = .ok (.aload_n 1, 1) := by decide +kernel
theorem dX3_isNear_17 : decode cX3_isNear 17 = .ok (.getfield 16, 3) := by decide +kernel
theorem dX3_isNear_20 : decode cX3_isNear 20 = .ok (.iadd, 1) := by decide +kernel
theorem dX3_isNear_21 : decode cX3_isNear 21 = .ok (.if_icmp .ge 7, 3) := by decide +kernel
theorem dX3_isNear_24 : decode cX3_isNear 24 = .ok (.iconst 1, 1) := by decide +kernel
theorem dX3_isNear_25 : decode cX3_isNear 25 = .ok (.goto 4, 3) := by decide +kernel
theorem dX3_isNear_28 : decode cX3_isNear 28 = .ok (.iconst 0, 1) := by decide +kernel
theorem dX3_isNear_29 : decode cX3_isNear 29 = .ok (.ireturn, 1) := by decide +kernel
theorem dX3_isBehind_0 : decode cX3_isBehind 0 = .ok (.aload_n 0, 1) := by decide +kernel
theorem dX3_isBehind_1 : decode cX3_isBehind 1 = .ok (.getfield 13, 3) := by decide +kernel
theorem dX3_isBehind_4 : decode cX3_isBehind 4 = .ok (.aload_n 1, 1) := by decide +kernel
theorem dX3_isBehind_5 : decode cX3_isBehind 5 = .ok (.getfield 13, 3) := by decide +kernel
theorem dX3_isBehind_8 : decode cX3_isBehind 8 = .ok (.if_icmp .eq 5, 3) := by decide +kernel
theorem dX3_isBehind_11 : decode cX3_isBehind 11 = .ok (.iconst 0, 1) := by decide +kernel
theorem dX3_isBehind_12 : decode cX3_isBehind 12 = .ok (.ireturn, 1) := by decide +kernel
theorem dX3_isBehind_13 : decode cX3_isBehind 13 = .ok (.aload_n 0, 1) := by decide +kernel
theorem dX3_isBehind_14 : decode cX3_isBehind 14 = .ok (.getfield 22, 3) := by decide +kernel
theorem dX3_isBehind_17 : decode cX3_isBehind 17 = .ok (.aload_n 1, 1) := by decide +kernel
theorem dX3_isBehind_18 : decode cX3_isBehind 18 = .ok (.getfield 22, 3) := by decide +kernel
theorem dX3_isBehind_21 : decode cX3_isBehind 21 = .ok (.if_icmp .ne 22, 3) := by decide +kernel
theorem dX3_isBehind_24 : decode cX3_isBehind 24 = .ok (.aload_n 0, 1) := by decide +kernel
theorem dX3_isBehind_25 : decode cX3_isBehind 25 = .ok (.getfield 7, 3) := by decide +kernel
theorem dX3_isBehind_28 : decode cX3_isBehind 28 = .ok (.aload_n 1, 1) := by decide +kernel
theorem dX3_isBehind_29 : decode cX3_isBehind 29 = .ok (.getfield 7, 3) := by decide +kernel
theorem dX3_isBehind_32 : decode cX3_isBehind 32 = .ok (.if_icmp .le 7, 3) := by decide +kernel
theorem dX3_isBehind_35 : decode cX3_isBehind 35 = .ok (.iconst 1, 1) := by decide +kernel
theorem dX3_isBehind_36 : decode cX3_isBehind 36 = .ok (.goto 29, 3) := by decide +kernel
theorem dX3_isBehind_39 : decode cX3_isBehind 39 = .ok (.iconst 0, 1) := by decide +kernel
theorem dX3_isBehind_40 : decode cX3_isBehind 40 = .ok (.goto 25, 3) := by decide +kernel
theorem dX3_isBehind_43 : decode cX3_isBehind 43 = .ok (.aload_n 1, 1) := by decide +kernel
theorem dX3_isBehind_44 : decode cX3_isBehind 44 = .ok (.getfield 22, 3) := by decide +kernel
theorem dX3_isBehind_47 : decode cX3_isBehind 47 = .ok (.aload_n 0, 1) := by decide +kernel
theorem dX3_isBehind_48 : decode cX3_isBehind 48 = .ok (.getfield 22, 3) := by decide +kernel
theorem dX3_isBehind_51 : decode cX3_isBehind 51 = .ok (.isub, 1) := by decide +kernel
theorem dX3_isBehind_52 : decode cX3_isBehind 52 = .ok (.aload_n 0, 1) := by decide +kernel
theorem dX3_isBehind_53 : decode cX3_isBehind 53 = .ok (.getfield 13, 3) := by decide +kernel
theorem dX3_isBehind_56 : decode cX3_isBehind 56 = .ok (.imul, 1) := by decide +kernel
theorem dX3_isBehind_57 : decode cX3_isBehind 57 = .ok (.ifCond .le 7, 3) := by decide +kernel
theorem dX3_isBehind_60 : decode cX3_isBehind 60 = .ok (.iconst 1, 1) := by decide +kernel
theorem dX3_isBehind_61 : decode cX3_isBehind 61 = .ok (.goto 4, 3) := by decide +kernel
theorem dX3_isBehind_64 : decode cX3_isBehind 64 = .ok (.iconst 0, 1) := by decide +kernel
theorem dX3_isBehind_65 : decode cX3_isBehind 65 = .ok (.ireturn, 1) := by decide +kernel
theorem dX4_init_0 : decode cX4_init 0 = .ok (.aload_n 0, 1) := by decide +kernel
theorem dX4_init_1 : decode cX4_init 1 = .ok (.invokespecial 3, 3) := by decide +kernel
theorem dX4_init_4 : decode cX4_init 4 = .ok (.aload_n 0, 1) := by decide +kernel
theorem dX4_init_5 : decode cX4_init 5 = .ok (.bipush 8, 2) := by decide +kernel
theorem dX4_init_7 : decode cX4_init 7 = .ok (.anewarray 9, 3) := by decide +kernel
theorem dX4_init_10 : decode cX4_init 10 = .ok (.putfield 11, 3) := by decide +kernel
theorem dX4_init_13 : decode cX4_init 13 = .ok (.aload_n 0, 1) := by decide +kernel
theorem dX4_init_14 : decode cX4_init 14 = .ok (.bipush 8, 2) := by decide +kernel
theorem dX4_init_16 : decode cX4_init 16 = .ok (.anewarray 9, 3) := by decide +kernel
theorem dX4_init_19 : decode cX4_init 19 = .ok (.putfield 17, 3) := by decide +kernel
theorem dX4_init_22 : decode cX4_init 22 = .ok (.iconst 0, 1) := by decide +kernel
theorem dX4_init_23 : decode cX4_init 23 = .ok (.istore_n 1, 1) := by decide +kernel
theorem dX4_init_24 : decode cX4_init 24 = .ok (.iload_n 1, 1) := by decide +kernel
theorem dX4_init_25 : decode cX4_init 25 = .ok (.bipush 8, 2) := by decide +kernel
theorem dX4_init_27 : decode cX4_init 27 = .ok (.if_icmp .ge 37, 3) := by decide +kernel
theorem dX4_init_30 : decode cX4_init 30 = .ok (.aload_n 0, 1) := by decide +kernel
theorem dX4_init_31 : decode cX4_init 31 = .ok (.getfield 11, 3) := by decide +kernel
theorem dX4_init_34 : decode cX4_init 34 = .ok (.iload_n 1, 1) := by decide +kernel
theorem dX4_init_35 : decode cX4_init 35 = .ok (.new 9, 3) := by decide +kernel
theorem dX4_init_38 : decode cX4_init 38 = .ok (.dup, 1) := by decide +kernel
theorem dX4_init_39 : decode cX4_init 39 = .ok (.iload_n 1, 1) := by decide +kernel
theorem dX4_init_40 : decode cX4_init 40 = .ok (.invokespecial 20, 3) := by decide +kernel
theorem dX4_init_43 : decode cX4_init 43 = .ok (.aastore, 1) := by decide +kernel
theorem dX4_init_44 : decode cX4_init 44 = .ok (.aload_n 0, 1) := by decide +kernel
theorem dX4_init_45 : decode cX4_init 45 = .ok (.getfield 17, 3) := by decide +kernel
theorem dX4_init_48 : decode cX4_init 48 = .ok (.iload_n 1, 1) := by decide +kernel
theorem dX4_init_49 : decode cX4_init 49 = .ok (.new 9, 3) := by decide +kernel
theorem dX4_init_52 : decode cX4_init 52 = .ok (.dup, 1) := by decide +kernel
theorem dX4_init_53 : decode cX4_init 53 = .ok (.iload_n 1, 1) := by decide +kernel
theorem dX4_init_54 : decode cX4_init 54 = .ok (.invokespecial 20, 3) := by decide +kernel
theorem dX4_init_57 : decode cX4_init 57 = .ok (.aastore, 1) := by decide +kernel
theorem dX4_init_58 : decode cX4_init 58 = .ok (.iinc 1 1, 3) := by decide +kernel
theorem dX4_init_61 : decode cX4_init 61 = .ok (.goto (-37), 3) := by decide +kernel
theorem dX4_init_64 : decode cX4_init 64 = .ok (.aload_n 0, 1) := by decide +kernel
theorem dX4_init_65 : decode cX4_init 65 = .ok (.bipush 6, 2) := by decide +kernel
theorem dX4_init_67 : decode cX4_init 67 = .ok (.anewarray 23, 3) := by decide +kernel
theorem dX4_init_70 : decode cX4_init 70 = .ok (.putfield 25, 3) := by decide +kernel
theorem dX4_init_73 : decode cX4_init 73 = .ok (.aload_n 0, 1) := by decide +kernel
theorem dX4_init_74 : decode cX4_init 74 = .ok (.ldc 29, 2) := by decide +kernel
theorem dX4_init_76 : decode cX4_init 76 = .ok (.putfield 30, 3) := by decide +kernel
theorem dX4_init_79 : decode cX4_init 79 = .ok (.aload_n 0, 1) := by decide +kernel
theorem dX4_init_80 : decode cX4_init 80 = .ok (.bipush 10, 2) := by decide +kernel
theorem dX4_init_82 : decode cX4_init 82 = .ok (.putfield 34, 3) := by decide +kernel
theorem dX4_init_85 : decode cX4_init 85 = .ok (.aload_n 0, 1) := by decide +kernel
theorem dX4_init_86 : decode cX4_init 86 = .ok (.iconst 1, 1) := by decide +kernel
theorem dX4_init_87 : decode cX4_init 87 = .ok (.putfield 37, 3) := by decide +kernel
theorem dX4_init_90 : decode cX4_init 90 = .ok (.aload_n 0, 1) := by decide +kernel
theorem dX4_init_91 : decode cX4_init 91 = .ok (.iconst 2, 1) := by decide +kernel
theorem dX4_init_92 : decode cX4_init 92 = .ok (.anewarray 40, 3) := by decide +kernel
theorem dX4_init_95 : decode cX4_init 95 = .ok (.putfield 42, 3) := by decide +kernel
theorem dX4_init_98 : decode cX4_init 98 = .ok (.aload_n 0, 1) := by decide +kernel
theorem dX4_init_99 : decode cX4_init 99 = .ok (.getfield 42, 3) := by decide +kernel
theorem dX4_init_102 : decode cX4_init 102 = .ok (.iconst 0, 1) := by decide +kernel
theorem dX4_init_103 : decode cX4_init 103 = .ok (.new 40, 3) := by decide +kernel
theorem dX4_init_106 : decode cX4_init 106 = .ok (.dup, 1) := by decide +kernel
theorem dX4_init_107 : decode cX4_init 107 = .ok (.invokespecial 46, 3) := by decide +kernel
theorem dX4_init_110 : decode cX4_init 110 = .ok (.aastore, 1) := by decide +kernel
theorem dX4_init_111 : decode cX4_init 111 = .ok (.aload_n 0, 1) := by decide +kernel
theorem dX4_init_112 : decode cX4_init 112 = .ok (.getfield 42, 3) := by decide +kernel
theorem dX4_init_115 : decode cX4_init 115 = .ok (.iconst 1, 1) := by decide +kernel
theorem dX4_init_116 : decode cX4_init 116 = .ok (.new 40, 3) := by decide +kernel
theorem dX4_init_119 : decode cX4_init 119 = .ok (.dup, 1) := by decide +kernel
theorem dX4_init_120 : decode cX4_init 120 = .ok (.invokespecial 46, 3) := by decide +kernel
theorem dX4_init_123 : decode cX4_init 123 = .ok (.aastore, 1) := by decide +kernel
theorem dX4_init_124 : decode cX4_init 124 = .ok (.aload_n 0, 1) := by decide +kernel
theorem dX4_init_125 : decode cX4_init 125 = .ok (.new 47, 3) := by decide +kernel
theorem dX4_init_128 : decode cX4_init 128 = .ok (.dup, 1) := by decide +kernel
theorem dX4_init_129 : decode cX4_init 129 = .ok (.bipush 50, 2) := by decide +kernel
theorem dX4_init_131 : decode cX4_init 131 = .ok (.invokespecial 49, 3) := by decide +kernel
theorem dX4_init_134 : decode cX4_init 134 = .ok (.putfield 50, 3) := by decide +kernel
theorem dX4_init_137 : decode cX4_init 137 = .ok (.aload_n 0, 1) := by decide +kernel
theorem dX4_init_138 : decode cX4_init 138 = .ok (.new 47, 3) := by decide +kernel
theorem dX4_init_141 : decode cX4_init 141 = .ok (.dup, 1) := by decide +kernel
theorem dX4_init_142 : decode cX4_init 142 = .ok (.bipush 20, 2) := by decide +kernel
theorem dX4_init_144 : decode cX4_init 144 = .ok (.invokespecial 49, 3) := by decide +kernel
theorem dX4_init_147 : decode cX4_init 147 = .ok (.putfield 54, 3) := by decide +kernel
theorem dX4_init_150 : decode cX4_init 150 = .ok (.return_, 1) := by decide +kernel
theorem dX4_become_0 : decode cX4_become 0 = .ok (.aload_n 0, 1) := by decide +kernel
theorem dX4_become_1 : decode cX4_become 1 = .ok (.aload_n 1, 1) := by decide +kernel
theorem dX4_become_2 : decode cX4_become 2 = .ok (.invokevirtual 57, 3) := by decide +kernel
theorem dX4_become_5 : decode cX4_become 5 = .ok (.iconst 0, 1) := by decide +kernel
theorem dX4_become_6 : decode cX4_become 6 = .ok (.istore_n 2, 1) := by decide +kernel
theorem dX4_become_7 : decode cX4_become 7 = .ok (.iload_n 2, 1) := by decide +kernel
theorem dX4_become_8 : decode cX4_become 8 = .ok (.bipush 6, 2) := by decide +kernel
theorem dX4_become_10 : decode cX4_become 10 = .ok (.if_icmp .ge 21, 3) := by decide +kernel
theorem dX4_become_13 : decode cX4_become 13 = .ok (.aload_n 0, 1) := by decide +kernel
theorem dX4_become_14 : decode cX4_become 14 = .ok (.getfield 25, 3) := by decide +kernel
theorem dX4_become_17 : decode cX4_become 17 = .ok (.iload_n 2, 1) := by decide +kernel
theorem dX4_become_18 : decode cX4_become 18 = .ok (.aload_n 1, 1) := by decide +kernel
theorem dX4_become_19 : decode cX4_become 19 = .ok (.getfield 25, 3) := by decide +kernel
theorem dX4_become_22 : decode cX4_become 22 = .ok (.iload_n 2, 1) := by decide +kernel
theorem dX4_become_23 : decode cX4_become 23 = .ok (.aaload, 1) := by decide +kernel
theorem dX4_become_24 : decode cX4_become 24 = .ok (.aastore, 1) := by decide +kernel
theorem dX4_become_25 : decode cX4_become 25 = .ok (.iinc 2 1, 3) := by decide +kernel
theorem dX4_become_28 : decode cX4_become 28 = .ok (.goto (-21), 3) := by decide +kernel
theorem dX4_become_31 : decode cX4_become 31 = .ok (.aload_n 0, 1) := by decide +kernel
theorem dX4_become_32 : decode cX4_become 32 = .ok (.aload_n 1, 1) := by decide +kernel
theorem dX4_become_33 : decode cX4_become 33 = .ok (.getfield 61, 3) := by decide +kernel
theorem dX4_become_36 : decode cX4_become 36 = .ok (.putfield 61, 3) := by decide +kernel
theorem dX4_become_39 : decode cX4_become 39 = .ok (.aload_n 0, 1) := by decide +kernel
theorem dX4_become_40 : decode cX4_become 40 = .ok (.aload_n 1, 1) := by decide +kernel
theorem dX4_become_41 : decode cX4_become 41 = .ok (.getfield 64, 3) := by decide +kernel
theorem dX4_become_44 : decode cX4_become 44 = .ok (.putfield 64, 3) := by decide +kernel
theorem dX4_become_47 : decode cX4_become 47 = .ok (.aload_n 0, 1) := by decide +kernel
theorem dX4_become_48 : decode cX4_become 48 = .ok (.aload_n 1, 1) := by decide +kernel
theorem dX4_become_49 : decode cX4_become 49 = .ok (.getfield 30, 3) := by decide +kernel
theorem dX4_become_52 : decode cX4_become 52 = .ok (.putfield 30, 3) := by decide +kernel
theorem dX4_become_55 : decode cX4_become 55 = .ok (.aload_n 0, 1) := by decide +kernel
theorem dX4_become_56 : decode cX4_become 56 = .ok (.aload_n 1, 1) := by decide +kernel
theorem dX4_become_57 : decode cX4_become 57 = .ok (.getfield 34, 3) := by decide +kernel
theorem dX4_become_60 : decode cX4_become 60 = .ok (.putfield 34, 3) := by decide +kernel
theorem dX4_become_63 : decode cX4_become 63 = .ok (.aload_n 0, 1) := by decide +kernel
theorem dX4_become_64 : decode cX4_become 64 = .ok (.aload_n 1, 1) := by decide +kernel
theorem dX4_become_65 : decode cX4_become 65 = .ok (.getfield 67, 3) := by decide +kernel
theorem dX4_become_68 : decode cX4_become 68 = .ok (.putfield 67, 3) := by decide +kernel
theorem dX4_become_71 : decode cX4_become 71 = .ok (.aload_n 0, 1) := by decide +kernel
theorem dX4_become_72 : decode cX4_become 72 = .ok (.aload_n 1, 1) := by decide +kernel
theorem dX4_become_73 : decode cX4_become 73 = .ok (.getfield 37, 3) := by decide +kernel
theorem dX4_become_76 : decode cX4_become 76 = .ok (.putfield 37, 3) := by decide +kernel
theorem dX4_become_79 : decode cX4_become 79 = .ok (.aload_n 0, 1) := by decide +kernel
theorem dX4_become_80 : decode cX4_become 80 = .ok (.getfield 42, 3) := by decide +kernel
theorem dX4_become_83 : decode cX4_become 83 = .ok (.iconst 0, 1) := by decide +kernel
theorem dX4_become_84 : decode cX4_become 84 = .ok (.aaload, 1) := by decide +kernel
theorem dX4_become_85 : decode cX4_become 85 = .ok (.aload_n 1, 1) := by decide +kernel
theorem dX4_become_86 : decode cX4_become 86 = .ok (.getfield 42, 3) := by decide +kernel
theorem dX4_become_89 : decode cX4_become 89 = .ok (.iconst 0, 1) := by decide +kernel
theorem dX4_become_90 : decode cX4_become 90 = .ok (.aaload, 1) := by decide +kernel
theorem dX4_become_91 : decode cX4_become 91 = .ok (.invokevirtual 70, 3) := by decide +kernel
theorem dX4_become_94 : decode cX4_become 94 = .ok (.aload_n 0, 1) := by decide +kernel
theorem dX4_become_95 : decode cX4_become 95 = .ok (.getfield 42, 3) := by decide +kernel
theorem dX4_become_98 : decode cX4_become 98 = .ok (.iconst 1, 1) := by decide +kernel
theorem dX4_become_99 : decode cX4_become 99 = .ok (.aaload, 1) := by decide +kernel
theorem dX4_become_100 : decode cX4_become 100 = .ok (.aload_n 1, 1) := by decide +kernel
theorem dX4_become_101 : decode cX4_become 101 = .ok (.getfield 42, 3) := by decide +kernel
theorem dX4_become_104 : decode cX4_become 104 = .ok (.iconst 1, 1) := by decide +kernel
theorem dX4_become_105 : decode cX4_become 105 = .ok (.aaload, 1) := by decide +kernel
theorem dX4_become_106 : decode cX4_become 106 = .ok (.invokevirtual 70, 3) := by decide +kernel
theorem dX4_become_109 : decode cX4_become 109 = .ok (.aload_n 0, 1) := by decide +kernel
theorem dX4_become_110 : decode cX4_become 110 = .ok (.getfield 50, 3) := by decide +kernel
theorem dX4_become_113 : decode cX4_become 113 = .ok (.aload_n 1, 1) := by decide +kernel
theorem dX4_become_114 : decode cX4_become 114 = .ok (.getfield 50, 3) := by decide +kernel
theorem dX4_become_117 : decode cX4_become 117 = .ok (.invokevirtual 74, 3) := by decide +kernel
theorem dX4_become_120 : decode cX4_become 120 = .ok (.aload_n 0, 1) := by decide +kernel
theorem dX4_become_121 : decode cX4_become 121 = .ok (.getfield 54, 3) := by decide +kernel
theorem dX4_become_124 : decode cX4_become 124 = .ok (.aload_n 1, 1) := by decide +kernel
theorem dX4_become_125 : decode cX4_become 125 = .ok (.getfield 54, 3) := by decide +kernel
theorem dX4_become_128 : decode cX4_become 128 = .ok (.invokevirtual 74, 3) := by decide +kernel
theorem dX4_become_131 : decode cX4_become 131 = .ok (.return_, 1) := by decide +kernel
theorem dX4_takeRings_0 : decode cX4_takeRings 0 = .ok (.aload_n 0, 1) := by decide +kernel
theorem dX4_takeRings_1 : decode cX4_takeRings 1 = .ok (.aload_n 1, 1) := by decide +kernel
theorem dX4_takeRings_2 : decode cX4_takeRings 2 = .ok (.getfield 77, 3) := by decide +kernel
theorem dX4_takeRings_5 : decode cX4_takeRings 5 = .ok (.putfield 77, 3) := by decide +kernel
theorem dX4_takeRings_8 : decode cX4_takeRings 8 = .ok (.iconst 0, 1) := by decide +kernel
theorem dX4_takeRings_9 : decode cX4_takeRings 9 = .ok (.istore_n 2, 1) := by decide +kernel
theorem dX4_takeRings_10 : decode cX4_takeRings 10 = .ok (.iload_n 2, 1) := by decide +kernel
theorem dX4_takeRings_11 : decode cX4_takeRings 11 = .ok (.aload_n 0, 1) := by decide +kernel
theorem dX4_takeRings_12 : decode cX4_takeRings 12 = .ok (.getfield 77, 3) := by decide +kernel
theorem dX4_takeRings_15 : decode cX4_takeRings 15 = .ok (.if_icmp .ge 24, 3) := by decide +kernel
theorem dX4_takeRings_18 : decode cX4_takeRings 18 = .ok (.aload_n 0, 1) := by decide +kernel
theorem dX4_takeRings_19 : decode cX4_takeRings 19 = .ok (.getfield 11, 3) := by decide +kernel
theorem dX4_takeRings_22 : decode cX4_takeRings 22 = .ok (.iload_n 2, 1) := by decide +kernel
theorem dX4_takeRings_23 : decode cX4_takeRings 23 = .ok (.aaload, 1) := by decide +kernel
theorem dX4_takeRings_24 : decode cX4_takeRings 24 = .ok (.aload_n 1, 1) := by decide +kernel
theorem dX4_takeRings_25 : decode cX4_takeRings 25 = .ok (.getfield 11, 3) := by decide +kernel
theorem dX4_takeRings_28 : decode cX4_takeRings 28 = .ok (.iload_n 2, 1) := by decide +kernel
theorem dX4_takeRings_29 : decode cX4_takeRings 29 = .ok (.aaload, 1) := by decide +kernel
theorem dX4_takeRings_30 : decode cX4_takeRings 30 = .ok (.invokevirtual 80, 3) := by decide +kernel
theorem dX4_takeRings_33 : decode cX4_takeRings 33 = .ok (.iinc 2 1, 3) := by decide +kernel
theorem dX4_takeRings_36 : decode cX4_takeRings 36 = .ok (.goto (-26), 3) := by decide +kernel
theorem dX4_takeRings_39 : decode cX4_takeRings 39 = .ok (.return_, 1) := by decide +kernel
theorem dX4_isFull_0 : decode cX4_isFull 0 = .ok (.aload_n 0, 1) := by decide +kernel
theorem dX4_isFull_1 : decode cX4_isFull 1 = .ok (.getfield 77, 3) := by decide +kernel
theorem dX4_isFull_4 : decode cX4_isFull 4 = .ok (.bipush 8, 2) := by decide +kernel
theorem dX4_isFull_6 : decode cX4_isFull 6 = .ok (.if_icmp .lt 7, 3) := by decide +kernel
theorem dX4_isFull_9 : decode cX4_isFull 9 = .ok (.iconst 1, 1) := by decide +kernel
theorem dX4_isFull_10 : decode cX4_isFull 10 = .ok (.goto 4, 3) := by decide +kernel
theorem dX4_isFull_13 : decode cX4_isFull 13 = .ok (.iconst 0, 1) := by decide +kernel
theorem dX4_isFull_14 : decode cX4_isFull 14 = .ok (.ireturn, 1) := by decide +kernel
theorem dX4_hasRing_0 : decode cX4_hasRing 0 = .ok (.iload_n 1, 1) := by decide +kernel
theorem dX4_hasRing_1 : decode cX4_hasRing 1 = .ok (.ifCond .lt 15, 3) := by decide +kernel
theorem dX4_hasRing_4 : decode cX4_hasRing 4 = .ok (.iload_n 1, 1) := by decide +kernel
theorem dX4_hasRing_5 : decode cX4_hasRing 5 = .ok (.aload_n 0, 1) := by decide +kernel
theorem dX4_hasRing_6 : decode cX4_hasRing 6 = .ok (.getfield 77, 3) := by decide +kernel
theorem dX4_hasRing_9 : decode cX4_hasRing 9 = .ok (.if_icmp .ge 7, 3) := by decide +kernel
theorem dX4_hasRing_12 : decode cX4_hasRing 12 = .ok (.iconst 1, 1) := by decide +kernel
theorem dX4_hasRing_13 : decode cX4_hasRing 13 = .ok (.goto 4, 3) := by decide +kernel
theorem dX4_hasRing_16 : decode cX4_hasRing 16 = .ok (.iconst 0, 1) := by decide +kernel
theorem dX4_hasRing_17 : decode cX4_hasRing 17 = .ok (.ireturn, 1) := by decide +kernel
theorem dX4_hasLaw_0 : decode cX4_hasLaw 0 = .ok (.iload_n 1, 1) := by decide +kernel
theorem dX4_hasLaw_1 : decode cX4_hasLaw 1 = .ok (.ifCond .lt 24, 3) := by decide +kernel
theorem dX4_hasLaw_4 : decode cX4_hasLaw 4 = .ok (.iload_n 1, 1) := by decide +kernel
theorem dX4_hasLaw_5 : decode cX4_hasLaw 5 = .ok (.aload_n 0, 1) := by decide +kernel
theorem dX4_hasLaw_6 : decode cX4_hasLaw 6 = .ok (.getfield 61, 3) := by decide +kernel
theorem dX4_hasLaw_9 : decode cX4_hasLaw 9 = .ok (.if_icmp .ge 16, 3) := by decide +kernel
theorem dX4_hasLaw_12 : decode cX4_hasLaw 12 = .ok (.aload_n 0, 1) := by decide +kernel
theorem dX4_hasLaw_13 : decode cX4_hasLaw 13 = .ok (.getfield 25, 3) := by decide +kernel
theorem dX4_hasLaw_16 : decode cX4_hasLaw 16 = .ok (.iload_n 1, 1) := by decide +kernel
theorem dX4_hasLaw_17 : decode cX4_hasLaw 17 = .ok (.aaload, 1) := by decide +kernel
theorem dX4_hasLaw_18 : decode cX4_hasLaw 18 = .ok (.ifnull 7, 3) := by decide +kernel
theorem dX4_hasLaw_21 : decode cX4_hasLaw 21 = .ok (.iconst 1, 1) := by decide +kernel
theorem dX4_hasLaw_22 : decode cX4_hasLaw 22 = .ok (.goto 4, 3) := by decide +kernel
theorem dX4_hasLaw_25 : decode cX4_hasLaw 25 = .ok (.iconst 0, 1) := by decide +kernel
theorem dX4_hasLaw_26 : decode cX4_hasLaw 26 = .ok (.ireturn, 1) := by decide +kernel
theorem dX4_isOn_0 : decode cX4_isOn 0 = .ok (.aload_n 0, 1) := by decide +kernel
theorem dX4_isOn_1 : decode cX4_isOn 1 = .ok (.getfield 64, 3) := by decide +kernel
theorem dX4_isOn_4 : decode cX4_isOn 4 = .ok (.iload_n 1, 1) := by decide +kernel
theorem dX4_isOn_5 : decode cX4_isOn 5 = .ok (.ishr, 1) := by decide +kernel
theorem dX4_isOn_6 : decode cX4_isOn 6 = .ok (.iconst 1, 1) := by decide +kernel
theorem dX4_isOn_7 : decode cX4_isOn 7 = .ok (.iand, 1) := by decide +kernel
theorem dX4_isOn_8 : decode cX4_isOn 8 = .ok (.ifCond .eq 7, 3) := by decide +kernel
theorem dX4_isOn_11 : decode cX4_isOn 11 = .ok (.iconst 1, 1) := by decide +kernel
theorem dX4_isOn_12 : decode cX4_isOn 12 = .ok (.goto 4, 3) := by decide +kernel
theorem dX4_isOn_15 : decode cX4_isOn 15 = .ok (.iconst 0, 1) := by decide +kernel
theorem dX4_isOn_16 : decode cX4_isOn 16 = .ok (.ireturn, 1) := by decide +kernel
theorem dX4_lawOn_0 : decode cX4_lawOn 0 = .ok (.aload_n 0, 1) := by decide +kernel
theorem dX4_lawOn_1 : decode cX4_lawOn 1 = .ok (.iload_n 1, 1) := by decide +kernel
theorem dX4_lawOn_2 : decode cX4_lawOn 2 = .ok (.invokevirtual 83, 3) := by decide +kernel
theorem dX4_lawOn_5 : decode cX4_lawOn 5 = .ok (.ifCond .eq 12, 3) := by decide +kernel
theorem dX4_lawOn_8 : decode cX4_lawOn 8 = .ok (.aload_n 0, 1) := by decide +kernel
theorem dX4_lawOn_9 : decode cX4_lawOn 9 = .ok (.getfield 25, 3) := by decide +kernel
theorem dX4_lawOn_12 : decode cX4_lawOn 12 = .ok (.iload_n 1, 1) := by decide +kernel
theorem dX4_lawOn_13 : decode cX4_lawOn 13 = .ok (.aaload, 1) := by decide +kernel
theorem dX4_lawOn_14 : decode cX4_lawOn 14 = .ok (.goto 4, 3) := by decide +kernel
theorem dX4_lawOn_17 : decode cX4_lawOn 17 = .ok (.aconst_null, 1) := by decide +kernel
theorem dX4_lawOn_18 : decode cX4_lawOn 18 = .ok (.areturn, 1) := by decide +kernel
theorem dX4_addRing_0 : decode cX4_addRing 0 = .ok (.aload_n 0, 1) := by decide +kernel
theorem dX4_addRing_1 : decode cX4_addRing 1 = .ok (.getfield 77, 3) := by decide +kernel
theorem dX4_addRing_4 : decode cX4_addRing 4 = .ok (.bipush 7, 2) := by decide +kernel
theorem dX4_addRing_6 : decode cX4_addRing 6 = .ok (.invokestatic 87, 3) := by decide +kernel
theorem dX4_addRing_9 : decode cX4_addRing 9 = .ok (.istore 7, 2) := by decide +kernel
theorem dX4_addRing_11 : decode cX4_addRing 11 = .ok (.aload_n 0, 1) := by decide +kernel
theorem dX4_addRing_12 : decode cX4_addRing 12 = .ok (.getfield 11, 3) := by decide +kernel
theorem dX4_addRing_15 : decode cX4_addRing 15 = .ok (.iload 7, 2) := by decide +kernel
theorem dX4_addRing_17 : decode cX4_addRing 17 = .ok (.aaload, 1) := by decide +kernel
theorem dX4_addRing_18 : decode cX4_addRing 18 = .ok (.astore 8, 2) := by decide +kernel
theorem dX4_addRing_20 : decode cX4_addRing 20 = .ok (.aload 8, 2) := by decide +kernel
theorem dX4_addRing_22 : decode cX4_addRing 22 = .ok (.iload_n 1, 1) := by decide +kernel
theorem dX4_addRing_23 : decode cX4_addRing 23 = .ok (.putfield 93, 3) := by decide +kernel
theorem dX4_addRing_26 : decode cX4_addRing 26 = .ok (.aload 8, 2) := by decide +kernel
theorem dX4_addRing_28 : decode cX4_addRing 28 = .ok (.iload_n 2, 1) := by decide +kernel
theorem dX4_addRing_29 : decode cX4_addRing 29 = .ok (.putfield 96, 3) := by decide +kernel
theorem dX4_addRing_32 : decode cX4_addRing 32 = .ok (.aload 8, 2) := by decide +kernel
theorem dX4_addRing_34 : decode cX4_addRing 34 = .ok (.iload_n 3, 1) := by decide +kernel
theorem dX4_addRing_35 : decode cX4_addRing 35 = .ok (.putfield 99, 3) := by decide +kernel
theorem dX4_addRing_38 : decode cX4_addRing 38 = .ok (.aload 8, 2) := by decide +kernel
theorem dX4_addRing_40 : decode cX4_addRing 40 = .ok (.iload 4, 2) := by decide +kernel
theorem dX4_addRing_42 : decode cX4_addRing 42 = .ok (.putfield 102, 3) := by decide +kernel
theorem dX4_addRing_45 : decode cX4_addRing 45 = .ok (.aload 8, 2) := by decide +kernel
theorem dX4_addRing_47 : decode cX4_addRing 47 = .ok (.iload 5, 2) := by decide +kernel
theorem dX4_addRing_49 : decode cX4_addRing 49 = .ok (.putfield 105, 3) := by decide +kernel
theorem dX4_addRing_52 : decode cX4_addRing 52 = .ok (.aload 8, 2) := by decide +kernel
theorem dX4_addRing_54 : decode cX4_addRing 54 = .ok (.iload 6, 2) := by decide +kernel
theorem dX4_addRing_56 : decode cX4_addRing 56 = .ok (.putfield 108, 3) := by decide +kernel
theorem dX4_addRing_59 : decode cX4_addRing 59 = .ok (.aload 8, 2) := by decide +kernel
theorem dX4_addRing_61 : decode cX4_addRing 61 = .ok (.iconst 1, 1) := by decide +kernel
theorem dX4_addRing_62 : decode cX4_addRing 62 = .ok (.putfield 111, 3) := by decide +kernel
theorem dX4_addRing_65 : decode cX4_addRing 65 = .ok (.aload_n 0, 1) := by decide +kernel
theorem dX4_addRing_66 : decode cX4_addRing 66 = .ok (.iload 7, 2) := by decide +kernel
theorem dX4_addRing_68 : decode cX4_addRing 68 = .ok (.iconst 1, 1) := by decide +kernel
theorem dX4_addRing_69 : decode cX4_addRing 69 = .ok (.iadd, 1) := by decide +kernel
theorem dX4_addRing_70 : decode cX4_addRing 70 = .ok (.putfield 77, 3) := by decide +kernel
theorem dX4_addRing_73 : decode cX4_addRing 73 = .ok (.iload 7, 2) := by decide +kernel
theorem dX4_addRing_75 : decode cX4_addRing 75 = .ok (.ireturn, 1) := by decide +kernel
theorem dX4_addStroke_0 : decode cX4_addStroke 0 = .ok (.aload_n 0, 1) := by decide +kernel
theorem dX4_addStroke_1 : decode cX4_addStroke 1 = .ok (.iconst 0, 1) := by decide +kernel
theorem dX4_addStroke_2 : decode cX4_addStroke 2 = .ok (.iconst 0, 1) := by decide +kernel
theorem dX4_addStroke_3 : decode cX4_addStroke 3 = .ok (.iconst 1, 1) := by decide +kernel
theorem dX4_addStroke_4 : decode cX4_addStroke 4 = .ok (.aload_n 0, 1) := by decide +kernel
theorem dX4_addStroke_5 : decode cX4_addStroke 5 = .ok (.iconst 0, 1) := by decide +kernel
theorem dX4_addStroke_6 : decode cX4_addStroke 6 = .ok (.iload_n 1, 1) := by decide +kernel
theorem dX4_addStroke_7 : decode cX4_addStroke 7 = .ok (.iload_n 2, 1) := by decide +kernel
theorem dX4_addStroke_8 : decode cX4_addStroke 8 = .ok (.aload_n 0, 1) := by decide +kernel
theorem dX4_addStroke_9 : decode cX4_addStroke 9 = .ok (.getfield 34, 3) := by decide +kernel
theorem dX4_addStroke_12 : decode cX4_addStroke 12 = .ok (.invokevirtual 115, 3) := by decide +kernel
theorem dX4_addStroke_15 : decode cX4_addStroke 15 = .ok (.aload_n 0, 1) := by decide +kernel
theorem dX4_addStroke_16 : decode cX4_addStroke 16 = .ok (.getfield 34, 3) := by decide +kernel
theorem dX4_addStroke_19 : decode cX4_addStroke 19 = .ok (.iconst 1, 1) := by decide +kernel
theorem dX4_addStroke_20 : decode cX4_addStroke 20 = .ok (.aload_n 0, 1) := by decide +kernel
theorem dX4_addStroke_21 : decode cX4_addStroke 21 = .ok (.getfield 34, 3) := by decide +kernel
theorem dX4_addStroke_24 : decode cX4_addStroke 24 = .ok (.iconst 5, 1) := by decide +kernel
theorem dX4_addStroke_25 : decode cX4_addStroke 25 = .ok (.idiv, 1) := by decide +kernel
theorem dX4_addStroke_26 : decode cX4_addStroke 26 = .ok (.iadd, 1) := by decide +kernel
theorem dX4_addStroke_27 : decode cX4_addStroke 27 = .ok (.invokevirtual 119, 3) := by decide +kernel
theorem dX4_addStroke_30 : decode cX4_addStroke 30 = .ok (.ireturn, 1) := by decide +kernel
theorem dX4_addLaw_0 : decode cX4_addLaw 0 = .ok (.aload_n 0, 1) := by decide +kernel
theorem dX4_addLaw_1 : decode cX4_addLaw 1 = .ok (.getfield 61, 3) := by decide +kernel
theorem dX4_addLaw_4 : decode cX4_addLaw 4 = .ok (.iconst 5, 1) := by decide +kernel
theorem dX4_addLaw_5 : decode cX4_addLaw 5 = .ok (.invokestatic 87, 3) := by decide +kernel
theorem dX4_addLaw_8 : decode cX4_addLaw 8 = .ok (.istore_n 2, 1) := by decide +kernel
theorem dX4_addLaw_9 : decode cX4_addLaw 9 = .ok (.aload_n 0, 1) := by decide +kernel
theorem dX4_addLaw_10 : decode cX4_addLaw 10 = .ok (.getfield 25, 3) := by decide +kernel
theorem dX4_addLaw_13 : decode cX4_addLaw 13 = .ok (.iload_n 2, 1) := by decide +kernel
theorem dX4_addLaw_14 : decode cX4_addLaw 14 = .ok (.aload_n 1, 1) := by decide +kernel
theorem dX4_addLaw_15 : decode cX4_addLaw 15 = .ok (.aastore, 1) := by decide +kernel
theorem dX4_addLaw_16 : decode cX4_addLaw 16 = .ok (.aload_n 0, 1) := by decide +kernel
theorem dX4_addLaw_17 : decode cX4_addLaw 17 = .ok (.dup, 1) := by decide +kernel
theorem dX4_addLaw_18 : decode cX4_addLaw 18 = .ok (.getfield 64, 3) := by decide +kernel
theorem dX4_addLaw_21 : decode cX4_addLaw 21 = .ok (.iconst 1, 1) := by decide +kernel
theorem dX4_addLaw_22 : decode cX4_addLaw 22 = .ok (.iload_n 2, 1) := by decide +kernel
theorem dX4_addLaw_23 : decode cX4_addLaw 23 = .ok (.ishl, 1) := by decide +kernel
theorem dX4_addLaw_24 : decode cX4_addLaw 24 = .ok (.ior, 1) := by decide +kernel
theorem dX4_addLaw_25 : decode cX4_addLaw 25 = .ok (.putfield 64, 3) := by decide +kernel
theorem dX4_addLaw_28 : decode cX4_addLaw 28 = .ok (.aload_n 0, 1) := by decide +kernel
theorem dX4_addLaw_29 : decode cX4_addLaw 29 = .ok (.iload_n 2, 1) := by decide +kernel
theorem dX4_addLaw_30 : decode cX4_addLaw 30 = .ok (.iconst 1, 1) := by decide +kernel
theorem dX4_addLaw_31 : decode cX4_addLaw 31 = .ok (.iadd, 1) := by decide +kernel
theorem dX4_addLaw_32 : decode cX4_addLaw 32 = .ok (.putfield 61, 3) := by decide +kernel
theorem dX4_addLaw_35 : decode cX4_addLaw 35 = .ok (.iload_n 2, 1) := by decide +kernel
theorem dX4_addLaw_36 : decode cX4_addLaw 36 = .ok (.ireturn, 1) := by decide +kernel
theorem dX4_trailing_0 : decode cX4_trailing 0 = .ok (.iconst 0, 1) := by decide +kernel
theorem dX4_trailing_1 : decode cX4_trailing 1 = .ok (.iload_n 1, 1) := by decide +kernel
theorem dX4_trailing_2 : decode cX4_trailing 2 = .ok (.iconst 4, 1) := by decide +kernel
theorem dX4_trailing_3 : decode cX4_trailing 3 = .ok (.aload_n 0, 1) := by decide +kernel
theorem dX4_trailing_4 : decode cX4_trailing 4 = .ok (.getfield 34, 3) := by decide +kernel
theorem dX4_trailing_7 : decode cX4_trailing 7 = .ok (.imul, 1) := by decide +kernel
theorem dX4_trailing_8 : decode cX4_trailing 8 = .ok (.isub, 1) := by decide +kernel
theorem dX4_trailing_9 : decode cX4_trailing 9 = .ok (.invokestatic 123, 3) := by decide +kernel
theorem dX4_trailing_12 : decode cX4_trailing 12 = .ok (.ireturn, 1) := by decide +kernel
theorem dX4_given_0 : decode cX4_given 0 = .ok (.aload_n 0, 1) := by decide +kernel
theorem dX4_given_1 : decode cX4_given 1 = .ok (.getfield 42, 3) := by decide +kernel
theorem dX4_given_4 : decode cX4_given 4 = .ok (.iload_n 1, 1) := by decide +kernel
theorem dX4_given_5 : decode cX4_given 5 = .ok (.aaload, 1) := by decide +kernel
theorem dX4_given_6 : decode cX4_given 6 = .ok (.astore 5, 2) := by decide +kernel
theorem dX4_given_8 : decode cX4_given 8 = .ok (.aload 5, 2) := by decide +kernel
theorem dX4_given_10 : decode cX4_given 10 = .ok (.getfield 126, 3) := by decide +kernel
theorem dX4_given_13 : decode cX4_given 13 = .ok (.ifCond .le 17, 3) := by decide +kernel
theorem dX4_given_16 : decode cX4_given 16 = .ok (.aload 5, 2) := by decide +kernel
theorem dX4_given_18 : decode cX4_given 18 = .ok (.iload_n 2, 1) := by decide +kernel
theorem dX4_given_19 : decode cX4_given 19 = .ok (.iload_n 3, 1) := by decide +kernel
theorem dX4_given_20 : decode cX4_given 20 = .ok (.iload 4, 2) := by decide +kernel
theorem dX4_given_22 : decode cX4_given 22 = .ok (.invokevirtual 129, 3) := by decide +kernel
theorem dX4_given_25 : decode cX4_given 25 = .ok (.istore 6, 2) := by decide +kernel
theorem dX4_given_27 : decode cX4_given 27 = .ok (.goto 43, 3) := by decide +kernel
theorem dX4_given_30 : decode cX4_given 30 = .ok (.iload_n 1, 1) := by decide +kernel
theorem dX4_given_31 : decode cX4_given 31 = .ok (.ifCond .ne 28, 3) := by decide +kernel
theorem dX4_given_34 : decode cX4_given 34 = .ok (.iload_n 2, 1) := by decide +kernel
theorem dX4_given_35 : decode cX4_given 35 = .ok (.iload 4, 2) := by decide +kernel
theorem dX4_given_37 : decode cX4_given 37 = .ok (.iconst 4, 1) := by decide +kernel
theorem dX4_given_38 : decode cX4_given 38 = .ok (.imul, 1) := by decide +kernel
theorem dX4_given_39 : decode cX4_given 39 = .ok (.if_icmp .ge 11, 3) := by decide +kernel
theorem dX4_given_42 : decode cX4_given 42 = .ok (.iload_n 3, 1) := by decide +kernel
theorem dX4_given_43 : decode cX4_given 43 = .ok (.iload_n 2, 1) := by decide +kernel
theorem dX4_given_44 : decode cX4_given 44 = .ok (.imul, 1) := by decide +kernel
theorem dX4_given_45 : decode cX4_given 45 = .ok (.iconst 4, 1) := by decide +kernel
theorem dX4_given_46 : decode cX4_given 46 = .ok (.idiv, 1) := by decide +kernel
theorem dX4_given_47 : decode cX4_given 47 = .ok (.goto 7, 3) := by decide +kernel
theorem dX4_given_50 : decode cX4_given 50 = .ok (.iload_n 3, 1) := by decide +kernel
theorem dX4_given_51 : decode cX4_given 51 = .ok (.iload 4, 2) := by decide +kernel
theorem dX4_given_53 : decode cX4_given 53 = .ok (.imul, 1) := by decide +kernel
theorem dX4_given_54 : decode cX4_given 54 = .ok (.istore 6, 2) := by decide +kernel
theorem dX4_given_56 : decode cX4_given 56 = .ok (.goto 14, 3) := by decide +kernel
theorem dX4_given_59 : decode cX4_given 59 = .ok (.iload_n 2, 1) := by decide +kernel
theorem dX4_given_60 : decode cX4_given 60 = .ok (.bipush 50, 2) := by decide +kernel
theorem dX4_given_62 : decode cX4_given 62 = .ok (.idiv, 1) := by decide +kernel
theorem dX4_given_63 : decode cX4_given 63 = .ok (.iload_n 3, 1) := by decide +kernel
theorem dX4_given_64 : decode cX4_given 64 = .ok (.bipush 100, 2) := by decide +kernel
theorem dX4_given_66 : decode cX4_given 66 = .ok (.idiv, 1) := by decide +kernel
theorem dX4_given_67 : decode cX4_given 67 = .ok (.iadd, 1) := by decide +kernel
theorem dX4_given_68 : decode cX4_given 68 = .ok (.istore 6, 2) := by decide +kernel
theorem dX4_given_70 : decode cX4_given 70 = .ok (.iload 6, 2) := by decide +kernel
theorem dX4_given_72 : decode cX4_given 72 = .ok (.iconst 0, 1) := by decide +kernel
theorem dX4_given_73 : decode cX4_given 73 = .ok (.sipush 999, 3) := by decide +kernel
theorem dX4_given_76 : decode cX4_given 76 = .ok (.invokestatic 133, 3) := by decide +kernel
theorem dX4_given_79 : decode cX4_given 79 = .ok (.ireturn, 1) := by decide +kernel
theorem dX4_foremost_0 : decode cX4_foremost 0 = .ok (.iconst (-1), 1) := by decide +kernel
theorem dX4_foremost_1 : decode cX4_foremost 1 = .ok (.istore_n 1, 1) := by decide +kernel
theorem dX4_foremost_2 : decode cX4_foremost 2 = .ok (.iconst 0, 1) := by decide +kernel
theorem dX4_foremost_3 : decode cX4_foremost 3 = .ok (.istore_n 2, 1) := by decide +kernel
theorem dX4_foremost_4 : decode cX4_foremost 4 = .ok (.iload_n 2, 1) := by decide +kernel
theorem dX4_foremost_5 : decode cX4_foremost 5 = .ok (.aload_n 0, 1) := by decide +kernel
theorem dX4_foremost_6 : decode cX4_foremost 6 = .ok (.getfield 77, 3) := by decide +kernel
theorem dX4_foremost_9 : decode cX4_foremost 9 = .ok (.if_icmp .ge 48, 3) := by decide +kernel
theorem dX4_foremost_12 : decode cX4_foremost 12 = .ok (.aload_n 0, 1) := by decide +kernel
theorem dX4_foremost_13 : decode cX4_foremost 13 = .ok (.getfield 11, 3) := by decide +kernel
theorem dX4_foremost_16 : decode cX4_foremost 16 = .ok (.iload_n 2, 1) := by decide +kernel
theorem dX4_foremost_17 : decode cX4_foremost 17 = .ok (.aaload, 1) := by decide +kernel
theorem dX4_foremost_18 : decode cX4_foremost 18 = .ok (.getfield 111, 3) := by decide +kernel
theorem dX4_foremost_21 : decode cX4_foremost 21 = .ok (.ifCond .eq 30, 3) := by decide +kernel
theorem dX4_foremost_24 : decode cX4_foremost 24 = .ok (.iload_n 1, 1) := by decide +kernel
theorem dX4_foremost_25 : decode cX4_foremost 25 = .ok (.ifCond .lt 24, 3) := by decide +kernel
theorem dX4_foremost_28 : decode cX4_foremost 28 = .ok (.aload_n 0, 1) := by decide +kernel
theorem dX4_foremost_29 : decode cX4_foremost 29 = .ok (.getfield 11, 3) := by decide +kernel
theorem dX4_foremost_32 : decode cX4_foremost 32 = .ok (.iload_n 2, 1) := by decide +kernel
theorem dX4_foremost_33 : decode cX4_foremost 33 = .ok (.aaload, 1) := by decide +kernel
theorem dX4_foremost_34 : decode cX4_foremost 34 = .ok (.getfield 93, 3) := by decide +kernel
theorem dX4_foremost_37 : decode cX4_foremost 37 = .ok (.aload_n 0, 1) := by decide +kernel
theorem dX4_foremost_38 : decode cX4_foremost 38 = .ok (.getfield 11, 3) := by decide +kernel
theorem dX4_foremost_41 : decode cX4_foremost 41 = .ok (.iload_n 1, 1) := by decide +kernel
theorem dX4_foremost_42 : decode cX4_foremost 42 = .ok (.aaload, 1) := by decide +kernel
theorem dX4_foremost_43 : decode cX4_foremost 43 = .ok (.getfield 93, 3) := by decide +kernel
theorem dX4_foremost_46 : decode cX4_foremost 46 = .ok (.if_icmp .le 5, 3) := by decide +kernel
theorem dX4_foremost_49 : decode cX4_foremost 49 = .ok (.iload_n 2, 1) := by decide +kernel
theorem dX4_foremost_50 : decode cX4_foremost 50 = .ok (.istore_n 1, 1) := by decide +kernel
theorem dX4_foremost_51 : decode cX4_foremost 51 = .ok (.iinc 2 1, 3) := by decide +kernel
theorem dX4_foremost_54 : decode cX4_foremost 54 = .ok (.goto (-50), 3) := by decide +kernel
theorem dX4_foremost_57 : decode cX4_foremost 57 = .ok (.iload_n 1, 1) := by decide +kernel
theorem dX4_foremost_58 : decode cX4_foremost 58 = .ok (.ireturn, 1) := by decide +kernel
theorem dX4_wholeCount_0 : decode cX4_wholeCount 0 = .ok (.iconst 0, 1) := by decide +kernel
theorem dX4_wholeCount_1 : decode cX4_wholeCount 1 = .ok (.istore_n 1, 1) := by decide +kernel
theorem dX4_wholeCount_2 : decode cX4_wholeCount 2 = .ok (.iconst 0, 1) := by decide +kernel
theorem dX4_wholeCount_3 : decode cX4_wholeCount 3 = .ok (.istore_n 2, 1) := by decide +kernel
theorem dX4_wholeCount_4 : decode cX4_wholeCount 4 = .ok (.iload_n 2, 1) := by decide +kernel
theorem dX4_wholeCount_5 : decode cX4_wholeCount 5 = .ok (.aload_n 0, 1) := by decide +kernel
theorem dX4_wholeCount_6 : decode cX4_wholeCount 6 = .ok (.getfield 77, 3) := by decide +kernel
theorem dX4_wholeCount_9 : decode cX4_wholeCount 9 = .ok (.if_icmp .ge 24, 3) := by decide +kernel
theorem dX4_wholeCount_12 : decode cX4_wholeCount 12 = .ok (.iload_n 1, 1) := by decide +kernel
theorem dX4_wholeCount_13 : decode cX4_wholeCount 13 = .ok (.aload_n 0, 1) := by decide +kernel
theorem dX4_wholeCount_14 : decode cX4_wholeCount 14 = .ok (.getfield 11, 3) := by decide +kernel
theorem dX4_wholeCount_17 : decode cX4_wholeCount 17 = .ok (.iload_n 2, 1) := by decide +kernel
theorem dX4_wholeCount_18 : decode cX4_wholeCount 18 = .ok (.aaload, 1) := by decide +kernel
theorem dX4_wholeCount_19 : decode cX4_wholeCount 19 = .ok (.getfield 111, 3) := by decide +kernel
theorem dX4_wholeCount_22 : decode cX4_wholeCount 22 = .ok (.invokestatic 136, 3) := by decide +kernel
theorem dX4_wholeCount_25 : decode cX4_wholeCount 25 = .ok (.iadd, 1) := by decide +kernel
theorem dX4_wholeCount_26 : decode cX4_wholeCount 26 = .ok (.istore_n 1, 1) := by decide +kernel
theorem dX4_wholeCount_27 : decode cX4_wholeCount 27 = .ok (.iinc 2 1, 3) := by decide +kernel
theorem dX4_wholeCount_30 : decode cX4_wholeCount 30 = .ok (.goto (-26), 3) := by decide +kernel
theorem dX4_wholeCount_33 : decode cX4_wholeCount 33 = .ok (.iload_n 1, 1) := by decide +kernel
theorem dX4_wholeCount_34 : decode cX4_wholeCount 34 = .ok (.ireturn, 1) := by decide +kernel
theorem dX4_changesOfFront_0 : decode cX4_changesOfFront 0 = .ok (.iconst 0, 1) := by decide +kernel
theorem dX4_changesOfFront_1 : decode cX4_changesOfFront 1 = .ok (.istore_n 3, 1) := by decide +kernel
theorem dX4_changesOfFront_2 : decode cX4_changesOfFront 2 = .ok (.aload_n 0, 1) := by decide +kernel
theorem dX4_changesOfFront_3 : decode cX4_changesOfFront 3 = .ok (.invokevirtual 140, 3) := by decide +kernel
theorem dX4_changesOfFront_6 : decode cX4_changesOfFront 6 = .ok (.istore 4, 2) := by decide +kernel
theorem dX4_changesOfFront_8 : decode cX4_changesOfFront 8 = .ok (.iconst 0, 1) := by decide +kernel
theorem dX4_changesOfFront_9 : decode cX4_changesOfFront 9 = .ok (.istore 5, 2) := by decide +kernel
theorem dX4_changesOfFront_11 : decode cX4_changesOfFront 11 = .ok (.iload 5, 2) := by decide +kernel
theorem dX4_changesOfFront_13 : decode cX4_changesOfFront 13 = .ok (.iload_n 1, 1) := by decide +kernel
theorem dX4_changesOfFront_14 : decode cX4_changesOfFront 14 = .ok (.if_icmp .ge 48, 3) := by decide +kernel
theorem dX4_changesOfFront_17 : decode cX4_changesOfFront 17 = .ok (.iload_n 3, 1) := by decide +kernel
theorem dX4_changesOfFront_18 : decode cX4_changesOfFront 18 = .ok (.iload_n 2, 1) := by decide +kernel
theorem dX4_changesOfFront_19 : decode cX4_changesOfFront 19 = .ok (.if_icmp .ge 43, 3) := by decide +kernel
theorem dX4_changesOfFront_22 : decode cX4_changesOfFront 22 = .ok (.aload_n 0, 1) := by decide +kernel
theorem dX4_changesOfFront_23 : decode cX4_changesOfFront 23 = .ok (.invokevirtual 144, 3) := by decide +kernel
theorem dX4_changesOfFront_26 : decode cX4_changesOfFront 26 = .ok (.aload_n 0, 1) := by decide +kernel
theorem dX4_changesOfFront_27 : decode cX4_changesOfFront 27 = .ok (.invokevirtual 140, 3) := by decide +kernel
theorem dX4_changesOfFront_30 : decode cX4_changesOfFront 30 = .ok (.istore 6, 2) := by decide +kernel
theorem dX4_changesOfFront_32 : decode cX4_changesOfFront 32 = .ok (.iload 4, 2) := by decide +kernel
theorem dX4_changesOfFront_34 : decode cX4_changesOfFront 34 = .ok (.ifCond .lt 18, 3) := by decide +kernel
theorem dX4_changesOfFront_37 : decode cX4_changesOfFront 37 = .ok (.iload 6, 2) := by decide +kernel
theorem dX4_changesOfFront_39 : decode cX4_changesOfFront 39 = .ok (.ifCond .lt 13, 3) := by decide +kernel
theorem dX4_changesOfFront_42 : decode cX4_changesOfFront 42 = .ok (.iload 4, 2) := by decide +kernel
theorem dX4_changesOfFront_44 : decode cX4_changesOfFront 44 = .ok (.iload 6, 2) := by decide +kernel
theorem dX4_changesOfFront_46 : decode cX4_changesOfFront 46 = .ok (.if_icmp .eq 6, 3) := by decide +kernel
theorem dX4_changesOfFront_49 : decode cX4_changesOfFront 49 = .ok (.iinc 3 1, 3) := by decide +kernel
theorem dX4_changesOfFront_52 : decode cX4_changesOfFront 52 = .ok (.iload 6, 2) := by decide +kernel
theorem dX4_changesOfFront_54 : decode cX4_changesOfFront 54 = .ok (.istore 4, 2) := by decide +kernel
theorem dX4_changesOfFront_56 : decode cX4_changesOfFront 56 = .ok (.iinc 5 1, 3) := by decide +kernel
theorem dX4_changesOfFront_59 : decode cX4_changesOfFront 59 = .ok (.goto (-48), 3) := by decide +kernel
theorem dX4_changesOfFront_62 : decode cX4_changesOfFront 62 = .ok (.iload_n 3, 1) := by decide +kernel
theorem dX4_changesOfFront_63 : decode cX4_changesOfFront 63 = .ok (.ireturn, 1) := by decide +kernel
theorem dX4_greatestX_0 : decode cX4_greatestX 0 = .ok (.aload_n 0, 1) := by decide +kernel
theorem dX4_greatestX_1 : decode cX4_greatestX 1 = .ok (.getfield 11, 3) := by decide +kernel
theorem dX4_greatestX_4 : decode cX4_greatestX 4 = .ok (.iload_n 2, 1) := by decide +kernel
theorem dX4_greatestX_5 : decode cX4_greatestX 5 = .ok (.aaload, 1) := by decide +kernel
theorem dX4_greatestX_6 : decode cX4_greatestX 6 = .ok (.astore_n 3, 1) := by decide +kernel
theorem dX4_greatestX_7 : decode cX4_greatestX 7 = .ok (.aload_n 3, 1) := by decide +kernel
theorem dX4_greatestX_8 : decode cX4_greatestX 8 = .ok (.getfield 93, 3) := by decide +kernel
theorem dX4_greatestX_11 : decode cX4_greatestX 11 = .ok (.istore 4, 2) := by decide +kernel
theorem dX4_greatestX_13 : decode cX4_greatestX 13 = .ok (.iconst 0, 1) := by decide +kernel
theorem dX4_greatestX_14 : decode cX4_greatestX 14 = .ok (.istore 5, 2) := by decide +kernel
theorem dX4_greatestX_16 : decode cX4_greatestX 16 = .ok (.iload 5, 2) := by decide +kernel
theorem dX4_greatestX_18 : decode cX4_greatestX 18 = .ok (.iload_n 1, 1) := by decide +kernel
theorem dX4_greatestX_19 : decode cX4_greatestX 19 = .ok (.if_icmp .ge 38, 3) := by decide +kernel
theorem dX4_greatestX_22 : decode cX4_greatestX 22 = .ok (.aload_n 3, 1) := by decide +kernel
theorem dX4_greatestX_23 : decode cX4_greatestX 23 = .ok (.getfield 111, 3) := by decide +kernel
theorem dX4_greatestX_26 : decode cX4_greatestX 26 = .ok (.ifCond .eq 31, 3) := by decide +kernel
theorem dX4_greatestX_29 : decode cX4_greatestX 29 = .ok (.aload_n 0, 1) := by decide +kernel
theorem dX4_greatestX_30 : decode cX4_greatestX 30 = .ok (.invokevirtual 144, 3) := by decide +kernel
theorem dX4_greatestX_33 : decode cX4_greatestX 33 = .ok (.aload_n 3, 1) := by decide +kernel
theorem dX4_greatestX_34 : decode cX4_greatestX 34 = .ok (.getfield 111, 3) := by decide +kernel
theorem dX4_greatestX_37 : decode cX4_greatestX 37 = .ok (.ifCond .eq 14, 3) := by decide +kernel
theorem dX4_greatestX_40 : decode cX4_greatestX 40 = .ok (.iload 4, 2) := by decide +kernel
theorem dX4_greatestX_42 : decode cX4_greatestX 42 = .ok (.aload_n 3, 1) := by decide +kernel
theorem dX4_greatestX_43 : decode cX4_greatestX 43 = .ok (.getfield 93, 3) := by decide +kernel
theorem dX4_greatestX_46 : decode cX4_greatestX 46 = .ok (.invokestatic 123, 3) := by decide +kernel
theorem dX4_greatestX_49 : decode cX4_greatestX 49 = .ok (.istore 4, 2) := by decide +kernel
theorem dX4_greatestX_51 : decode cX4_greatestX 51 = .ok (.iinc 5 1, 3) := by decide +kernel
theorem dX4_greatestX_54 : decode cX4_greatestX 54 = .ok (.goto (-38), 3) := by decide +kernel
theorem dX4_greatestX_57 : decode cX4_greatestX 57 = .ok (.iload 4, 2) := by decide +kernel
theorem dX4_greatestX_59 : decode cX4_greatestX 59 = .ok (.ireturn, 1) := by decide +kernel
theorem dX4_tick_0 : decode cX4_tick 0 = .ok (.iconst 0, 1) := by decide +kernel
theorem dX4_tick_1 : decode cX4_tick 1 = .ok (.istore_n 1, 1) := by decide +kernel
theorem dX4_tick_2 : decode cX4_tick 2 = .ok (.iload_n 1, 1) := by decide +kernel
theorem dX4_tick_3 : decode cX4_tick 3 = .ok (.aload_n 0, 1) := by decide +kernel
theorem dX4_tick_4 : decode cX4_tick 4 = .ok (.getfield 77, 3) := by decide +kernel
theorem dX4_tick_7 : decode cX4_tick 7 = .ok (.if_icmp .ge 24, 3) := by decide +kernel
theorem dX4_tick_10 : decode cX4_tick 10 = .ok (.aload_n 0, 1) := by decide +kernel
theorem dX4_tick_11 : decode cX4_tick 11 = .ok (.getfield 17, 3) := by decide +kernel
theorem dX4_tick_14 : decode cX4_tick 14 = .ok (.iload_n 1, 1) := by decide +kernel
theorem dX4_tick_15 : decode cX4_tick 15 = .ok (.aaload, 1) := by decide +kernel
theorem dX4_tick_16 : decode cX4_tick 16 = .ok (.aload_n 0, 1) := by decide +kernel
theorem dX4_tick_17 : decode cX4_tick 17 = .ok (.getfield 11, 3) := by decide +kernel
theorem dX4_tick_20 : decode cX4_tick 20 = .ok (.iload_n 1, 1) := by decide +kernel
theorem dX4_tick_21 : decode cX4_tick 21 = .ok (.aaload, 1) := by decide +kernel
theorem dX4_tick_22 : decode cX4_tick 22 = .ok (.invokevirtual 80, 3) := by decide +kernel
theorem dX4_tick_25 : decode cX4_tick 25 = .ok (.iinc 1 1, 3) := by decide +kernel
theorem dX4_tick_28 : decode cX4_tick 28 = .ok (.goto (-26), 3) := by decide +kernel
theorem dX4_tick_31 : decode cX4_tick 31 = .ok (.iconst 0, 1) := by decide +kernel
theorem dX4_tick_32 : decode cX4_tick 32 = .ok (.istore_n 1, 1) := by decide +kernel
theorem dX4_tick_33 : decode cX4_tick 33 = .ok (.iload_n 1, 1) := by decide +kernel
theorem dX4_tick_34 : decode cX4_tick 34 = .ok (.aload_n 0, 1) := by decide +kernel
theorem dX4_tick_35 : decode cX4_tick 35 = .ok (.getfield 77, 3) := by decide +kernel
theorem dX4_tick_38 : decode cX4_tick 38 = .ok (.if_icmp .ge 53, 3) := by decide +kernel
theorem dX4_tick_41 : decode cX4_tick 41 = .ok (.aload_n 0, 1) := by decide +kernel
theorem dX4_tick_42 : decode cX4_tick 42 = .ok (.getfield 17, 3) := by decide +kernel
theorem dX4_tick_45 : decode cX4_tick 45 = .ok (.iload_n 1, 1) := by decide +kernel
theorem dX4_tick_46 : decode cX4_tick 46 = .ok (.aaload, 1) := by decide +kernel
theorem dX4_tick_47 : decode cX4_tick 47 = .ok (.getfield 111, 3) := by decide +kernel
theorem dX4_tick_50 : decode cX4_tick 50 = .ok (.ifCond .eq 35, 3) := by decide +kernel
theorem dX4_tick_53 : decode cX4_tick 53 = .ok (.aload_n 0, 1) := by decide +kernel
theorem dX4_tick_54 : decode cX4_tick 54 = .ok (.aload_n 0, 1) := by decide +kernel
theorem dX4_tick_55 : decode cX4_tick 55 = .ok (.getfield 11, 3) := by decide +kernel
theorem dX4_tick_58 : decode cX4_tick 58 = .ok (.iload_n 1, 1) := by decide +kernel
theorem dX4_tick_59 : decode cX4_tick 59 = .ok (.aaload, 1) := by decide +kernel
theorem dX4_tick_60 : decode cX4_tick 60 = .ok (.aload_n 0, 1) := by decide +kernel
theorem dX4_tick_61 : decode cX4_tick 61 = .ok (.getfield 17, 3) := by decide +kernel
theorem dX4_tick_64 : decode cX4_tick 64 = .ok (.iload_n 1, 1) := by decide +kernel
theorem dX4_tick_65 : decode cX4_tick 65 = .ok (.aaload, 1) := by decide +kernel
theorem dX4_tick_66 : decode cX4_tick 66 = .ok (.invokevirtual 147, 3) := by decide +kernel
theorem dX4_tick_69 : decode cX4_tick 69 = .ok (.aload_n 0, 1) := by decide +kernel
theorem dX4_tick_70 : decode cX4_tick 70 = .ok (.aload_n 0, 1) := by decide +kernel
theorem dX4_tick_71 : decode cX4_tick 71 = .ok (.getfield 11, 3) := by decide +kernel
theorem dX4_tick_74 : decode cX4_tick 74 = .ok (.iload_n 1, 1) := by decide +kernel
theorem dX4_tick_75 : decode cX4_tick 75 = .ok (.aaload, 1) := by decide +kernel
theorem dX4_tick_76 : decode cX4_tick 76 = .ok (.aload_n 0, 1) := by decide +kernel
theorem dX4_tick_77 : decode cX4_tick 77 = .ok (.getfield 17, 3) := by decide +kernel
theorem dX4_tick_80 : decode cX4_tick 80 = .ok (.iload_n 1, 1) := by decide +kernel
theorem dX4_tick_81 : decode cX4_tick 81 = .ok (.aaload, 1) := by decide +kernel
theorem dX4_tick_82 : decode cX4_tick 82 = .ok (.invokevirtual 151, 3) := by decide +kernel
theorem dX4_tick_85 : decode cX4_tick 85 = .ok (.iinc 1 1, 3) := by decide +kernel
theorem dX4_tick_88 : decode cX4_tick 88 = .ok (.goto (-55), 3) := by decide +kernel
theorem dX4_tick_91 : decode cX4_tick 91 = .ok (.iconst 0, 1) := by decide +kernel
theorem dX4_tick_92 : decode cX4_tick 92 = .ok (.istore_n 1, 1) := by decide +kernel
theorem dX4_tick_93 : decode cX4_tick 93 = .ok (.iload_n 1, 1) := by decide +kernel
theorem dX4_tick_94 : decode cX4_tick 94 = .ok (.aload_n 0, 1) := by decide +kernel
theorem dX4_tick_95 : decode cX4_tick 95 = .ok (.getfield 77, 3) := by decide +kernel
theorem dX4_tick_98 : decode cX4_tick 98 = .ok (.if_icmp .ge 26, 3) := by decide +kernel
theorem dX4_tick_101 : decode cX4_tick 101 = .ok (.aload_n 0, 1) := by decide +kernel
theorem dX4_tick_102 : decode cX4_tick 102 = .ok (.getfield 17, 3) := by decide +kernel
theorem dX4_tick_105 : decode cX4_tick 105 = .ok (.iload_n 1, 1) := by decide +kernel
theorem dX4_tick_106 : decode cX4_tick 106 = .ok (.aaload, 1) := by decide +kernel
theorem dX4_tick_107 : decode cX4_tick 107 = .ok (.getfield 111, 3) := by decide +kernel
theorem dX4_tick_110 : decode cX4_tick 110 = .ok (.ifCond .eq 8, 3) := by decide +kernel
theorem dX4_tick_113 : decode cX4_tick 113 = .ok (.aload_n 0, 1) := by decide +kernel
theorem dX4_tick_114 : decode cX4_tick 114 = .ok (.iload_n 1, 1) := by decide +kernel
theorem dX4_tick_115 : decode cX4_tick 115 = .ok (.invokevirtual 154, 3) := by decide +kernel
theorem dX4_tick_118 : decode cX4_tick 118 = .ok (.iinc 1 1, 3) := by decide +kernel
theorem dX4_tick_121 : decode cX4_tick 121 = .ok (.goto (-28), 3) := by decide +kernel
theorem dX4_tick_124 : decode cX4_tick 124 = .ok (.iconst 0, 1) := by decide +kernel
theorem dX4_tick_125 : decode cX4_tick 125 = .ok (.istore_n 1, 1) := by decide +kernel
theorem dX4_tick_126 : decode cX4_tick 126 = .ok (.iload_n 1, 1) := by decide +kernel
theorem dX4_tick_127 : decode cX4_tick 127 = .ok (.aload_n 0, 1) := by decide +kernel
theorem dX4_tick_128 : decode cX4_tick 128 = .ok (.getfield 77, 3) := by decide +kernel
theorem dX4_tick_131 : decode cX4_tick 131 = .ok (.if_icmp .ge 31, 3) := by decide +kernel
theorem dX4_tick_134 : decode cX4_tick 134 = .ok (.aload_n 0, 1) := by decide +kernel
theorem dX4_tick_135 : decode cX4_tick 135 = .ok (.getfield 11, 3) := by decide +kernel
theorem dX4_tick_138 : decode cX4_tick 138 = .ok (.iload_n 1, 1) := by decide +kernel
theorem dX4_tick_139 : decode cX4_tick 139 = .ok (.aaload, 1) := by decide +kernel
theorem dX4_tick_140 : decode cX4_tick 140 = .ok (.getfield 111, 3) := by decide +kernel
theorem dX4_tick_143 : decode cX4_tick 143 = .ok (.ifCond .eq 13, 3) := by decide +kernel
theorem dX4_tick_146 : decode cX4_tick 146 = .ok (.aload_n 0, 1) := by decide +kernel
theorem dX4_tick_147 : decode cX4_tick 147 = .ok (.aload_n 0, 1) := by decide +kernel
theorem dX4_tick_148 : decode cX4_tick 148 = .ok (.getfield 11, 3) := by decide +kernel
theorem dX4_tick_151 : decode cX4_tick 151 = .ok (.iload_n 1, 1) := by decide +kernel
theorem dX4_tick_152 : decode cX4_tick 152 = .ok (.aaload, 1) := by decide +kernel
theorem dX4_tick_153 : decode cX4_tick 153 = .ok (.invokevirtual 157, 3) := by decide +kernel
theorem dX4_tick_156 : decode cX4_tick 156 = .ok (.iinc 1 1, 3) := by decide +kernel
theorem dX4_tick_159 : decode cX4_tick 159 = .ok (.goto (-33), 3) := by decide +kernel
theorem dX4_tick_162 : decode cX4_tick 162 = .ok (.aload_n 0, 1) := by decide +kernel
theorem dX4_tick_163 : decode cX4_tick 163 = .ok (.dup, 1) := by decide +kernel
theorem dX4_tick_164 : decode cX4_tick 164 = .ok (.getfield 67, 3) := by decide +kernel
theorem dX4_tick_167 : decode cX4_tick 167 = .ok (.iconst 1, 1) := by decide +kernel
theorem dX4_tick_168 : decode cX4_tick 168 = .ok (.iadd, 1) := by decide +kernel
theorem dX4_tick_169 : decode cX4_tick 169 = .ok (.putfield 67, 3) := by decide +kernel
theorem dX4_tick_172 : decode cX4_tick 172 = .ok (.return_, 1) := by decide +kernel
theorem dX4_blow_0 : decode cX4_blow 0 = .ok (.iconst 0, 1) := by decide +kernel
theorem dX4_blow_1 : decode cX4_blow 1 = .ok (.istore_n 1, 1) := by decide +kernel
theorem dX4_blow_2 : decode cX4_blow 2 = .ok (.iload_n 1, 1) := by decide +kernel
theorem dX4_blow_3 : decode cX4_blow 3 = .ok (.aload_n 0, 1) := by decide +kernel
theorem dX4_blow_4 : decode cX4_blow 4 = .ok (.getfield 77, 3) := by decide +kernel
theorem dX4_blow_7 : decode cX4_blow 7 = .ok (.if_icmp .ge 68, 3) := by decide +kernel
theorem dX4_blow_10 : decode cX4_blow 10 = .ok (.aload_n 0, 1) := by decide +kernel
theorem dX4_blow_11 : decode cX4_blow 11 = .ok (.getfield 11, 3) := by decide +kernel
theorem dX4_blow_14 : decode cX4_blow 14 = .ok (.iload_n 1, 1) := by decide +kernel
theorem dX4_blow_15 : decode cX4_blow 15 = .ok (.aaload, 1) := by decide +kernel
theorem dX4_blow_16 : decode cX4_blow 16 = .ok (.astore_n 2, 1) := by decide +kernel
theorem dX4_blow_17 : decode cX4_blow 17 = .ok (.aload_n 2, 1) := by decide +kernel
theorem dX4_blow_18 : decode cX4_blow 18 = .ok (.getfield 111, 3) := by decide +kernel
theorem dX4_blow_21 : decode cX4_blow 21 = .ok (.ifCond .eq 48, 3) := by decide +kernel
theorem dX4_blow_24 : decode cX4_blow 24 = .ok (.aload_n 0, 1) := by decide +kernel
theorem dX4_blow_25 : decode cX4_blow 25 = .ok (.aload_n 0, 1) := by decide +kernel
theorem dX4_blow_26 : decode cX4_blow 26 = .ok (.getfield 37, 3) := by decide +kernel
theorem dX4_blow_29 : decode cX4_blow 29 = .ok (.ldc 160, 2) := by decide +kernel
theorem dX4_blow_31 : decode cX4_blow 31 = .ok (.imul, 1) := by decide +kernel
theorem dX4_blow_32 : decode cX4_blow 32 = .ok (.sipush 12345, 3) := by decide +kernel
theorem dX4_blow_35 : decode cX4_blow 35 = .ok (.iadd, 1) := by decide +kernel
theorem dX4_blow_36 : decode cX4_blow 36 = .ok (.putfield 37, 3) := by decide +kernel
theorem dX4_blow_39 : decode cX4_blow 39 = .ok (.aload_n 2, 1) := by decide +kernel
theorem dX4_blow_40 : decode cX4_blow 40 = .ok (.aload_n 2, 1) := by decide +kernel
theorem dX4_blow_41 : decode cX4_blow 41 = .ok (.getfield 96, 3) := by decide +kernel
theorem dX4_blow_44 : decode cX4_blow 44 = .ok (.aload_n 0, 1) := by decide +kernel
theorem dX4_blow_45 : decode cX4_blow 45 = .ok (.getfield 37, 3) := by decide +kernel
theorem dX4_blow_48 : decode cX4_blow 48 = .ok (.bipush 8, 2) := by decide +kernel
theorem dX4_blow_50 : decode cX4_blow 50 = .ok (.iushr, 1) := by decide +kernel
theorem dX4_blow_51 : decode cX4_blow 51 = .ok (.bipush 7, 2) := by decide +kernel
theorem dX4_blow_53 : decode cX4_blow 53 = .ok (.irem, 1) := by decide +kernel
theorem dX4_blow_54 : decode cX4_blow 54 = .ok (.iadd, 1) := by decide +kernel
theorem dX4_blow_55 : decode cX4_blow 55 = .ok (.iconst 3, 1) := by decide +kernel
theorem dX4_blow_56 : decode cX4_blow 56 = .ok (.isub, 1) := by decide +kernel
theorem dX4_blow_57 : decode cX4_blow 57 = .ok (.sipush (-999), 3) := by decide +kernel
theorem dX4_blow_60 : decode cX4_blow 60 = .ok (.sipush 999, 3) := by decide +kernel
theorem dX4_blow_63 : decode cX4_blow 63 = .ok (.invokestatic 133, 3) := by decide +kernel
theorem dX4_blow_66 : decode cX4_blow 66 = .ok (.putfield 96, 3) := by decide +kernel
theorem dX4_blow_69 : decode cX4_blow 69 = .ok (.iinc 1 1, 3) := by decide +kernel
theorem dX4_blow_72 : decode cX4_blow 72 = .ok (.goto (-70), 3) := by decide +kernel
theorem dX4_blow_75 : decode cX4_blow 75 = .ok (.return_, 1) := by decide +kernel
theorem dX4_advance_0 : decode cX4_advance 0 = .ok (.iconst 0, 1) := by decide +kernel
theorem dX4_advance_1 : decode cX4_advance 1 = .ok (.istore_n 3, 1) := by decide +kernel
theorem dX4_advance_2 : decode cX4_advance 2 = .ok (.iconst 0, 1) := by decide +kernel
theorem dX4_advance_3 : decode cX4_advance 3 = .ok (.istore 4, 2) := by decide +kernel
theorem dX4_advance_5 : decode cX4_advance 5 = .ok (.iload 4, 2) := by decide +kernel
theorem dX4_advance_7 : decode cX4_advance 7 = .ok (.aload_n 0, 1) := by decide +kernel
theorem dX4_advance_8 : decode cX4_advance 8 = .ok (.getfield 61, 3) := by decide +kernel
theorem dX4_advance_11 : decode cX4_advance 11 = .ok (.if_icmp .ge 35, 3) := by decide +kernel
theorem dX4_advance_14 : decode cX4_advance 14 = .ok (.aload_n 0, 1) := by decide +kernel
theorem dX4_advance_15 : decode cX4_advance 15 = .ok (.iload 4, 2) := by decide +kernel
theorem dX4_advance_17 : decode cX4_advance 17 = .ok (.invokevirtual 161, 3) := by decide +kernel
theorem dX4_advance_20 : decode cX4_advance 20 = .ok (.astore 5, 2) := by decide +kernel
theorem dX4_advance_22 : decode cX4_advance 22 = .ok (.aload 5, 2) := by decide +kernel
theorem dX4_advance_24 : decode cX4_advance 24 = .ok (.ifnull 16, 3) := by decide +kernel
theorem dX4_advance_27 : decode cX4_advance 27 = .ok (.iload_n 3, 1) := by decide +kernel
theorem dX4_advance_28 : decode cX4_advance 28 = .ok (.aload 5, 2) := by decide +kernel
theorem dX4_advance_30 : decode cX4_advance 30 = .ok (.aload_n 2, 1) := by decide +kernel
theorem dX4_advance_31 : decode cX4_advance 31 = .ok (.aload_n 0, 1) := by decide +kernel
theorem dX4_advance_32 : decode cX4_advance 32 = .ok (.getfield 30, 3) := by decide +kernel
theorem dX4_advance_35 : decode cX4_advance 35 = .ok (.invokevirtual 165, 3) := by decide +kernel
theorem dX4_advance_38 : decode cX4_advance 38 = .ok (.iadd, 1) := by decide +kernel
theorem dX4_advance_39 : decode cX4_advance 39 = .ok (.istore_n 3, 1) := by decide +kernel
theorem dX4_advance_40 : decode cX4_advance 40 = .ok (.iinc 4 1, 3) := by decide +kernel
theorem dX4_advance_43 : decode cX4_advance 43 = .ok (.goto (-38), 3) := by decide +kernel
theorem dX4_advance_46 : decode cX4_advance 46 = .ok (.aload_n 0, 1) := by decide +kernel
theorem dX4_advance_47 : decode cX4_advance 47 = .ok (.iconst 1, 1) := by decide +kernel
theorem dX4_advance_48 : decode cX4_advance 48 = .ok (.aload_n 2, 1) := by decide +kernel
theorem dX4_advance_49 : decode cX4_advance 49 = .ok (.getfield 102, 3) := by decide +kernel
theorem dX4_advance_52 : decode cX4_advance 52 = .ok (.aload_n 2, 1) := by decide +kernel
theorem dX4_advance_53 : decode cX4_advance 53 = .ok (.getfield 105, 3) := by decide +kernel
theorem dX4_advance_56 : decode cX4_advance 56 = .ok (.aload_n 2, 1) := by decide +kernel
theorem dX4_advance_57 : decode cX4_advance 57 = .ok (.getfield 108, 3) := by decide +kernel
theorem dX4_advance_60 : decode cX4_advance 60 = .ok (.invokevirtual 115, 3) := by decide +kernel
theorem dX4_advance_63 : decode cX4_advance 63 = .ok (.istore 4, 2) := by decide +kernel
theorem dX4_advance_65 : decode cX4_advance 65 = .ok (.aload_n 1, 1) := by decide +kernel
theorem dX4_advance_66 : decode cX4_advance 66 = .ok (.aload_n 2, 1) := by decide +kernel
theorem dX4_advance_67 : decode cX4_advance 67 = .ok (.getfield 93, 3) := by decide +kernel
theorem dX4_advance_70 : decode cX4_advance 70 = .ok (.aload_n 2, 1) := by decide +kernel
theorem dX4_advance_71 : decode cX4_advance 71 = .ok (.invokevirtual 169, 3) := by decide +kernel
theorem dX4_advance_74 : decode cX4_advance 74 = .ok (.aload_n 2, 1) := by decide +kernel
theorem dX4_advance_75 : decode cX4_advance 75 = .ok (.getfield 99, 3) := by decide +kernel
theorem dX4_advance_78 : decode cX4_advance 78 = .ok (.imul, 1) := by decide +kernel
theorem dX4_advance_79 : decode cX4_advance 79 = .ok (.iadd, 1) := by decide +kernel
theorem dX4_advance_80 : decode cX4_advance 80 = .ok (.ldc 172, 2) := by decide +kernel
theorem dX4_advance_82 : decode cX4_advance 82 = .ok (.ldc 29, 2) := by decide +kernel
theorem dX4_advance_84 : decode cX4_advance 84 = .ok (.invokestatic 133, 3) := by decide +kernel
theorem dX4_advance_87 : decode cX4_advance 87 = .ok (.putfield 93, 3) := by decide +kernel
theorem dX4_advance_90 : decode cX4_advance 90 = .ok (.aload_n 1, 1) := by decide +kernel
theorem dX4_advance_91 : decode cX4_advance 91 = .ok (.aload_n 2, 1) := by decide +kernel
theorem dX4_advance_92 : decode cX4_advance 92 = .ok (.getfield 96, 3) := by decide +kernel
theorem dX4_advance_95 : decode cX4_advance 95 = .ok (.iload_n 3, 1) := by decide +kernel
theorem dX4_advance_96 : decode cX4_advance 96 = .ok (.iadd, 1) := by decide +kernel
theorem dX4_advance_97 : decode cX4_advance 97 = .ok (.sipush (-999), 3) := by decide +kernel
theorem dX4_advance_100 : decode cX4_advance 100 = .ok (.sipush 999, 3) := by decide +kernel
theorem dX4_advance_103 : decode cX4_advance 103 = .ok (.invokestatic 133, 3) := by decide +kernel
theorem dX4_advance_106 : decode cX4_advance 106 = .ok (.putfield 96, 3) := by decide +kernel
theorem dX4_advance_109 : decode cX4_advance 109 = .ok (.aload_n 1, 1) := by decide +kernel
theorem dX4_advance_110 : decode cX4_advance 110 = .ok (.aload_n 2, 1) := by decide +kernel
theorem dX4_advance_111 : decode cX4_advance 111 = .ok (.getfield 102, 3) := by decide +kernel
theorem dX4_advance_114 : decode cX4_advance 114 = .ok (.iload 4, 2) := by decide +kernel
theorem dX4_advance_116 : decode cX4_advance 116 = .ok (.isub, 1) := by decide +kernel
theorem dX4_advance_117 : decode cX4_advance 117 = .ok (.iconst 0, 1) := by decide +kernel
theorem dX4_advance_118 : decode cX4_advance 118 = .ok (.sipush 999, 3) := by decide +kernel
theorem dX4_advance_121 : decode cX4_advance 121 = .ok (.invokestatic 133, 3) := by decide +kernel
theorem dX4_advance_124 : decode cX4_advance 124 = .ok (.putfield 102, 3) := by decide +kernel
theorem dX4_advance_127 : decode cX4_advance 127 = .ok (.return_, 1) := by decide +kernel
theorem dX4_widen_0 : decode cX4_widen 0 = .ok (.aload_n 2, 1) := by decide +kernel
theorem dX4_widen_1 : decode cX4_widen 1 = .ok (.getfield 105, 3) := by decide +kernel
theorem dX4_widen_4 : decode cX4_widen 4 = .ok (.istore_n 3, 1) := by decide +kernel
theorem dX4_widen_5 : decode cX4_widen 5 = .ok (.iconst 0, 1) := by decide +kernel
theorem dX4_widen_6 : decode cX4_widen 6 = .ok (.istore 4, 2) := by decide +kernel
theorem dX4_widen_8 : decode cX4_widen 8 = .ok (.iload 4, 2) := by decide +kernel
theorem dX4_widen_10 : decode cX4_widen 10 = .ok (.aload_n 0, 1) := by decide +kernel
theorem dX4_widen_11 : decode cX4_widen 11 = .ok (.getfield 61, 3) := by decide +kernel
theorem dX4_widen_14 : decode cX4_widen 14 = .ok (.if_icmp .ge 83, 3) := by decide +kernel
theorem dX4_widen_17 : decode cX4_widen 17 = .ok (.aload_n 0, 1) := by decide +kernel
theorem dX4_widen_18 : decode cX4_widen 18 = .ok (.iload 4, 2) := by decide +kernel
theorem dX4_widen_20 : decode cX4_widen 20 = .ok (.invokevirtual 161, 3) := by decide +kernel
theorem dX4_widen_23 : decode cX4_widen 23 = .ok (.astore 5, 2) := by decide +kernel
theorem dX4_widen_25 : decode cX4_widen 25 = .ok (.aload 5, 2) := by decide +kernel
theorem dX4_widen_27 : decode cX4_widen 27 = .ok (.ifnull 64, 3) := by decide +kernel
theorem dX4_widen_30 : decode cX4_widen 30 = .ok (.iload_n 3, 1) := by decide +kernel
theorem dX4_widen_31 : decode cX4_widen 31 = .ok (.aload 5, 2) := by decide +kernel
theorem dX4_widen_33 : decode cX4_widen 33 = .ok (.aload_n 2, 1) := by decide +kernel
theorem dX4_widen_34 : decode cX4_widen 34 = .ok (.aload_n 0, 1) := by decide +kernel
theorem dX4_widen_35 : decode cX4_widen 35 = .ok (.getfield 30, 3) := by decide +kernel
theorem dX4_widen_38 : decode cX4_widen 38 = .ok (.invokevirtual 173, 3) := by decide +kernel
theorem dX4_widen_41 : decode cX4_widen 41 = .ok (.iadd, 1) := by decide +kernel
theorem dX4_widen_42 : decode cX4_widen 42 = .ok (.istore_n 3, 1) := by decide +kernel
theorem dX4_widen_43 : decode cX4_widen 43 = .ok (.iconst 0, 1) := by decide +kernel
theorem dX4_widen_44 : decode cX4_widen 44 = .ok (.istore 6, 2) := by decide +kernel
theorem dX4_widen_46 : decode cX4_widen 46 = .ok (.iload 6, 2) := by decide +kernel
theorem dX4_widen_48 : decode cX4_widen 48 = .ok (.aload_n 0, 1) := by decide +kernel
theorem dX4_widen_49 : decode cX4_widen 49 = .ok (.getfield 77, 3) := by decide +kernel
theorem dX4_widen_52 : decode cX4_widen 52 = .ok (.if_icmp .ge 39, 3) := by decide +kernel
theorem dX4_widen_55 : decode cX4_widen 55 = .ok (.aload_n 2, 1) := by decide +kernel
theorem dX4_widen_56 : decode cX4_widen 56 = .ok (.aload_n 0, 1) := by decide +kernel
theorem dX4_widen_57 : decode cX4_widen 57 = .ok (.getfield 17, 3) := by decide +kernel
theorem dX4_widen_60 : decode cX4_widen 60 = .ok (.iload 6, 2) := by decide +kernel
theorem dX4_widen_62 : decode cX4_widen 62 = .ok (.aaload, 1) := by decide +kernel
theorem dX4_widen_63 : decode cX4_widen 63 = .ok (.invokestatic 176, 3) := by decide +kernel
theorem dX4_widen_66 : decode cX4_widen 66 = .ok (.ifCond .eq 19, 3) := by decide +kernel
theorem dX4_widen_69 : decode cX4_widen 69 = .ok (.iload_n 3, 1) := by decide +kernel
theorem dX4_widen_70 : decode cX4_widen 70 = .ok (.aload 5, 2) := by decide +kernel
theorem dX4_widen_72 : decode cX4_widen 72 = .ok (.aload_n 2, 1) := by decide +kernel
theorem dX4_widen_73 : decode cX4_widen 73 = .ok (.aload_n 0, 1) := by decide +kernel
theorem dX4_widen_74 : decode cX4_widen 74 = .ok (.getfield 17, 3) := by decide +kernel
theorem dX4_widen_77 : decode cX4_widen 77 = .ok (.iload 6, 2) := by decide +kernel
theorem dX4_widen_79 : decode cX4_widen 79 = .ok (.aaload, 1) := by decide +kernel
theorem dX4_widen_80 : decode cX4_widen 80 = .ok (.invokevirtual 180, 3) := by decide +kernel
theorem dX4_widen_83 : decode cX4_widen 83 = .ok (.iadd, 1) := by decide +kernel
theorem dX4_widen_84 : decode cX4_widen 84 = .ok (.istore_n 3, 1) := by decide +kernel
theorem dX4_widen_85 : decode cX4_widen 85 = .ok (.iinc 6 1, 3) := by decide +kernel
theorem dX4_widen_88 : decode cX4_widen 88 = .ok (.goto (-42), 3) := by decide +kernel
theorem dX4_widen_91 : decode cX4_widen 91 = .ok (.iinc 4 1, 3) := by decide +kernel
theorem dX4_widen_94 : decode cX4_widen 94 = .ok (.goto (-86), 3) := by decide +kernel
theorem dX4_widen_97 : decode cX4_widen 97 = .ok (.aload_n 1, 1) := by decide +kernel
theorem dX4_widen_98 : decode cX4_widen 98 = .ok (.iload_n 3, 1) := by decide +kernel
theorem dX4_widen_99 : decode cX4_widen 99 = .ok (.iconst 1, 1) := by decide +kernel
theorem dX4_widen_100 : decode cX4_widen 100 = .ok (.sipush 200, 3) := by decide +kernel
theorem dX4_widen_103 : decode cX4_widen 103 = .ok (.invokestatic 133, 3) := by decide +kernel
theorem dX4_widen_106 : decode cX4_widen 106 = .ok (.putfield 105, 3) := by decide +kernel
theorem dX4_widen_109 : decode cX4_widen 109 = .ok (.return_, 1) := by decide +kernel
theorem dX4_isOther_0 : decode cX4_isOther 0 = .ok (.aload_n 1, 1) := by decide +kernel
theorem dX4_isOther_1 : decode cX4_isOther 1 = .ok (.getfield 111, 3) := by decide +kernel
theorem dX4_isOther_4 : decode cX4_isOther 4 = .ok (.ifCond .eq 18, 3) := by decide +kernel
theorem dX4_isOther_7 : decode cX4_isOther 7 = .ok (.aload_n 1, 1) := by decide +kernel
theorem dX4_isOther_8 : decode cX4_isOther 8 = .ok (.getfield 184, 3) := by decide +kernel
theorem dX4_isOther_11 : decode cX4_isOther 11 = .ok (.aload_n 0, 1) := by decide +kernel
theorem dX4_isOther_12 : decode cX4_isOther 12 = .ok (.getfield 184, 3) := by decide +kernel
theorem dX4_isOther_15 : decode cX4_isOther 15 = .ok (.if_icmp .eq 7, 3) := by decide +kernel
theorem dX4_isOther_18 : decode cX4_isOther 18 = .ok (.iconst 1, 1) := by decide +kernel
theorem dX4_isOther_19 : decode cX4_isOther 19 = .ok (.goto 4, 3) := by decide +kernel
theorem dX4_isOther_22 : decode cX4_isOther 22 = .ok (.iconst 0, 1) := by decide +kernel
theorem dX4_isOther_23 : decode cX4_isOther 23 = .ok (.ireturn, 1) := by decide +kernel
theorem dX4_endIfDue_0 : decode cX4_endIfDue 0 = .ok (.aload_n 0, 1) := by decide +kernel
theorem dX4_endIfDue_1 : decode cX4_endIfDue 1 = .ok (.getfield 17, 3) := by decide +kernel
theorem dX4_endIfDue_4 : decode cX4_endIfDue 4 = .ok (.iload_n 1, 1) := by decide +kernel
theorem dX4_endIfDue_5 : decode cX4_endIfDue 5 = .ok (.aaload, 1) := by decide +kernel
theorem dX4_endIfDue_6 : decode cX4_endIfDue 6 = .ok (.astore_n 2, 1) := by decide +kernel
theorem dX4_endIfDue_7 : decode cX4_endIfDue 7 = .ok (.iconst 0, 1) := by decide +kernel
theorem dX4_endIfDue_8 : decode cX4_endIfDue 8 = .ok (.istore_n 3, 1) := by decide +kernel
theorem dX4_endIfDue_9 : decode cX4_endIfDue 9 = .ok (.iload_n 3, 1) := by decide +kernel
theorem dX4_endIfDue_10 : decode cX4_endIfDue 10 = .ok (.aload_n 0, 1) := by decide +kernel
theorem dX4_endIfDue_11 : decode cX4_endIfDue 11 = .ok (.getfield 77, 3) := by decide +kernel
theorem dX4_endIfDue_14 : decode cX4_endIfDue 14 = .ok (.if_icmp .ge 113, 3) := by decide +kernel
theorem dX4_endIfDue_17 : decode cX4_endIfDue 17 = .ok (.aload_n 2, 1) := by decide +kernel
theorem dX4_endIfDue_18 : decode cX4_endIfDue 18 = .ok (.aload_n 0, 1) := by decide +kernel
theorem dX4_endIfDue_19 : decode cX4_endIfDue 19 = .ok (.getfield 17, 3) := by decide +kernel
theorem dX4_endIfDue_22 : decode cX4_endIfDue 22 = .ok (.iload_n 3, 1) := by decide +kernel
theorem dX4_endIfDue_23 : decode cX4_endIfDue 23 = .ok (.aaload, 1) := by decide +kernel
theorem dX4_endIfDue_24 : decode cX4_endIfDue 24 = .ok (.invokestatic 176, 3) := by decide +kernel
theorem dX4_endIfDue_27 : decode cX4_endIfDue 27 = .ok (.ifCond .eq 17, 3) := by decide +kernel
theorem dX4_endIfDue_30 : decode cX4_endIfDue 30 = .ok (.aload_n 0, 1) := by decide +kernel
theorem dX4_endIfDue_31 : decode cX4_endIfDue 31 = .ok (.aload_n 2, 1) := by decide +kernel
theorem dX4_endIfDue_32 : decode cX4_endIfDue 32 = .ok (.aload_n 0, 1) := by decide +kernel
theorem dX4_endIfDue_33 : decode cX4_endIfDue 33 = .ok (.getfield 17, 3) := by decide +kernel
theorem dX4_endIfDue_36 : decode cX4_endIfDue 36 = .ok (.iload_n 3, 1) := by decide +kernel
theorem dX4_endIfDue_37 : decode cX4_endIfDue 37 = .ok (.aaload, 1) := by decide +kernel
theorem dX4_endIfDue_38 : decode cX4_endIfDue 38 = .ok (.invokevirtual 187, 3) := by decide +kernel
theorem dX4_endIfDue_41 : decode cX4_endIfDue 41 = .ok (.goto 4, 3) := by decide +kernel
theorem dX4_endIfDue_44 : decode cX4_endIfDue 44 = .ok (.aconst_null, 1) := by decide +kernel
theorem dX4_endIfDue_45 : decode cX4_endIfDue 45 = .ok (.astore 4, 2) := by decide +kernel
theorem dX4_endIfDue_47 : decode cX4_endIfDue 47 = .ok (.aload 4, 2) := by decide +kernel
theorem dX4_endIfDue_49 : decode cX4_endIfDue 49 = .ok (.ifnull 72, 3) := by decide +kernel
theorem dX4_endIfDue_52 : decode cX4_endIfDue 52 = .ok (.aload_n 0, 1) := by decide +kernel
theorem dX4_endIfDue_53 : decode cX4_endIfDue 53 = .ok (.getfield 11, 3) := by decide +kernel
theorem dX4_endIfDue_56 : decode cX4_endIfDue 56 = .ok (.iload_n 1, 1) := by decide +kernel
theorem dX4_endIfDue_57 : decode cX4_endIfDue 57 = .ok (.aaload, 1) := by decide +kernel
theorem dX4_endIfDue_58 : decode cX4_endIfDue 58 = .ok (.iconst 0, 1) := by decide +kernel
theorem dX4_endIfDue_59 : decode cX4_endIfDue 59 = .ok (.putfield 111, 3) := by decide +kernel
theorem dX4_endIfDue_62 : decode cX4_endIfDue 62 = .ok (.aload 4, 2) := by decide +kernel
theorem dX4_endIfDue_64 : decode cX4_endIfDue 64 = .ok (.instanceof 191, 3) := by decide +kernel
theorem dX4_endIfDue_67 : decode cX4_endIfDue 67 = .ok (.ifCond .eq 53, 3) := by decide +kernel
theorem dX4_endIfDue_70 : decode cX4_endIfDue 70 = .ok (.aload_n 0, 1) := by decide +kernel
theorem dX4_endIfDue_71 : decode cX4_endIfDue 71 = .ok (.getfield 11, 3) := by decide +kernel
theorem dX4_endIfDue_74 : decode cX4_endIfDue 74 = .ok (.iload_n 3, 1) := by decide +kernel
theorem dX4_endIfDue_75 : decode cX4_endIfDue 75 = .ok (.aaload, 1) := by decide +kernel
theorem dX4_endIfDue_76 : decode cX4_endIfDue 76 = .ok (.getfield 111, 3) := by decide +kernel
theorem dX4_endIfDue_79 : decode cX4_endIfDue 79 = .ok (.ifCond .eq 41, 3) := by decide +kernel
theorem dX4_endIfDue_82 : decode cX4_endIfDue 82 = .ok (.aload_n 0, 1) := by decide +kernel
theorem dX4_endIfDue_83 : decode cX4_endIfDue 83 = .ok (.getfield 11, 3) := by decide +kernel
theorem dX4_endIfDue_86 : decode cX4_endIfDue 86 = .ok (.iload_n 3, 1) := by decide +kernel
theorem dX4_endIfDue_87 : decode cX4_endIfDue 87 = .ok (.aaload, 1) := by decide +kernel
theorem dX4_endIfDue_88 : decode cX4_endIfDue 88 = .ok (.getfield 102, 3) := by decide +kernel
theorem dX4_endIfDue_91 : decode cX4_endIfDue 91 = .ok (.aload_n 0, 1) := by decide +kernel
theorem dX4_endIfDue_92 : decode cX4_endIfDue 92 = .ok (.getfield 11, 3) := by decide +kernel
theorem dX4_endIfDue_95 : decode cX4_endIfDue 95 = .ok (.iload_n 1, 1) := by decide +kernel
theorem dX4_endIfDue_96 : decode cX4_endIfDue 96 = .ok (.aaload, 1) := by decide +kernel
theorem dX4_endIfDue_97 : decode cX4_endIfDue 97 = .ok (.getfield 102, 3) := by decide +kernel
theorem dX4_endIfDue_100 : decode cX4_endIfDue 100 = .ok (.iadd, 1) := by decide +kernel
theorem dX4_endIfDue_101 : decode cX4_endIfDue 101 = .ok (.istore 5, 2) := by decide +kernel
theorem dX4_endIfDue_103 : decode cX4_endIfDue 103 = .ok (.aload_n 0, 1) := by decide +kernel
theorem dX4_endIfDue_104 : decode cX4_endIfDue 104 = .ok (.getfield 11, 3) := by decide +kernel
theorem dX4_endIfDue_107 : decode cX4_endIfDue 107 = .ok (.iload_n 3, 1) := by decide +kernel
theorem dX4_endIfDue_108 : decode cX4_endIfDue 108 = .ok (.aaload, 1) := by decide +kernel
theorem dX4_endIfDue_109 : decode cX4_endIfDue 109 = .ok (.iload 5, 2) := by decide +kernel
theorem dX4_endIfDue_111 : decode cX4_endIfDue 111 = .ok (.sipush 999, 3) := by decide +kernel
theorem dX4_endIfDue_114 : decode cX4_endIfDue 114 = .ok (.invokestatic 87, 3) := by decide +kernel
theorem dX4_endIfDue_117 : decode cX4_endIfDue 117 = .ok (.putfield 102, 3) := by decide +kernel
theorem dX4_endIfDue_120 : decode cX4_endIfDue 120 = .ok (.return_, 1) := by decide +kernel
theorem dX4_endIfDue_121 : decode cX4_endIfDue 121 = .ok (.iinc 3 1, 3) := by decide +kernel
theorem dX4_endIfDue_124 : decode cX4_endIfDue 124 = .ok (.goto (-115), 3) := by decide +kernel
theorem dX4_endIfDue_127 : decode cX4_endIfDue 127 = .ok (.return_, 1) := by decide +kernel
theorem dX4_endingLaw_0 : decode cX4_endingLaw 0 = .ok (.iconst 0, 1) := by decide +kernel
theorem dX4_endingLaw_1 : decode cX4_endingLaw 1 = .ok (.istore_n 3, 1) := by decide +kernel
theorem dX4_endingLaw_2 : decode cX4_endingLaw 2 = .ok (.iload_n 3, 1) := by decide +kernel
theorem dX4_endingLaw_3 : decode cX4_endingLaw 3 = .ok (.aload_n 0, 1) := by decide +kernel
theorem dX4_endingLaw_4 : decode cX4_endingLaw 4 = .ok (.getfield 61, 3) := by decide +kernel
theorem dX4_endingLaw_7 : decode cX4_endingLaw 7 = .ok (.if_icmp .ge 34, 3) := by decide +kernel
theorem dX4_endingLaw_10 : decode cX4_endingLaw 10 = .ok (.aload_n 0, 1) := by decide +kernel
theorem dX4_endingLaw_11 : decode cX4_endingLaw 11 = .ok (.iload_n 3, 1) := by decide +kernel
theorem dX4_endingLaw_12 : decode cX4_endingLaw 12 = .ok (.invokevirtual 161, 3) := by decide +kernel
theorem dX4_endingLaw_15 : decode cX4_endingLaw 15 = .ok (.astore 4, 2) := by decide +kernel
theorem dX4_endingLaw_17 : decode cX4_endingLaw 17 = .ok (.aload 4, 2) := by decide +kernel
theorem dX4_endingLaw_19 : decode cX4_endingLaw 19 = .ok (.ifnull 16, 3) := by decide +kernel
theorem dX4_endingLaw_22 : decode cX4_endingLaw 22 = .ok (.aload 4, 2) := by decide +kernel
theorem dX4_endingLaw_24 : decode cX4_endingLaw 24 = .ok (.aload_n 1, 1) := by decide +kernel
theorem dX4_endingLaw_25 : decode cX4_endingLaw 25 = .ok (.aload_n 2, 1) := by decide +kernel
theorem dX4_endingLaw_26 : decode cX4_endingLaw 26 = .ok (.invokevirtual 193, 3) := by decide +kernel
theorem dX4_endingLaw_29 : decode cX4_endingLaw 29 = .ok (.ifCond .eq 6, 3) := by decide +kernel
theorem dX4_endingLaw_32 : decode cX4_endingLaw 32 = .ok (.aload 4, 2) := by decide +kernel
theorem dX4_endingLaw_34 : decode cX4_endingLaw 34 = .ok (.areturn, 1) := by decide +kernel
theorem dX4_endingLaw_35 : decode cX4_endingLaw 35 = .ok (.iinc 3 1, 3) := by decide +kernel
theorem dX4_endingLaw_38 : decode cX4_endingLaw 38 = .ok (.goto (-36), 3) := by decide +kernel
theorem dX4_endingLaw_41 : decode cX4_endingLaw 41 = .ok (.aconst_null, 1) := by decide +kernel
theorem dX4_endingLaw_42 : decode cX4_endingLaw 42 = .ok (.areturn, 1) := by decide +kernel
theorem dX4_settle_0 : decode cX4_settle 0 = .ok (.aload_n 1, 1) := by decide +kernel
theorem dX4_settle_1 : decode cX4_settle 1 = .ok (.getfield 102, 3) := by decide +kernel
theorem dX4_settle_4 : decode cX4_settle 4 = .ok (.ifCond .ne 11, 3) := by decide +kernel
theorem dX4_settle_7 : decode cX4_settle 7 = .ok (.aload_n 1, 1) := by decide +kernel
theorem dX4_settle_8 : decode cX4_settle 8 = .ok (.iconst 0, 1) := by decide +kernel
theorem dX4_settle_9 : decode cX4_settle 9 = .ok (.putfield 111, 3) := by decide +kernel
theorem dX4_settle_12 : decode cX4_settle 12 = .ok (.goto 30, 3) := by decide +kernel
theorem dX4_settle_15 : decode cX4_settle 15 = .ok (.aload_n 1, 1) := by decide +kernel
theorem dX4_settle_16 : decode cX4_settle 16 = .ok (.getfield 99, 3) := by decide +kernel
theorem dX4_settle_19 : decode cX4_settle 19 = .ok (.iconst 1, 1) := by decide +kernel
theorem dX4_settle_20 : decode cX4_settle 20 = .ok (.if_icmp .ne 22, 3) := by decide +kernel
theorem dX4_settle_23 : decode cX4_settle 23 = .ok (.aload_n 1, 1) := by decide +kernel
theorem dX4_settle_24 : decode cX4_settle 24 = .ok (.getfield 93, 3) := by decide +kernel
theorem dX4_settle_27 : decode cX4_settle 27 = .ok (.aload_n 0, 1) := by decide +kernel
theorem dX4_settle_28 : decode cX4_settle 28 = .ok (.getfield 30, 3) := by decide +kernel
theorem dX4_settle_31 : decode cX4_settle 31 = .ok (.if_icmp .le 11, 3) := by decide +kernel
theorem dX4_settle_34 : decode cX4_settle 34 = .ok (.aload_n 1, 1) := by decide +kernel
theorem dX4_settle_35 : decode cX4_settle 35 = .ok (.aload_n 0, 1) := by decide +kernel
theorem dX4_settle_36 : decode cX4_settle 36 = .ok (.getfield 30, 3) := by decide +kernel
theorem dX4_settle_39 : decode cX4_settle 39 = .ok (.putfield 93, 3) := by decide +kernel
theorem dX4_settle_42 : decode cX4_settle 42 = .ok (.return_, 1) := by decide +kernel
theorem dX5_init_0 : decode cX5_init 0 = .ok (.aload_n 0, 1) := by decide +kernel
theorem dX5_init_1 : decode cX5_init 1 = .ok (.invokespecial 1, 3) := by decide +kernel
theorem dX5_init_4 : decode cX5_init 4 = .ok (.aload_n 0, 1) := by decide +kernel
theorem dX5_init_5 : decode cX5_init 5 = .ok (.iload_n 1, 1) := by decide +kernel
theorem dX5_init_6 : decode cX5_init 6 = .ok (.newarray .int, 2) := by decide +kernel
theorem dX5_init_8 : decode cX5_init 8 = .ok (.putfield 7, 3) := by decide +kernel
theorem dX5_init_11 : decode cX5_init 11 = .ok (.return_, 1) := by decide +kernel
theorem dX5_become_0 : decode cX5_become 0 = .ok (.aload_n 0, 1) := by decide +kernel
theorem dX5_become_1 : decode cX5_become 1 = .ok (.aload_n 1, 1) := by decide +kernel
theorem dX5_become_2 : decode cX5_become 2 = .ok (.getfield 13, 3) := by decide +kernel
theorem dX5_become_5 : decode cX5_become 5 = .ok (.aload_n 0, 1) := by decide +kernel
theorem dX5_become_6 : decode cX5_become 6 = .ok (.getfield 7, 3) := by decide +kernel
theorem dX5_become_9 : decode cX5_become 9 = .ok (.arraylength, 1) := by decide +kernel
theorem dX5_become_10 : decode cX5_become 10 = .ok (.invokestatic 17, 3) := by decide +kernel
theorem dX5_become_13 : decode cX5_become 13 = .ok (.putfield 13, 3) := by decide +kernel
theorem dX5_become_16 : decode cX5_become 16 = .ok (.aload_n 1, 1) := by decide +kernel
theorem dX5_become_17 : decode cX5_become 17 = .ok (.getfield 7, 3) := by decide +kernel
theorem dX5_become_20 : decode cX5_become 20 = .ok (.iconst 0, 1) := by decide +kernel
theorem dX5_become_21 : decode cX5_become 21 = .ok (.aload_n 0, 1) := by decide +kernel
theorem dX5_become_22 : decode cX5_become 22 = .ok (.getfield 7, 3) := by decide +kernel
theorem dX5_become_25 : decode cX5_become 25 = .ok (.iconst 0, 1) := by decide +kernel
theorem dX5_become_26 : decode cX5_become 26 = .ok (.aload_n 0, 1) := by decide +kernel
theorem dX5_become_27 : decode cX5_become 27 = .ok (.getfield 13, 3) := by decide +kernel
theorem dX5_become_30 : decode cX5_become 30 = .ok (.invokestatic 23, 3) := by decide +kernel
theorem dX5_become_33 : decode cX5_become 33 = .ok (.return_, 1) := by decide +kernel
theorem dX5_add_0 : decode cX5_add 0 = .ok (.aload_n 0, 1) := by decide +kernel
theorem dX5_add_1 : decode cX5_add 1 = .ok (.getfield 13, 3) := by decide +kernel
theorem dX5_add_4 : decode cX5_add 4 = .ok (.aload_n 0, 1) := by decide +kernel
theorem dX5_add_5 : decode cX5_add 5 = .ok (.getfield 7, 3) := by decide +kernel
theorem dX5_add_8 : decode cX5_add 8 = .ok (.arraylength, 1) := by decide +kernel
theorem dX5_add_9 : decode cX5_add 9 = .ok (.if_icmp .ge 23, 3) := by decide +kernel
theorem dX5_add_12 : decode cX5_add 12 = .ok (.aload_n 0, 1) := by decide +kernel
theorem dX5_add_13 : decode cX5_add 13 = .ok (.getfield 7, 3) := by decide +kernel
theorem dX5_add_16 : decode cX5_add 16 = .ok (.aload_n 0, 1) := by decide +kernel
theorem dX5_add_17 : decode cX5_add 17 = .ok (.getfield 13, 3) := by decide +kernel
theorem dX5_add_20 : decode cX5_add 20 = .ok (.iload_n 1, 1) := by decide +kernel
theorem dX5_add_21 : decode cX5_add 21 = .ok (.iastore, 1) := by decide +kernel
theorem dX5_add_22 : decode cX5_add 22 = .ok (.aload_n 0, 1) := by decide +kernel
theorem dX5_add_23 : decode cX5_add 23 = .ok (.dup, 1) := by decide +kernel
theorem dX5_add_24 : decode cX5_add 24 = .ok (.getfield 13, 3) := by decide +kernel
theorem dX5_add_27 : decode cX5_add 27 = .ok (.iconst 1, 1) := by decide +kernel
theorem dX5_add_28 : decode cX5_add 28 = .ok (.iadd, 1) := by decide +kernel
theorem dX5_add_29 : decode cX5_add 29 = .ok (.putfield 13, 3) := by decide +kernel
theorem dX5_add_32 : decode cX5_add 32 = .ok (.return_, 1) := by decide +kernel
theorem dX5_has_0 : decode cX5_has 0 = .ok (.iload_n 1, 1) := by decide +kernel
theorem dX5_has_1 : decode cX5_has 1 = .ok (.ifCond .lt 15, 3) := by decide +kernel
theorem dX5_has_4 : decode cX5_has 4 = .ok (.iload_n 1, 1) := by decide +kernel
theorem dX5_has_5 : decode cX5_has 5 = .ok (.aload_n 0, 1) := by decide +kernel
theorem dX5_has_6 : decode cX5_has 6 = .ok (.getfield 13, 3) := by decide +kernel
theorem dX5_has_9 : decode cX5_has 9 = .ok (.if_icmp .ge 7, 3) := by decide +kernel
theorem dX5_has_12 : decode cX5_has 12 = .ok (.iconst 1, 1) := by decide +kernel
theorem dX5_has_13 : decode cX5_has 13 = .ok (.goto 4, 3) := by decide +kernel
theorem dX5_has_16 : decode cX5_has 16 = .ok (.iconst 0, 1) := by decide +kernel
theorem dX5_has_17 : decode cX5_has 17 = .ok (.ireturn, 1) := by decide +kernel
theorem dX5_stands_0 : decode cX5_stands 0 = .ok (.iload_n 1, 1) := by decide +kernel
theorem dX5_stands_1 : decode cX5_stands 1 = .ok (.ifCond .lt 29, 3) := by decide +kernel
theorem dX5_stands_4 : decode cX5_stands 4 = .ok (.iload_n 2, 1) := by decide +kernel
theorem dX5_stands_5 : decode cX5_stands 5 = .ok (.ifCond .lt 25, 3) := by decide +kernel
theorem dX5_stands_8 : decode cX5_stands 8 = .ok (.iload_n 1, 1) := by decide +kernel
theorem dX5_stands_9 : decode cX5_stands 9 = .ok (.aload_n 0, 1) := by decide +kernel
theorem dX5_stands_10 : decode cX5_stands 10 = .ok (.getfield 13, 3) := by decide +kernel
theorem dX5_stands_13 : decode cX5_stands 13 = .ok (.if_icmp .gt 17, 3) := by decide +kernel
theorem dX5_stands_16 : decode cX5_stands 16 = .ok (.iload_n 2, 1) := by decide +kernel
theorem dX5_stands_17 : decode cX5_stands 17 = .ok (.aload_n 0, 1) := by decide +kernel
theorem dX5_stands_18 : decode cX5_stands 18 = .ok (.getfield 13, 3) := by decide +kernel
theorem dX5_stands_21 : decode cX5_stands 21 = .ok (.iload_n 1, 1) := by decide +kernel
theorem dX5_stands_22 : decode cX5_stands 22 = .ok (.isub, 1) := by decide +kernel
theorem dX5_stands_23 : decode cX5_stands 23 = .ok (.if_icmp .gt 7, 3) := by decide +kernel
theorem dX5_stands_26 : decode cX5_stands 26 = .ok (.iconst 1, 1) := by decide +kernel
theorem dX5_stands_27 : decode cX5_stands 27 = .ok (.goto 4, 3) := by decide +kernel
theorem dX5_stands_30 : decode cX5_stands 30 = .ok (.iconst 0, 1) := by decide +kernel
theorem dX5_stands_31 : decode cX5_stands 31 = .ok (.ireturn, 1) := by decide +kernel
theorem dX5_begin_0 : decode cX5_begin 0 = .ok (.aload_n 0, 1) := by decide +kernel
theorem dX5_begin_1 : decode cX5_begin 1 = .ok (.iload_n 1, 1) := by decide +kernel
theorem dX5_begin_2 : decode cX5_begin 2 = .ok (.putfield 29, 3) := by decide +kernel
theorem dX5_begin_5 : decode cX5_begin 5 = .ok (.aload_n 0, 1) := by decide +kernel
theorem dX5_begin_6 : decode cX5_begin 6 = .ok (.iload_n 2, 1) := by decide +kernel
theorem dX5_begin_7 : decode cX5_begin 7 = .ok (.aload_n 0, 1) := by decide +kernel
theorem dX5_begin_8 : decode cX5_begin 8 = .ok (.getfield 7, 3) := by decide +kernel
theorem dX5_begin_11 : decode cX5_begin 11 = .ok (.arraylength, 1) := by decide +kernel
theorem dX5_begin_12 : decode cX5_begin 12 = .ok (.invokestatic 17, 3) := by decide +kernel
theorem dX5_begin_15 : decode cX5_begin 15 = .ok (.putfield 13, 3) := by decide +kernel
theorem dX5_begin_18 : decode cX5_begin 18 = .ok (.aload_n 0, 1) := by decide +kernel
theorem dX5_begin_19 : decode cX5_begin 19 = .ok (.getfield 7, 3) := by decide +kernel
theorem dX5_begin_22 : decode cX5_begin 22 = .ok (.iconst 0, 1) := by decide +kernel
theorem dX5_begin_23 : decode cX5_begin 23 = .ok (.invokestatic 32, 3) := by decide +kernel
theorem dX5_begin_26 : decode cX5_begin 26 = .ok (.return_, 1) := by decide +kernel
theorem dX5_write_0 : decode cX5_write 0 = .ok (.aload_n 0, 1) := by decide +kernel
theorem dX5_write_1 : decode cX5_write 1 = .ok (.iload_n 1, 1) := by decide +kernel
theorem dX5_write_2 : decode cX5_write 2 = .ok (.invokevirtual 38, 3) := by decide +kernel
theorem dX5_write_5 : decode cX5_write 5 = .ok (.ifCond .eq 38, 3) := by decide +kernel
theorem dX5_write_8 : decode cX5_write 8 = .ok (.aload_n 0, 1) := by decide +kernel
theorem dX5_write_9 : decode cX5_write 9 = .ok (.getfield 7, 3) := by decide +kernel
theorem dX5_write_12 : decode cX5_write 12 = .ok (.iload_n 1, 1) := by decide +kernel
theorem dX5_write_13 : decode cX5_write 13 = .ok (.aload_n 0, 1) := by decide +kernel
theorem dX5_write_14 : decode cX5_write 14 = .ok (.getfield 29, 3) := by decide +kernel
theorem dX5_write_17 : decode cX5_write 17 = .ok (.bipush 8, 2) := by decide +kernel
theorem dX5_write_19 : decode cX5_write 19 = .ok (.if_icmp .ne 8, 3) := by decide +kernel
theorem dX5_write_22 : decode cX5_write 22 = .ok (.iload_n 2, 1) := by decide +kernel
theorem dX5_write_23 : decode cX5_write 23 = .ok (.i2b, 1) := by decide +kernel
theorem dX5_write_24 : decode cX5_write 24 = .ok (.goto 18, 3) := by decide +kernel
theorem dX5_write_27 : decode cX5_write 27 = .ok (.aload_n 0, 1) := by decide +kernel
theorem dX5_write_28 : decode cX5_write 28 = .ok (.getfield 29, 3) := by decide +kernel
theorem dX5_write_31 : decode cX5_write 31 = .ok (.bipush 16, 2) := by decide +kernel
theorem dX5_write_33 : decode cX5_write 33 = .ok (.if_icmp .ne 8, 3) := by decide +kernel
theorem dX5_write_36 : decode cX5_write 36 = .ok (.iload_n 2, 1) := by decide +kernel
theorem dX5_write_37 : decode cX5_write 37 = .ok (.i2s, 1) := by decide +kernel
theorem dX5_write_38 : decode cX5_write 38 = .ok (.goto 4, 3) := by decide +kernel
theorem dX5_write_41 : decode cX5_write 41 = .ok (.iload_n 2, 1) := by decide +kernel
theorem dX5_write_42 : decode cX5_write 42 = .ok (.iastore, 1) := by decide +kernel
theorem dX5_write_43 : decode cX5_write 43 = .ok (.return_, 1) := by decide +kernel
theorem dX6_init_0 : decode cX6_init 0 = .ok (.aload_n 0, 1) := by decide +kernel
theorem dX6_init_1 : decode cX6_init 1 = .ok (.bipush 6, 2) := by decide +kernel
theorem dX6_init_3 : decode cX6_init 3 = .ok (.iload_n 1, 1) := by decide +kernel
theorem dX6_init_4 : decode cX6_init 4 = .ok (.iload_n 2, 1) := by decide +kernel
theorem dX6_init_5 : decode cX6_init 5 = .ok (.invokespecial 3, 3) := by decide +kernel
theorem dX6_init_8 : decode cX6_init 8 = .ok (.return_, 1) := by decide +kernel
theorem dX6_spreads_0 : decode cX6_spreads 0 = .ok (.aload_n 0, 1) := by decide +kernel
theorem dX6_spreads_1 : decode cX6_spreads 1 = .ok (.aload_n 1, 1) := by decide +kernel
theorem dX6_spreads_2 : decode cX6_spreads 2 = .ok (.iload_n 2, 1) := by decide +kernel
theorem dX6_spreads_3 : decode cX6_spreads 3 = .ok (.invokespecial 9, 3) := by decide +kernel
theorem dX6_spreads_6 : decode cX6_spreads 6 = .ok (.iconst 2, 1) := by decide +kernel
theorem dX6_spreads_7 : decode cX6_spreads 7 = .ok (.idiv, 1) := by decide +kernel
theorem dX6_spreads_8 : decode cX6_spreads 8 = .ok (.ireturn, 1) := by decide +kernel
theorem dX6_lifts_0 : decode cX6_lifts 0 = .ok (.aload_n 0, 1) := by decide +kernel
theorem dX6_lifts_1 : decode cX6_lifts 1 = .ok (.aload_n 1, 1) := by decide +kernel
theorem dX6_lifts_2 : decode cX6_lifts 2 = .ok (.iload_n 2, 1) := by decide +kernel
theorem dX6_lifts_3 : decode cX6_lifts 3 = .ok (.invokevirtual 13, 3) := by decide +kernel
theorem dX6_lifts_6 : decode cX6_lifts 6 = .ok (.ireturn, 1) := by decide +kernel
theorem dX6_ends_0 : decode cX6_ends 0 = .ok (.aload_n 2, 1) := by decide +kernel
theorem dX6_ends_1 : decode cX6_ends 1 = .ok (.bipush 70, 2) := by decide +kernel
theorem dX6_ends_3 : decode cX6_ends 3 = .ok (.invokevirtual 16, 3) := by decide +kernel
theorem dX6_ends_6 : decode cX6_ends 6 = .ok (.aload_n 0, 1) := by decide +kernel
theorem dX6_ends_7 : decode cX6_ends 7 = .ok (.iload_n 1, 1) := by decide +kernel
theorem dX6_ends_8 : decode cX6_ends 8 = .ok (.aload_n 2, 1) := by decide +kernel
theorem dX6_ends_9 : decode cX6_ends 9 = .ok (.invokespecial 22, 3) := by decide +kernel
theorem dX6_ends_12 : decode cX6_ends 12 = .ok (.aload_n 0, 1) := by decide +kernel
theorem dX6_ends_13 : decode cX6_ends 13 = .ok (.getfield 26, 3) := by decide +kernel
theorem dX6_ends_16 : decode cX6_ends 16 = .ok (.iadd, 1) := by decide +kernel
theorem dX6_ends_17 : decode cX6_ends 17 = .ok (.ireturn, 1) := by decide +kernel
theorem dX6_tells_0 : decode cX6_tells 0 = .ok (.aload_n 2, 1) := by decide +kernel
theorem dX6_tells_1 : decode cX6_tells 1 = .ok (.bipush 71, 2) := by decide +kernel
theorem dX6_tells_3 : decode cX6_tells 3 = .ok (.invokevirtual 16, 3) := by decide +kernel
theorem dX6_tells_6 : decode cX6_tells 6 = .ok (.aload_n 0, 1) := by decide +kernel
theorem dX6_tells_7 : decode cX6_tells 7 = .ok (.iload_n 1, 1) := by decide +kernel
theorem dX6_tells_8 : decode cX6_tells 8 = .ok (.aload_n 2, 1) := by decide +kernel
theorem dX6_tells_9 : decode cX6_tells 9 = .ok (.invokevirtual 30, 3) := by decide +kernel
theorem dX6_tells_12 : decode cX6_tells 12 = .ok (.aload_n 0, 1) := by decide +kernel
theorem dX6_tells_13 : decode cX6_tells 13 = .ok (.iload_n 1, 1) := by decide +kernel
theorem dX6_tells_14 : decode cX6_tells 14 = .ok (.aload_n 2, 1) := by decide +kernel
theorem dX6_tells_15 : decode cX6_tells 15 = .ok (.invokespecial 33, 3) := by decide +kernel
theorem dX6_tells_18 : decode cX6_tells 18 = .ok (.isub, 1) := by decide +kernel
theorem dX6_tells_19 : decode cX6_tells 19 = .ok (.ireturn, 1) := by decide +kernel
theorem dX7_init_0 : decode cX7_init 0 = .ok (.aload_n 0, 1) := by decide +kernel
theorem dX7_init_1 : decode cX7_init 1 = .ok (.invokespecial 3, 3) := by decide +kernel
theorem dX7_init_4 : decode cX7_init 4 = .ok (.aload_n 0, 1) := by decide +kernel
theorem dX7_init_5 : decode cX7_init 5 = .ok (.bipush 50, 2) := by decide +kernel
theorem dX7_init_7 : decode cX7_init 7 = .ok (.newarray .int, 2) := by decide +kernel
theorem dX7_init_9 : decode cX7_init 9 = .ok (.putfield 9, 3) := by decide +kernel
theorem dX7_init_12 : decode cX7_init 12 = .ok (.aload_n 0, 1) := by decide +kernel
theorem dX7_init_13 : decode cX7_init 13 = .ok (.bipush 50, 2) := by decide +kernel
theorem dX7_init_15 : decode cX7_init 15 = .ok (.newarray .int, 2) := by decide +kernel
theorem dX7_init_17 : decode cX7_init 17 = .ok (.putfield 15, 3) := by decide +kernel
theorem dX7_init_20 : decode cX7_init 20 = .ok (.return_, 1) := by decide +kernel
theorem dX7_become_0 : decode cX7_become 0 = .ok (.aload_n 0, 1) := by decide +kernel
theorem dX7_become_1 : decode cX7_become 1 = .ok (.aload_n 1, 1) := by decide +kernel
theorem dX7_become_2 : decode cX7_become 2 = .ok (.getfield 18, 3) := by decide +kernel
theorem dX7_become_5 : decode cX7_become 5 = .ok (.putfield 18, 3) := by decide +kernel
theorem dX7_become_8 : decode cX7_become 8 = .ok (.aload_n 1, 1) := by decide +kernel
theorem dX7_become_9 : decode cX7_become 9 = .ok (.getfield 9, 3) := by decide +kernel
theorem dX7_become_12 : decode cX7_become 12 = .ok (.iconst 0, 1) := by decide +kernel
theorem dX7_become_13 : decode cX7_become 13 = .ok (.aload_n 0, 1) := by decide +kernel
theorem dX7_become_14 : decode cX7_become 14 = .ok (.getfield 9, 3) := by decide +kernel
theorem dX7_become_17 : decode cX7_become 17 = .ok (.iconst 0, 1) := by decide +kernel
theorem dX7_become_18 : decode cX7_become 18 = .ok (.aload_n 0, 1) := by decide +kernel
theorem dX7_become_19 : decode cX7_become 19 = .ok (.getfield 18, 3) := by decide +kernel
theorem dX7_become_22 : decode cX7_become 22 = .ok (.invokestatic 22, 3) := by decide +kernel
theorem dX7_become_25 : decode cX7_become 25 = .ok (.return_, 1) := by decide +kernel
theorem dX7_read_0 : decode cX7_read 0 = .ok (.aload_n 0, 1) := by decide +kernel
theorem dX7_read_1 : decode cX7_read 1 = .ok (.iconst 0, 1) := by decide +kernel
theorem dX7_read_2 : decode cX7_read 2 = .ok (.putfield 18, 3) := by decide +kernel
theorem dX7_read_5 : decode cX7_read 5 = .ok (.aload_n 0, 1) := by decide +kernel
theorem dX7_read_6 : decode cX7_read 6 = .ok (.iconst 0, 1) := by decide +kernel
theorem dX7_read_7 : decode cX7_read 7 = .ok (.putfield 28, 3) := by decide +kernel
theorem dX7_read_10 : decode cX7_read 10 = .ok (.aload_n 0, 1) := by decide +kernel
theorem dX7_read_11 : decode cX7_read 11 = .ok (.iconst 0, 1) := by decide +kernel
theorem dX7_read_12 : decode cX7_read 12 = .ok (.putfield 31, 3) := by decide +kernel
theorem dX7_read_15 : decode cX7_read 15 = .ok (.aload_n 0, 1) := by decide +kernel
theorem dX7_read_16 : decode cX7_read 16 = .ok (.iconst 0, 1) := by decide +kernel
theorem dX7_read_17 : decode cX7_read 17 = .ok (.putfield 34, 3) := by decide +kernel
theorem dX7_read_20 : decode cX7_read 20 = .ok (.aload_n 0, 1) := by decide +kernel
theorem dX7_read_21 : decode cX7_read 21 = .ok (.iconst 1, 1) := by decide +kernel
theorem dX7_read_22 : decode cX7_read 22 = .ok (.putfield 37, 3) := by decide +kernel
theorem dX7_read_25 : decode cX7_read 25 = .ok (.iconst 0, 1) := by decide +kernel
theorem dX7_read_26 : decode cX7_read 26 = .ok (.istore_n 3, 1) := by decide +kernel
theorem dX7_read_27 : decode cX7_read 27 = .ok (.iload_n 3, 1) := by decide +kernel
theorem dX7_read_28 : decode cX7_read 28 = .ok (.aload_n 1, 1) := by decide +kernel
theorem dX7_read_29 : decode cX7_read 29 = .ok (.getfield 41, 3) := by decide +kernel
theorem dX7_read_32 : decode cX7_read 32 = .ok (.if_icmp .ge 49, 3) := by decide +kernel
theorem dX7_read_35 : decode cX7_read 35 = .ok (.aload_n 1, 1) := by decide +kernel
theorem dX7_read_36 : decode cX7_read 36 = .ok (.getfield 44, 3) := by decide +kernel
theorem dX7_read_39 : decode cX7_read 39 = .ok (.iload_n 3, 1) := by decide +kernel
theorem dX7_read_40 : decode cX7_read 40 = .ok (.iaload, 1) := by decide +kernel
theorem dX7_read_41 : decode cX7_read 41 = .ok (.istore 4, 2) := by decide +kernel
theorem dX7_read_43 : decode cX7_read 43 = .ok (.aload_n 0, 1) := by decide +kernel
theorem dX7_read_44 : decode cX7_read 44 = .ok (.getfield 37, 3) := by decide +kernel
theorem dX7_read_47 : decode cX7_read 47 = .ok (.ifCond .eq 13, 3) := by decide +kernel
theorem dX7_read_50 : decode cX7_read 50 = .ok (.aload_n 0, 1) := by decide +kernel
theorem dX7_read_51 : decode cX7_read 51 = .ok (.iload 4, 2) := by decide +kernel
theorem dX7_read_53 : decode cX7_read 53 = .ok (.aload_n 2, 1) := by decide +kernel
theorem dX7_read_54 : decode cX7_read 54 = .ok (.invokevirtual 47, 3) := by decide +kernel
theorem dX7_read_57 : decode cX7_read 57 = .ok (.goto 9, 3) := by decide +kernel
theorem dX7_read_60 : decode cX7_read 60 = .ok (.aload_n 0, 1) := by decide +kernel
theorem dX7_read_61 : decode cX7_read 61 = .ok (.iload 4, 2) := by decide +kernel
theorem dX7_read_63 : decode cX7_read 63 = .ok (.invokevirtual 51, 3) := by decide +kernel
theorem dX7_read_66 : decode cX7_read 66 = .ok (.istore 5, 2) := by decide +kernel
theorem dX7_read_68 : decode cX7_read 68 = .ok (.iload 5, 2) := by decide +kernel
theorem dX7_read_70 : decode cX7_read 70 = .ok (.ifCond .ne 5, 3) := by decide +kernel
theorem dX7_read_73 : decode cX7_read 73 = .ok (.iload_n 3, 1) := by decide +kernel
theorem dX7_read_74 : decode cX7_read 74 = .ok (.ireturn, 1) := by decide +kernel
theorem dX7_read_75 : decode cX7_read 75 = .ok (.iinc 3 1, 3) := by decide +kernel
theorem dX7_read_78 : decode cX7_read 78 = .ok (.goto (-51), 3) := by decide +kernel
theorem dX7_read_81 : decode cX7_read 81 = .ok (.aload_n 0, 1) := by decide +kernel
theorem dX7_read_82 : decode cX7_read 82 = .ok (.invokevirtual 55, 3) := by decide +kernel
theorem dX7_read_85 : decode cX7_read 85 = .ok (.ifCond .eq 7, 3) := by decide +kernel
theorem dX7_read_88 : decode cX7_read 88 = .ok (.iconst (-1), 1) := by decide +kernel
theorem dX7_read_89 : decode cX7_read 89 = .ok (.goto 7, 3) := by decide +kernel
theorem dX7_read_92 : decode cX7_read 92 = .ok (.aload_n 1, 1) := by decide +kernel
theorem dX7_read_93 : decode cX7_read 93 = .ok (.getfield 41, 3) := by decide +kernel
theorem dX7_read_96 : decode cX7_read 96 = .ok (.ireturn, 1) := by decide +kernel
theorem dX7_takesOperand_0 : decode cX7_takesOperand 0 = .ok (.iload_n 1, 1) := by decide +kernel
theorem dX7_takesOperand_1 : decode cX7_takesOperand 1 = .ok (.bipush 33, 2) := by decide +kernel
theorem dX7_takesOperand_3 : decode cX7_takesOperand 3 = .ok (.if_icmp .eq 9, 3) := by decide +kernel
theorem dX7_takesOperand_6 : decode cX7_takesOperand 6 = .ok (.iload_n 1, 1) := by decide +kernel
theorem dX7_takesOperand_7 : decode cX7_takesOperand 7 = .ok (.bipush 40, 2) := by decide +kernel
theorem dX7_takesOperand_9 : decode cX7_takesOperand 9 = .ok (.if_icmp .ne 32, 3) := by decide +kernel
theorem dX7_takesOperand_12 : decode cX7_takesOperand 12 = .ok (.aload_n 0, 1) := by decide +kernel
theorem dX7_takesOperand_13 : decode cX7_takesOperand 13 = .ok (.dup, 1) := by decide +kernel
theorem dX7_takesOperand_14 : decode cX7_takesOperand 14 = .ok (.getfield 31, 3) := by decide +kernel
theorem dX7_takesOperand_17 : decode cX7_takesOperand 17 = .ok (.iconst 1, 1) := by decide +kernel
theorem dX7_takesOperand_18 : decode cX7_takesOperand 18 = .ok (.iadd, 1) := by decide +kernel
theorem dX7_takesOperand_19 : decode cX7_takesOperand 19 = .ok (.putfield 31, 3) := by decide +kernel
theorem dX7_takesOperand_22 : decode cX7_takesOperand 22 = .ok (.aload_n 0, 1) := by decide +kernel
theorem dX7_takesOperand_23 : decode cX7_takesOperand 23 = .ok (.iload_n 1, 1) := by decide +kernel
theorem dX7_takesOperand_24 : decode cX7_takesOperand 24 = .ok (.invokevirtual 59, 3) := by decide +kernel
theorem dX7_takesOperand_27 : decode cX7_takesOperand 27 = .ok (.aload_n 0, 1) := by decide +kernel
theorem dX7_takesOperand_28 : decode cX7_takesOperand 28 = .ok (.getfield 31, 3) := by decide +kernel
theorem dX7_takesOperand_31 : decode cX7_takesOperand 31 = .ok (.iconst 5, 1) := by decide +kernel
theorem dX7_takesOperand_32 : decode cX7_takesOperand 32 = .ok (.if_icmp .gt 7, 3) := by decide +kernel
theorem dX7_takesOperand_35 : decode cX7_takesOperand 35 = .ok (.iconst 1, 1) := by decide +kernel
theorem dX7_takesOperand_36 : decode cX7_takesOperand 36 = .ok (.goto 4, 3) := by decide +kernel
theorem dX7_takesOperand_39 : decode cX7_takesOperand 39 = .ok (.iconst 0, 1) := by decide +kernel
theorem dX7_takesOperand_40 : decode cX7_takesOperand 40 = .ok (.ireturn, 1) := by decide +kernel
theorem dX7_takesOperand_41 : decode cX7_takesOperand 41 = .ok (.aload_n 0, 1) := by decide +kernel
theorem dX7_takesOperand_42 : decode cX7_takesOperand 42 = .ok (.iconst 0, 1) := by decide +kernel
theorem dX7_takesOperand_43 : decode cX7_takesOperand 43 = .ok (.putfield 37, 3) := by decide +kernel
theorem dX7_takesOperand_46 : decode cX7_takesOperand 46 = .ok (.iload_n 1, 1) := by decide +kernel
theorem dX7_takesOperand_47 : decode cX7_takesOperand 47 = .ok (.invokestatic 63, 3) := by decide +kernel
theorem dX7_takesOperand_50 : decode cX7_takesOperand 50 = .ok (.ifCond .eq 18, 3) := by decide +kernel
theorem dX7_takesOperand_53 : decode cX7_takesOperand 53 = .ok (.aload_n 0, 1) := by decide +kernel
theorem dX7_takesOperand_54 : decode cX7_takesOperand 54 = .ok (.iconst 1, 1) := by decide +kernel
theorem dX7_takesOperand_55 : decode cX7_takesOperand 55 = .ok (.putfield 34, 3) := by decide +kernel
theorem dX7_takesOperand_58 : decode cX7_takesOperand 58 = .ok (.aload_n 0, 1) := by decide +kernel
theorem dX7_takesOperand_59 : decode cX7_takesOperand 59 = .ok (.iload_n 1, 1) := by decide +kernel
theorem dX7_takesOperand_60 : decode cX7_takesOperand 60 = .ok (.bipush 48, 2) := by decide +kernel
theorem dX7_takesOperand_62 : decode cX7_takesOperand 62 = .ok (.isub, 1) := by decide +kernel
theorem dX7_takesOperand_63 : decode cX7_takesOperand 63 = .ok (.invokevirtual 66, 3) := by decide +kernel
theorem dX7_takesOperand_66 : decode cX7_takesOperand 66 = .ok (.iconst 1, 1) := by decide +kernel
theorem dX7_takesOperand_67 : decode cX7_takesOperand 67 = .ok (.ireturn, 1) := by decide +kernel
theorem dX7_takesOperand_68 : decode cX7_takesOperand 68 = .ok (.aload_n 2, 1) := by decide +kernel
theorem dX7_takesOperand_69 : decode cX7_takesOperand 69 = .ok (.iload_n 1, 1) := by decide +kernel
theorem dX7_takesOperand_70 : decode cX7_takesOperand 70 = .ok (.i2c, 1) := by decide +kernel
theorem dX7_takesOperand_71 : decode cX7_takesOperand 71 = .ok (.invokevirtual 69, 3) := by decide +kernel
theorem dX7_takesOperand_74 : decode cX7_takesOperand 74 = .ok (.istore_n 3, 1) := by decide +kernel
theorem dX7_takesOperand_75 : decode cX7_takesOperand 75 = .ok (.aload_n 0, 1) := by decide +kernel
theorem dX7_takesOperand_76 : decode cX7_takesOperand 76 = .ok (.iconst (-1), 1) := by decide +kernel
theorem dX7_takesOperand_77 : decode cX7_takesOperand 77 = .ok (.iload_n 3, 1) := by decide +kernel
theorem dX7_takesOperand_78 : decode cX7_takesOperand 78 = .ok (.isub, 1) := by decide +kernel
theorem dX7_takesOperand_79 : decode cX7_takesOperand 79 = .ok (.invokevirtual 66, 3) := by decide +kernel
theorem dX7_takesOperand_82 : decode cX7_takesOperand 82 = .ok (.iload_n 3, 1) := by decide +kernel
theorem dX7_takesOperand_83 : decode cX7_takesOperand 83 = .ok (.ifCond .lt 7, 3) := by decide +kernel
theorem dX7_takesOperand_86 : decode cX7_takesOperand 86 = .ok (.iconst 1, 1) := by decide +kernel
theorem dX7_takesOperand_87 : decode cX7_takesOperand 87 = .ok (.goto 4, 3) := by decide +kernel
theorem dX7_takesOperand_90 : decode cX7_takesOperand 90 = .ok (.iconst 0, 1) := by decide +kernel
theorem dX7_takesOperand_91 : decode cX7_takesOperand 91 = .ok (.ireturn, 1) := by decide +kernel
theorem dX7_takesOperator_0 : decode cX7_takesOperator 0 = .ok (.iload_n 1, 1) := by decide +kernel
theorem dX7_takesOperator_1 : decode cX7_takesOperator 1 = .ok (.invokestatic 63, 3) := by decide +kernel
theorem dX7_takesOperator_4 : decode cX7_takesOperator 4 = .ok (.ifCond .eq 9, 3) := by decide +kernel
theorem dX7_takesOperator_7 : decode cX7_takesOperator 7 = .ok (.aload_n 0, 1) := by decide +kernel
theorem dX7_takesOperator_8 : decode cX7_takesOperator 8 = .ok (.iload_n 1, 1) := by decide +kernel
theorem dX7_takesOperator_9 : decode cX7_takesOperator 9 = .ok (.invokevirtual 75, 3) := by decide +kernel
theorem dX7_takesOperator_12 : decode cX7_takesOperator 12 = .ok (.ireturn, 1) := by decide +kernel
theorem dX7_takesOperator_13 : decode cX7_takesOperator 13 = .ok (.aload_n 0, 1) := by decide +kernel
theorem dX7_takesOperator_14 : decode cX7_takesOperator 14 = .ok (.iconst 0, 1) := by decide +kernel
theorem dX7_takesOperator_15 : decode cX7_takesOperator 15 = .ok (.putfield 34, 3) := by decide +kernel
theorem dX7_takesOperator_18 : decode cX7_takesOperator 18 = .ok (.iload_n 1, 1) := by decide +kernel
theorem dX7_takesOperator_19 : decode cX7_takesOperator 19 = .ok (.bipush 41, 2) := by decide +kernel
theorem dX7_takesOperator_21 : decode cX7_takesOperator 21 = .ok (.if_icmp .ne 8, 3) := by decide +kernel
theorem dX7_takesOperator_24 : decode cX7_takesOperator 24 = .ok (.aload_n 0, 1) := by decide +kernel
theorem dX7_takesOperator_25 : decode cX7_takesOperator 25 = .ok (.invokevirtual 78, 3) := by decide +kernel
theorem dX7_takesOperator_28 : decode cX7_takesOperator 28 = .ok (.ireturn, 1) := by decide +kernel
theorem dX7_takesOperator_29 : decode cX7_takesOperator 29 = .ok (.iload_n 1, 1) := by decide +kernel
theorem dX7_takesOperator_30 : decode cX7_takesOperator 30 = .ok (.invokestatic 81, 3) := by decide +kernel
theorem dX7_takesOperator_33 : decode cX7_takesOperator 33 = .ok (.istore_n 2, 1) := by decide +kernel
theorem dX7_takesOperator_34 : decode cX7_takesOperator 34 = .ok (.iload_n 2, 1) := by decide +kernel
theorem dX7_takesOperator_35 : decode cX7_takesOperator 35 = .ok (.ifCond .eq 9, 3) := by decide +kernel
theorem dX7_takesOperator_38 : decode cX7_takesOperator 38 = .ok (.iload_n 1, 1) := by decide +kernel
theorem dX7_takesOperator_39 : decode cX7_takesOperator 39 = .ok (.bipush 33, 2) := by decide +kernel
theorem dX7_takesOperator_41 : decode cX7_takesOperator 41 = .ok (.if_icmp .ne 5, 3) := by decide +kernel
theorem dX7_takesOperator_44 : decode cX7_takesOperator 44 = .ok (.iconst 0, 1) := by decide +kernel
theorem dX7_takesOperator_45 : decode cX7_takesOperator 45 = .ok (.ireturn, 1) := by decide +kernel
theorem dX7_takesOperator_46 : decode cX7_takesOperator 46 = .ok (.aload_n 0, 1) := by decide +kernel
theorem dX7_takesOperator_47 : decode cX7_takesOperator 47 = .ok (.iload_n 2, 1) := by decide +kernel
theorem dX7_takesOperator_48 : decode cX7_takesOperator 48 = .ok (.invokevirtual 84, 3) := by decide +kernel
theorem dX7_takesOperator_51 : decode cX7_takesOperator 51 = .ok (.aload_n 0, 1) := by decide +kernel
theorem dX7_takesOperator_52 : decode cX7_takesOperator 52 = .ok (.getfield 28, 3) := by decide +kernel
theorem dX7_takesOperator_55 : decode cX7_takesOperator 55 = .ok (.ifCond .le 32, 3) := by decide +kernel
theorem dX7_takesOperator_58 : decode cX7_takesOperator 58 = .ok (.aload_n 0, 1) := by decide +kernel
theorem dX7_takesOperator_59 : decode cX7_takesOperator 59 = .ok (.getfield 15, 3) := by decide +kernel
theorem dX7_takesOperator_62 : decode cX7_takesOperator 62 = .ok (.aload_n 0, 1) := by decide +kernel
theorem dX7_takesOperator_63 : decode cX7_takesOperator 63 = .ok (.getfield 28, 3) := by decide +kernel
theorem dX7_takesOperator_66 : decode cX7_takesOperator 66 = .ok (.iconst 1, 1) := by decide +kernel
theorem dX7_takesOperator_67 : decode cX7_takesOperator 67 = .ok (.isub, 1) := by decide +kernel
theorem dX7_takesOperator_68 : decode cX7_takesOperator 68 = .ok (.iaload, 1) := by decide +kernel
theorem dX7_takesOperator_69 : decode cX7_takesOperator 69 = .ok (.invokestatic 81, 3) := by decide +kernel
theorem dX7_takesOperator_72 : decode cX7_takesOperator 72 = .ok (.iload_n 2, 1) := by decide +kernel
theorem dX7_takesOperator_73 : decode cX7_takesOperator 73 = .ok (.if_icmp .ne 14, 3) := by decide +kernel
theorem dX7_takesOperator_76 : decode cX7_takesOperator 76 = .ok (.iload_n 2, 1) := by decide +kernel
theorem dX7_takesOperator_77 : decode cX7_takesOperator 77 = .ok (.iconst 3, 1) := by decide +kernel
theorem dX7_takesOperator_78 : decode cX7_takesOperator 78 = .ok (.if_icmp .ne 5, 3) := by decide +kernel
theorem dX7_takesOperator_81 : decode cX7_takesOperator 81 = .ok (.iconst 0, 1) := by decide +kernel
theorem dX7_takesOperator_82 : decode cX7_takesOperator 82 = .ok (.ireturn, 1) := by decide +kernel
theorem dX7_takesOperator_83 : decode cX7_takesOperator 83 = .ok (.aload_n 0, 1) := by decide +kernel
theorem dX7_takesOperator_84 : decode cX7_takesOperator 84 = .ok (.invokevirtual 87, 3) := by decide +kernel
theorem dX7_takesOperator_87 : decode cX7_takesOperator 87 = .ok (.aload_n 0, 1) := by decide +kernel
theorem dX7_takesOperator_88 : decode cX7_takesOperator 88 = .ok (.iload_n 1, 1) := by decide +kernel
theorem dX7_takesOperator_89 : decode cX7_takesOperator 89 = .ok (.invokevirtual 59, 3) := by decide +kernel
theorem dX7_takesOperator_92 : decode cX7_takesOperator 92 = .ok (.aload_n 0, 1) := by decide +kernel
theorem dX7_takesOperator_93 : decode cX7_takesOperator 93 = .ok (.iconst 1, 1) := by decide +kernel
theorem dX7_takesOperator_94 : decode cX7_takesOperator 94 = .ok (.putfield 37, 3) := by decide +kernel
theorem dX7_takesOperator_97 : decode cX7_takesOperator 97 = .ok (.iconst 1, 1) := by decide +kernel
theorem dX7_takesOperator_98 : decode cX7_takesOperator 98 = .ok (.ireturn, 1) := by decide +kernel
theorem dX7_takesDigit_0 : decode cX7_takesDigit 0 = .ok (.aload_n 0, 1) := by decide +kernel
theorem dX7_takesDigit_1 : decode cX7_takesDigit 1 = .ok (.getfield 34, 3) := by decide +kernel
theorem dX7_takesDigit_4 : decode cX7_takesDigit 4 = .ok (.ifCond .eq 18, 3) := by decide +kernel
theorem dX7_takesDigit_7 : decode cX7_takesDigit 7 = .ok (.aload_n 0, 1) := by decide +kernel
theorem dX7_takesDigit_8 : decode cX7_takesDigit 8 = .ok (.getfield 34, 3) := by decide +kernel
theorem dX7_takesDigit_11 : decode cX7_takesDigit 11 = .ok (.iconst 4, 1) := by decide +kernel
theorem dX7_takesDigit_12 : decode cX7_takesDigit 12 = .ok (.if_icmp .ge 10, 3) := by decide +kernel
theorem dX7_takesDigit_15 : decode cX7_takesDigit 15 = .ok (.aload_n 0, 1) := by decide +kernel
theorem dX7_takesDigit_16 : decode cX7_takesDigit 16 = .ok (.getfield 18, 3) := by decide +kernel
theorem dX7_takesDigit_19 : decode cX7_takesDigit 19 = .ok (.ifCond .ne 5, 3) := by decide +kernel
theorem dX7_takesDigit_22 : decode cX7_takesDigit 22 = .ok (.iconst 0, 1) := by decide +kernel
theorem dX7_takesDigit_23 : decode cX7_takesDigit 23 = .ok (.ireturn, 1) := by decide +kernel
theorem dX7_takesDigit_24 : decode cX7_takesDigit 24 = .ok (.aload_n 0, 1) := by decide +kernel
theorem dX7_takesDigit_25 : decode cX7_takesDigit 25 = .ok (.dup, 1) := by decide +kernel
theorem dX7_takesDigit_26 : decode cX7_takesDigit 26 = .ok (.getfield 34, 3) := by decide +kernel
theorem dX7_takesDigit_29 : decode cX7_takesDigit 29 = .ok (.iconst 1, 1) := by decide +kernel
theorem dX7_takesDigit_30 : decode cX7_takesDigit 30 = .ok (.iadd, 1) := by decide +kernel
theorem dX7_takesDigit_31 : decode cX7_takesDigit 31 = .ok (.putfield 34, 3) := by decide +kernel
theorem dX7_takesDigit_34 : decode cX7_takesDigit 34 = .ok (.aload_n 0, 1) := by decide +kernel
theorem dX7_takesDigit_35 : decode cX7_takesDigit 35 = .ok (.getfield 9, 3) := by decide +kernel
theorem dX7_takesDigit_38 : decode cX7_takesDigit 38 = .ok (.aload_n 0, 1) := by decide +kernel
theorem dX7_takesDigit_39 : decode cX7_takesDigit 39 = .ok (.getfield 18, 3) := by decide +kernel
theorem dX7_takesDigit_42 : decode cX7_takesDigit 42 = .ok (.iconst 1, 1) := by decide +kernel
theorem dX7_takesDigit_43 : decode cX7_takesDigit 43 = .ok (.isub, 1) := by decide +kernel
theorem dX7_takesDigit_44 : decode cX7_takesDigit 44 = .ok (.aload_n 0, 1) := by decide +kernel
theorem dX7_takesDigit_45 : decode cX7_takesDigit 45 = .ok (.getfield 9, 3) := by decide +kernel
theorem dX7_takesDigit_48 : decode cX7_takesDigit 48 = .ok (.aload_n 0, 1) := by decide +kernel
theorem dX7_takesDigit_49 : decode cX7_takesDigit 49 = .ok (.getfield 18, 3) := by decide +kernel
theorem dX7_takesDigit_52 : decode cX7_takesDigit 52 = .ok (.iconst 1, 1) := by decide +kernel
theorem dX7_takesDigit_53 : decode cX7_takesDigit 53 = .ok (.isub, 1) := by decide +kernel
theorem dX7_takesDigit_54 : decode cX7_takesDigit 54 = .ok (.iaload, 1) := by decide +kernel
theorem dX7_takesDigit_55 : decode cX7_takesDigit 55 = .ok (.bipush 10, 2) := by decide +kernel
theorem dX7_takesDigit_57 : decode cX7_takesDigit 57 = .ok (.imul, 1) := by decide +kernel
theorem dX7_takesDigit_58 : decode cX7_takesDigit 58 = .ok (.iload_n 1, 1) := by decide +kernel
theorem dX7_takesDigit_59 : decode cX7_takesDigit 59 = .ok (.iadd, 1) := by decide +kernel
theorem dX7_takesDigit_60 : decode cX7_takesDigit 60 = .ok (.bipush 48, 2) := by decide +kernel
theorem dX7_takesDigit_62 : decode cX7_takesDigit 62 = .ok (.isub, 1) := by decide +kernel
theorem dX7_takesDigit_63 : decode cX7_takesDigit 63 = .ok (.iastore, 1) := by decide +kernel
theorem dX7_takesDigit_64 : decode cX7_takesDigit 64 = .ok (.iconst 1, 1) := by decide +kernel
theorem dX7_takesDigit_65 : decode cX7_takesDigit 65 = .ok (.ireturn, 1) := by decide +kernel
theorem dX7_takesClose_0 : decode cX7_takesClose 0 = .ok (.aload_n 0, 1) := by decide +kernel
theorem dX7_takesClose_1 : decode cX7_takesClose 1 = .ok (.iconst 0, 1) := by decide +kernel
theorem dX7_takesClose_2 : decode cX7_takesClose 2 = .ok (.invokevirtual 84, 3) := by decide +kernel
theorem dX7_takesClose_5 : decode cX7_takesClose 5 = .ok (.aload_n 0, 1) := by decide +kernel
theorem dX7_takesClose_6 : decode cX7_takesClose 6 = .ok (.getfield 28, 3) := by decide +kernel
theorem dX7_takesClose_9 : decode cX7_takesClose 9 = .ok (.ifCond .ne 5, 3) := by decide +kernel
theorem dX7_takesClose_12 : decode cX7_takesClose 12 = .ok (.iconst 0, 1) := by decide +kernel
theorem dX7_takesClose_13 : decode cX7_takesClose 13 = .ok (.ireturn, 1) := by decide +kernel
theorem dX7_takesClose_14 : decode cX7_takesClose 14 = .ok (.aload_n 0, 1) := by decide +kernel
theorem dX7_takesClose_15 : decode cX7_takesClose 15 = .ok (.dup, 1) := by decide +kernel
theorem dX7_takesClose_16 : decode cX7_takesClose 16 = .ok (.getfield 28, 3) := by decide +kernel
theorem dX7_takesClose_19 : decode cX7_takesClose 19 = .ok (.iconst 1, 1) := by decide +kernel
theorem dX7_takesClose_20 : decode cX7_takesClose 20 = .ok (.isub, 1) := by decide +kernel
theorem dX7_takesClose_21 : decode cX7_takesClose 21 = .ok (.putfield 28, 3) := by decide +kernel
theorem dX7_takesClose_24 : decode cX7_takesClose 24 = .ok (.aload_n 0, 1) := by decide +kernel
theorem dX7_takesClose_25 : decode cX7_takesClose 25 = .ok (.dup, 1) := by decide +kernel
theorem dX7_takesClose_26 : decode cX7_takesClose 26 = .ok (.getfield 31, 3) := by decide +kernel
theorem dX7_takesClose_29 : decode cX7_takesClose 29 = .ok (.iconst 1, 1) := by decide +kernel
theorem dX7_takesClose_30 : decode cX7_takesClose 30 = .ok (.isub, 1) := by decide +kernel
theorem dX7_takesClose_31 : decode cX7_takesClose 31 = .ok (.putfield 31, 3) := by decide +kernel
theorem dX7_takesClose_34 : decode cX7_takesClose 34 = .ok (.iconst 1, 1) := by decide +kernel
theorem dX7_takesClose_35 : decode cX7_takesClose 35 = .ok (.ireturn, 1) := by decide +kernel
theorem dX7_isComplete_0 : decode cX7_isComplete 0 = .ok (.aload_n 0, 1) := by decide +kernel
theorem dX7_isComplete_1 : decode cX7_isComplete 1 = .ok (.iconst 0, 1) := by decide +kernel
theorem dX7_isComplete_2 : decode cX7_isComplete 2 = .ok (.invokevirtual 84, 3) := by decide +kernel
theorem dX7_isComplete_5 : decode cX7_isComplete 5 = .ok (.aload_n 0, 1) := by decide +kernel
theorem dX7_isComplete_6 : decode cX7_isComplete 6 = .ok (.getfield 37, 3) := by decide +kernel
theorem dX7_isComplete_9 : decode cX7_isComplete 9 = .ok (.ifCond .ne 14, 3) := by decide +kernel
theorem dX7_isComplete_12 : decode cX7_isComplete 12 = .ok (.aload_n 0, 1) := by decide +kernel
theorem dX7_isComplete_13 : decode cX7_isComplete 13 = .ok (.getfield 28, 3) := by decide +kernel
theorem dX7_isComplete_16 : decode cX7_isComplete 16 = .ok (.ifCond .ne 7, 3) := by decide +kernel
theorem dX7_isComplete_19 : decode cX7_isComplete 19 = .ok (.iconst 1, 1) := by decide +kernel
theorem dX7_isComplete_20 : decode cX7_isComplete 20 = .ok (.goto 4, 3) := by decide +kernel
theorem dX7_isComplete_23 : decode cX7_isComplete 23 = .ok (.iconst 0, 1) := by decide +kernel
theorem dX7_isComplete_24 : decode cX7_isComplete 24 = .ok (.ireturn, 1) := by decide +kernel
theorem dX7_popAbove_0 : decode cX7_popAbove 0 = .ok (.aload_n 0, 1) := by decide +kernel
theorem dX7_popAbove_1 : decode cX7_popAbove 1 = .ok (.getfield 28, 3) := by decide +kernel
theorem dX7_popAbove_4 : decode cX7_popAbove 4 = .ok (.istore_n 2, 1) := by decide +kernel
theorem dX7_popAbove_5 : decode cX7_popAbove 5 = .ok (.iload_n 2, 1) := by decide +kernel
theorem dX7_popAbove_6 : decode cX7_popAbove 6 = .ok (.ifCond .le 28, 3) := by decide +kernel
theorem dX7_popAbove_9 : decode cX7_popAbove 9 = .ok (.aload_n 0, 1) := by decide +kernel
theorem dX7_popAbove_10 : decode cX7_popAbove 10 = .ok (.getfield 15, 3) := by decide +kernel
theorem dX7_popAbove_13 : decode cX7_popAbove 13 = .ok (.iload_n 2, 1) := by decide +kernel
theorem dX7_popAbove_14 : decode cX7_popAbove 14 = .ok (.iconst 1, 1) := by decide +kernel
theorem dX7_popAbove_15 : decode cX7_popAbove 15 = .ok (.isub, 1) := by decide +kernel
theorem dX7_popAbove_16 : decode cX7_popAbove 16 = .ok (.iaload, 1) := by decide +kernel
theorem dX7_popAbove_17 : decode cX7_popAbove 17 = .ok (.invokestatic 81, 3) := by decide +kernel
theorem dX7_popAbove_20 : decode cX7_popAbove 20 = .ok (.iload_n 1, 1) := by decide +kernel
theorem dX7_popAbove_21 : decode cX7_popAbove 21 = .ok (.if_icmp .le 13, 3) := by decide +kernel
theorem dX7_popAbove_24 : decode cX7_popAbove 24 = .ok (.aload_n 0, 1) := by decide +kernel
theorem dX7_popAbove_25 : decode cX7_popAbove 25 = .ok (.invokevirtual 87, 3) := by decide +kernel
theorem dX7_popAbove_28 : decode cX7_popAbove 28 = .ok (.iinc 2 (-1), 3) := by decide +kernel
theorem dX7_popAbove_31 : decode cX7_popAbove 31 = .ok (.goto (-26), 3) := by decide +kernel
theorem dX7_popAbove_34 : decode cX7_popAbove 34 = .ok (.return_, 1) := by decide +kernel
theorem dX7_pop_0 : decode cX7_pop 0 = .ok (.aload_n 0, 1) := by decide +kernel
theorem dX7_pop_1 : decode cX7_pop 1 = .ok (.getfield 28, 3) := by decide +kernel
theorem dX7_pop_4 : decode cX7_pop 4 = .ok (.ifCond .le 51, 3) := by decide +kernel
theorem dX7_pop_7 : decode cX7_pop 7 = .ok (.aload_n 0, 1) := by decide +kernel
theorem dX7_pop_8 : decode cX7_pop 8 = .ok (.dup, 1) := by decide +kernel
theorem dX7_pop_9 : decode cX7_pop 9 = .ok (.getfield 28, 3) := by decide +kernel
theorem dX7_pop_12 : decode cX7_pop 12 = .ok (.iconst 1, 1) := by decide +kernel
theorem dX7_pop_13 : decode cX7_pop 13 = .ok (.isub, 1) := by decide +kernel
theorem dX7_pop_14 : decode cX7_pop 14 = .ok (.putfield 28, 3) := by decide +kernel
theorem dX7_pop_17 : decode cX7_pop 17 = .ok (.aload_n 0, 1) := by decide +kernel
theorem dX7_pop_18 : decode cX7_pop 18 = .ok (.aload_n 0, 1) := by decide +kernel
theorem dX7_pop_19 : decode cX7_pop 19 = .ok (.getfield 15, 3) := by decide +kernel
theorem dX7_pop_22 : decode cX7_pop 22 = .ok (.aload_n 0, 1) := by decide +kernel
theorem dX7_pop_23 : decode cX7_pop 23 = .ok (.getfield 28, 3) := by decide +kernel
theorem dX7_pop_26 : decode cX7_pop 26 = .ok (.iaload, 1) := by decide +kernel
theorem dX7_pop_27 : decode cX7_pop 27 = .ok (.ineg, 1) := by decide +kernel
theorem dX7_pop_28 : decode cX7_pop 28 = .ok (.invokevirtual 66, 3) := by decide +kernel
theorem dX7_pop_31 : decode cX7_pop 31 = .ok (.aload_n 0, 1) := by decide +kernel
theorem dX7_pop_32 : decode cX7_pop 32 = .ok (.getfield 15, 3) := by decide +kernel
theorem dX7_pop_35 : decode cX7_pop 35 = .ok (.aload_n 0, 1) := by decide +kernel
theorem dX7_pop_36 : decode cX7_pop 36 = .ok (.getfield 28, 3) := by decide +kernel
theorem dX7_pop_39 : decode cX7_pop 39 = .ok (.iaload, 1) := by decide +kernel
theorem dX7_pop_40 : decode cX7_pop 40 = .ok (.bipush 33, 2) := by decide +kernel
theorem dX7_pop_42 : decode cX7_pop 42 = .ok (.if_icmp .ne 13, 3) := by decide +kernel
theorem dX7_pop_45 : decode cX7_pop 45 = .ok (.aload_n 0, 1) := by decide +kernel
theorem dX7_pop_46 : decode cX7_pop 46 = .ok (.dup, 1) := by decide +kernel
theorem dX7_pop_47 : decode cX7_pop 47 = .ok (.getfield 31, 3) := by decide +kernel
theorem dX7_pop_50 : decode cX7_pop 50 = .ok (.iconst 1, 1) := by decide +kernel
theorem dX7_pop_51 : decode cX7_pop 51 = .ok (.isub, 1) := by decide +kernel
theorem dX7_pop_52 : decode cX7_pop 52 = .ok (.putfield 31, 3) := by decide +kernel
theorem dX7_pop_55 : decode cX7_pop 55 = .ok (.return_, 1) := by decide +kernel
theorem dX7_push_0 : decode cX7_push 0 = .ok (.aload_n 0, 1) := by decide +kernel
theorem dX7_push_1 : decode cX7_push 1 = .ok (.getfield 28, 3) := by decide +kernel
theorem dX7_push_4 : decode cX7_push 4 = .ok (.aload_n 0, 1) := by decide +kernel
theorem dX7_push_5 : decode cX7_push 5 = .ok (.getfield 15, 3) := by decide +kernel
theorem dX7_push_8 : decode cX7_push 8 = .ok (.arraylength, 1) := by decide +kernel
theorem dX7_push_9 : decode cX7_push 9 = .ok (.if_icmp .ge 23, 3) := by decide +kernel
theorem dX7_push_12 : decode cX7_push 12 = .ok (.aload_n 0, 1) := by decide +kernel
theorem dX7_push_13 : decode cX7_push 13 = .ok (.getfield 15, 3) := by decide +kernel
theorem dX7_push_16 : decode cX7_push 16 = .ok (.aload_n 0, 1) := by decide +kernel
theorem dX7_push_17 : decode cX7_push 17 = .ok (.getfield 28, 3) := by decide +kernel
theorem dX7_push_20 : decode cX7_push 20 = .ok (.iload_n 1, 1) := by decide +kernel
theorem dX7_push_21 : decode cX7_push 21 = .ok (.iastore, 1) := by decide +kernel
theorem dX7_push_22 : decode cX7_push 22 = .ok (.aload_n 0, 1) := by decide +kernel
theorem dX7_push_23 : decode cX7_push 23 = .ok (.dup, 1) := by decide +kernel
theorem dX7_push_24 : decode cX7_push 24 = .ok (.getfield 28, 3) := by decide +kernel
theorem dX7_push_27 : decode cX7_push 27 = .ok (.iconst 1, 1) := by decide +kernel
theorem dX7_push_28 : decode cX7_push 28 = .ok (.iadd, 1) := by decide +kernel
theorem dX7_push_29 : decode cX7_push 29 = .ok (.putfield 28, 3) := by decide +kernel
theorem dX7_push_32 : decode cX7_push 32 = .ok (.return_, 1) := by decide +kernel
theorem dX7_append_0 : decode cX7_append 0 = .ok (.aload_n 0, 1) := by decide +kernel
theorem dX7_append_1 : decode cX7_append 1 = .ok (.getfield 18, 3) := by decide +kernel
theorem dX7_append_4 : decode cX7_append 4 = .ok (.aload_n 0, 1) := by decide +kernel
theorem dX7_append_5 : decode cX7_append 5 = .ok (.getfield 9, 3) := by decide +kernel
theorem dX7_append_8 : decode cX7_append 8 = .ok (.arraylength, 1) := by decide +kernel
theorem dX7_append_9 : decode cX7_append 9 = .ok (.if_icmp .ge 23, 3) := by decide +kernel
theorem dX7_append_12 : decode cX7_append 12 = .ok (.aload_n 0, 1) := by decide +kernel
theorem dX7_append_13 : decode cX7_append 13 = .ok (.getfield 9, 3) := by decide +kernel
theorem dX7_append_16 : decode cX7_append 16 = .ok (.aload_n 0, 1) := by decide +kernel
theorem dX7_append_17 : decode cX7_append 17 = .ok (.getfield 18, 3) := by decide +kernel
theorem dX7_append_20 : decode cX7_append 20 = .ok (.iload_n 1, 1) := by decide +kernel
theorem dX7_append_21 : decode cX7_append 21 = .ok (.iastore, 1) := by decide +kernel
theorem dX7_append_22 : decode cX7_append 22 = .ok (.aload_n 0, 1) := by decide +kernel
theorem dX7_append_23 : decode cX7_append 23 = .ok (.dup, 1) := by decide +kernel
theorem dX7_append_24 : decode cX7_append 24 = .ok (.getfield 18, 3) := by decide +kernel
theorem dX7_append_27 : decode cX7_append 27 = .ok (.iconst 1, 1) := by decide +kernel
theorem dX7_append_28 : decode cX7_append 28 = .ok (.iadd, 1) := by decide +kernel
theorem dX7_append_29 : decode cX7_append 29 = .ok (.putfield 18, 3) := by decide +kernel
theorem dX7_append_32 : decode cX7_append 32 = .ok (.return_, 1) := by decide +kernel
theorem dX7_value_0 : decode cX7_value 0 = .ok (.aload_n 0, 1) := by decide +kernel
theorem dX7_value_1 : decode cX7_value 1 = .ok (.iconst 0, 1) := by decide +kernel
theorem dX7_value_2 : decode cX7_value 2 = .ok (.putfield 28, 3) := by decide +kernel
theorem dX7_value_5 : decode cX7_value 5 = .ok (.iconst 0, 1) := by decide +kernel
theorem dX7_value_6 : decode cX7_value 6 = .ok (.istore 4, 2) := by decide +kernel
theorem dX7_value_8 : decode cX7_value 8 = .ok (.iload 4, 2) := by decide +kernel
theorem dX7_value_10 : decode cX7_value 10 = .ok (.aload_n 0, 1) := by decide +kernel
theorem dX7_value_11 : decode cX7_value 11 = .ok (.getfield 18, 3) := by decide +kernel
theorem dX7_value_14 : decode cX7_value 14 = .ok (.if_icmp .ge 173, 3) := by decide +kernel
theorem dX7_value_17 : decode cX7_value 17 = .ok (.aload_n 0, 1) := by decide +kernel
theorem dX7_value_18 : decode cX7_value 18 = .ok (.getfield 9, 3) := by decide +kernel
theorem dX7_value_21 : decode cX7_value 21 = .ok (.iload 4, 2) := by decide +kernel
theorem dX7_value_23 : decode cX7_value 23 = .ok (.iaload, 1) := by decide +kernel
theorem dX7_value_24 : decode cX7_value 24 = .ok (.istore 5, 2) := by decide +kernel
theorem dX7_value_26 : decode cX7_value 26 = .ok (.iload 5, 2) := by decide +kernel
theorem dX7_value_28 : decode cX7_value 28 = .ok (.ifCond .lt 12, 3) := by decide +kernel
theorem dX7_value_31 : decode cX7_value 31 = .ok (.aload_n 0, 1) := by decide +kernel
theorem dX7_value_32 : decode cX7_value 32 = .ok (.iload 5, 2) := by decide +kernel
theorem dX7_value_34 : decode cX7_value 34 = .ok (.invokevirtual 59, 3) := by decide +kernel
theorem dX7_value_37 : decode cX7_value 37 = .ok (.goto 144, 3) := by decide +kernel
theorem dX7_value_40 : decode cX7_value 40 = .ok (.iload 5, 2) := by decide +kernel
theorem dX7_value_42 : decode cX7_value 42 = .ok (.bipush (-3), 2) := by decide +kernel
theorem dX7_value_44 : decode cX7_value 44 = .ok (.if_icmp .lt 32, 3) := by decide +kernel
theorem dX7_value_47 : decode cX7_value 47 = .ok (.aload_n 0, 1) := by decide +kernel
theorem dX7_value_48 : decode cX7_value 48 = .ok (.iload 5, 2) := by decide +kernel
theorem dX7_value_50 : decode cX7_value 50 = .ok (.iconst (-1), 1) := by decide +kernel
theorem dX7_value_51 : decode cX7_value 51 = .ok (.if_icmp .ne 7, 3) := by decide +kernel
theorem dX7_value_54 : decode cX7_value 54 = .ok (.iload_n 1, 1) := by decide +kernel
theorem dX7_value_55 : decode cX7_value 55 = .ok (.goto 15, 3) := by decide +kernel
theorem dX7_value_58 : decode cX7_value 58 = .ok (.iload 5, 2) := by decide +kernel
theorem dX7_value_60 : decode cX7_value 60 = .ok (.bipush (-2), 2) := by decide +kernel
theorem dX7_value_62 : decode cX7_value 62 = .ok (.if_icmp .ne 7, 3) := by decide +kernel
theorem dX7_value_65 : decode cX7_value 65 = .ok (.iload_n 2, 1) := by decide +kernel
theorem dX7_value_66 : decode cX7_value 66 = .ok (.goto 4, 3) := by decide +kernel
theorem dX7_value_69 : decode cX7_value 69 = .ok (.iload_n 3, 1) := by decide +kernel
theorem dX7_value_70 : decode cX7_value 70 = .ok (.invokevirtual 59, 3) := by decide +kernel
theorem dX7_value_73 : decode cX7_value 73 = .ok (.goto 108, 3) := by decide +kernel
theorem dX7_value_76 : decode cX7_value 76 = .ok (.iload 5, 2) := by decide +kernel
theorem dX7_value_78 : decode cX7_value 78 = .ok (.bipush (-33), 2) := by decide +kernel
theorem dX7_value_80 : decode cX7_value 80 = .ok (.if_icmp .ne 46, 3) := by decide +kernel
theorem dX7_value_83 : decode cX7_value 83 = .ok (.aload_n 0, 1) := by decide +kernel
theorem dX7_value_84 : decode cX7_value 84 = .ok (.getfield 28, 3) := by decide +kernel
theorem dX7_value_87 : decode cX7_value 87 = .ok (.ifCond .le 39, 3) := by decide +kernel
theorem dX7_value_90 : decode cX7_value 90 = .ok (.aload_n 0, 1) := by decide +kernel
theorem dX7_value_91 : decode cX7_value 91 = .ok (.getfield 15, 3) := by decide +kernel
theorem dX7_value_94 : decode cX7_value 94 = .ok (.aload_n 0, 1) := by decide +kernel
theorem dX7_value_95 : decode cX7_value 95 = .ok (.getfield 28, 3) := by decide +kernel
theorem dX7_value_98 : decode cX7_value 98 = .ok (.iconst 1, 1) := by decide +kernel
theorem dX7_value_99 : decode cX7_value 99 = .ok (.isub, 1) := by decide +kernel
theorem dX7_value_100 : decode cX7_value 100 = .ok (.aload_n 0, 1) := by decide +kernel
theorem dX7_value_101 : decode cX7_value 101 = .ok (.getfield 15, 3) := by decide +kernel
theorem dX7_value_104 : decode cX7_value 104 = .ok (.aload_n 0, 1) := by decide +kernel
theorem dX7_value_105 : decode cX7_value 105 = .ok (.getfield 28, 3) := by decide +kernel
theorem dX7_value_108 : decode cX7_value 108 = .ok (.iconst 1, 1) := by decide +kernel
theorem dX7_value_109 : decode cX7_value 109 = .ok (.isub, 1) := by decide +kernel
theorem dX7_value_110 : decode cX7_value 110 = .ok (.iaload, 1) := by decide +kernel
theorem dX7_value_111 : decode cX7_value 111 = .ok (.ifCond .ne 7, 3) := by decide +kernel
theorem dX7_value_114 : decode cX7_value 114 = .ok (.iconst 1, 1) := by decide +kernel
theorem dX7_value_115 : decode cX7_value 115 = .ok (.goto 4, 3) := by decide +kernel
theorem dX7_value_118 : decode cX7_value 118 = .ok (.iconst 0, 1) := by decide +kernel
theorem dX7_value_119 : decode cX7_value 119 = .ok (.invokestatic 90, 3) := by decide +kernel
theorem dX7_value_122 : decode cX7_value 122 = .ok (.iastore, 1) := by decide +kernel
theorem dX7_value_123 : decode cX7_value 123 = .ok (.goto 58, 3) := by decide +kernel
theorem dX7_value_126 : decode cX7_value 126 = .ok (.aload_n 0, 1) := by decide +kernel
theorem dX7_value_127 : decode cX7_value 127 = .ok (.getfield 28, 3) := by decide +kernel
theorem dX7_value_130 : decode cX7_value 130 = .ok (.iconst 1, 1) := by decide +kernel
theorem dX7_value_131 : decode cX7_value 131 = .ok (.if_icmp .le 50, 3) := by decide +kernel
theorem dX7_value_134 : decode cX7_value 134 = .ok (.aload_n 0, 1) := by decide +kernel
theorem dX7_value_135 : decode cX7_value 135 = .ok (.dup, 1) := by decide +kernel
theorem dX7_value_136 : decode cX7_value 136 = .ok (.getfield 28, 3) := by decide +kernel
theorem dX7_value_139 : decode cX7_value 139 = .ok (.iconst 1, 1) := by decide +kernel
theorem dX7_value_140 : decode cX7_value 140 = .ok (.isub, 1) := by decide +kernel
theorem dX7_value_141 : decode cX7_value 141 = .ok (.putfield 28, 3) := by decide +kernel
theorem dX7_value_144 : decode cX7_value 144 = .ok (.aload_n 0, 1) := by decide +kernel
theorem dX7_value_145 : decode cX7_value 145 = .ok (.getfield 15, 3) := by decide +kernel
theorem dX7_value_148 : decode cX7_value 148 = .ok (.aload_n 0, 1) := by decide +kernel
theorem dX7_value_149 : decode cX7_value 149 = .ok (.getfield 28, 3) := by decide +kernel
theorem dX7_value_152 : decode cX7_value 152 = .ok (.iconst 1, 1) := by decide +kernel
theorem dX7_value_153 : decode cX7_value 153 = .ok (.isub, 1) := by decide +kernel
theorem dX7_value_154 : decode cX7_value 154 = .ok (.iload 5, 2) := by decide +kernel
theorem dX7_value_156 : decode cX7_value 156 = .ok (.ineg, 1) := by decide +kernel
theorem dX7_value_157 : decode cX7_value 157 = .ok (.aload_n 0, 1) := by decide +kernel
theorem dX7_value_158 : decode cX7_value 158 = .ok (.getfield 15, 3) := by decide +kernel
theorem dX7_value_161 : decode cX7_value 161 = .ok (.aload_n 0, 1) := by decide +kernel
theorem dX7_value_162 : decode cX7_value 162 = .ok (.getfield 28, 3) := by decide +kernel
theorem dX7_value_165 : decode cX7_value 165 = .ok (.iconst 1, 1) := by decide +kernel
theorem dX7_value_166 : decode cX7_value 166 = .ok (.isub, 1) := by decide +kernel
theorem dX7_value_167 : decode cX7_value 167 = .ok (.iaload, 1) := by decide +kernel
theorem dX7_value_168 : decode cX7_value 168 = .ok (.aload_n 0, 1) := by decide +kernel
theorem dX7_value_169 : decode cX7_value 169 = .ok (.getfield 15, 3) := by decide +kernel
theorem dX7_value_172 : decode cX7_value 172 = .ok (.aload_n 0, 1) := by decide +kernel
theorem dX7_value_173 : decode cX7_value 173 = .ok (.getfield 28, 3) := by decide +kernel
theorem dX7_value_176 : decode cX7_value 176 = .ok (.iaload, 1) := by decide +kernel
theorem dX7_value_177 : decode cX7_value 177 = .ok (.invokestatic 94, 3) := by decide +kernel
theorem dX7_value_180 : decode cX7_value 180 = .ok (.iastore, 1) := by decide +kernel
theorem dX7_value_181 : decode cX7_value 181 = .ok (.iinc 4 1, 3) := by decide +kernel
theorem dX7_value_184 : decode cX7_value 184 = .ok (.goto (-176), 3) := by decide +kernel
theorem dX7_value_187 : decode cX7_value 187 = .ok (.aload_n 0, 1) := by decide +kernel
theorem dX7_value_188 : decode cX7_value 188 = .ok (.getfield 28, 3) := by decide +kernel
theorem dX7_value_191 : decode cX7_value 191 = .ok (.ifCond .le 17, 3) := by decide +kernel
theorem dX7_value_194 : decode cX7_value 194 = .ok (.aload_n 0, 1) := by decide +kernel
theorem dX7_value_195 : decode cX7_value 195 = .ok (.getfield 15, 3) := by decide +kernel
theorem dX7_value_198 : decode cX7_value 198 = .ok (.aload_n 0, 1) := by decide +kernel
theorem dX7_value_199 : decode cX7_value 199 = .ok (.getfield 28, 3) := by decide +kernel
theorem dX7_value_202 : decode cX7_value 202 = .ok (.iconst 1, 1) := by decide +kernel
theorem dX7_value_203 : decode cX7_value 203 = .ok (.isub, 1) := by decide +kernel
theorem dX7_value_204 : decode cX7_value 204 = .ok (.iaload, 1) := by decide +kernel
theorem dX7_value_205 : decode cX7_value 205 = .ok (.goto 4, 3) := by decide +kernel
theorem dX7_value_208 : decode cX7_value 208 = .ok (.iconst 0, 1) := by decide +kernel
theorem dX7_value_209 : decode cX7_value 209 = .ok (.ireturn, 1) := by decide +kernel
theorem dX7_result_0 : decode cX7_result 0 = .ok (.iload_n 0, 1) := by decide +kernel
theorem dX7_result_1 : decode cX7_result 1 = .ok (.lookupswitch 177 #[(38, 100), (42, 167), (43, 159), (45, 163), (47, 171), (60, 117), (61, 131), (62, 145), (124, 83)], 83) := by decide +kernel
theorem dX7_result_84 : decode cX7_result 84 = .ok (.iload_n 1, 1) := by decide +kernel
theorem dX7_result_85 : decode cX7_result 85 = .ok (.ifCond .ne 7, 3) := by decide +kernel
theorem dX7_result_88 : decode cX7_result 88 = .ok (.iload_n 2, 1) := by decide +kernel
theorem dX7_result_89 : decode cX7_result 89 = .ok (.ifCond .eq 7, 3) := by decide +kernel
theorem dX7_result_92 : decode cX7_result 92 = .ok (.iconst 1, 1) := by decide +kernel
theorem dX7_result_93 : decode cX7_result 93 = .ok (.goto 4, 3) := by decide +kernel
theorem dX7_result_96 : decode cX7_result 96 = .ok (.iconst 0, 1) := by decide +kernel
theorem dX7_result_97 : decode cX7_result 97 = .ok (.invokestatic 90, 3) := by decide +kernel
theorem dX7_result_100 : decode cX7_result 100 = .ok (.ireturn, 1) := by decide +kernel
theorem dX7_result_101 : decode cX7_result 101 = .ok (.iload_n 1, 1) := by decide +kernel
theorem dX7_result_102 : decode cX7_result 102 = .ok (.ifCond .eq 11, 3) := by decide +kernel
theorem dX7_result_105 : decode cX7_result 105 = .ok (.iload_n 2, 1) := by decide +kernel
theorem dX7_result_106 : decode cX7_result 106 = .ok (.ifCond .eq 7, 3) := by decide +kernel
theorem dX7_result_109 : decode cX7_result 109 = .ok (.iconst 1, 1) := by decide +kernel
theorem dX7_result_110 : decode cX7_result 110 = .ok (.goto 4, 3) := by decide +kernel
theorem dX7_result_113 : decode cX7_result 113 = .ok (.iconst 0, 1) := by decide +kernel
theorem dX7_result_114 : decode cX7_result 114 = .ok (.invokestatic 90, 3) := by decide +kernel
theorem dX7_result_117 : decode cX7_result 117 = .ok (.ireturn, 1) := by decide +kernel
theorem dX7_result_118 : decode cX7_result 118 = .ok (.iload_n 1, 1) := by decide +kernel
theorem dX7_result_119 : decode cX7_result 119 = .ok (.iload_n 2, 1) := by decide +kernel
theorem dX7_result_120 : decode cX7_result 120 = .ok (.if_icmp .ge 7, 3) := by decide +kernel
theorem dX7_result_123 : decode cX7_result 123 = .ok (.iconst 1, 1) := by decide +kernel
theorem dX7_result_124 : decode cX7_result 124 = .ok (.goto 4, 3) := by decide +kernel
theorem dX7_result_127 : decode cX7_result 127 = .ok (.iconst 0, 1) := by decide +kernel
theorem dX7_result_128 : decode cX7_result 128 = .ok (.invokestatic 90, 3) := by decide +kernel
theorem dX7_result_131 : decode cX7_result 131 = .ok (.ireturn, 1) := by decide +kernel
theorem dX7_result_132 : decode cX7_result 132 = .ok (.iload_n 1, 1) := by decide +kernel
theorem dX7_result_133 : decode cX7_result 133 = .ok (.iload_n 2, 1) := by decide +kernel
theorem dX7_result_134 : decode cX7_result 134 = .ok (.if_icmp .ne 7, 3) := by decide +kernel
theorem dX7_result_137 : decode cX7_result 137 = .ok (.iconst 1, 1) := by decide +kernel
theorem dX7_result_138 : decode cX7_result 138 = .ok (.goto 4, 3) := by decide +kernel
theorem dX7_result_141 : decode cX7_result 141 = .ok (.iconst 0, 1) := by decide +kernel
theorem dX7_result_142 : decode cX7_result 142 = .ok (.invokestatic 90, 3) := by decide +kernel
theorem dX7_result_145 : decode cX7_result 145 = .ok (.ireturn, 1) := by decide +kernel
theorem dX7_result_146 : decode cX7_result 146 = .ok (.iload_n 1, 1) := by decide +kernel
theorem dX7_result_147 : decode cX7_result 147 = .ok (.iload_n 2, 1) := by decide +kernel
theorem dX7_result_148 : decode cX7_result 148 = .ok (.if_icmp .le 7, 3) := by decide +kernel
theorem dX7_result_151 : decode cX7_result 151 = .ok (.iconst 1, 1) := by decide +kernel
theorem dX7_result_152 : decode cX7_result 152 = .ok (.goto 4, 3) := by decide +kernel
theorem dX7_result_155 : decode cX7_result 155 = .ok (.iconst 0, 1) := by decide +kernel
theorem dX7_result_156 : decode cX7_result 156 = .ok (.invokestatic 90, 3) := by decide +kernel
theorem dX7_result_159 : decode cX7_result 159 = .ok (.ireturn, 1) := by decide +kernel
theorem dX7_result_160 : decode cX7_result 160 = .ok (.iload_n 1, 1) := by decide +kernel
theorem dX7_result_161 : decode cX7_result 161 = .ok (.iload_n 2, 1) := by decide +kernel
theorem dX7_result_162 : decode cX7_result 162 = .ok (.iadd, 1) := by decide +kernel
theorem dX7_result_163 : decode cX7_result 163 = .ok (.ireturn, 1) := by decide +kernel
theorem dX7_result_164 : decode cX7_result 164 = .ok (.iload_n 1, 1) := by decide +kernel
theorem dX7_result_165 : decode cX7_result 165 = .ok (.iload_n 2, 1) := by decide +kernel
theorem dX7_result_166 : decode cX7_result 166 = .ok (.isub, 1) := by decide +kernel
theorem dX7_result_167 : decode cX7_result 167 = .ok (.ireturn, 1) := by decide +kernel
theorem dX7_result_168 : decode cX7_result 168 = .ok (.iload_n 1, 1) := by decide +kernel
theorem dX7_result_169 : decode cX7_result 169 = .ok (.iload_n 2, 1) := by decide +kernel
theorem dX7_result_170 : decode cX7_result 170 = .ok (.imul, 1) := by decide +kernel
theorem dX7_result_171 : decode cX7_result 171 = .ok (.ireturn, 1) := by decide +kernel
theorem dX7_result_172 : decode cX7_result 172 = .ok (.iload_n 1, 1) := by decide +kernel
theorem dX7_result_173 : decode cX7_result 173 = .ok (.iload_n 2, 1) := by decide +kernel
theorem dX7_result_174 : decode cX7_result 174 = .ok (.invokestatic 98, 3) := by decide +kernel
theorem dX7_result_177 : decode cX7_result 177 = .ok (.ireturn, 1) := by decide +kernel
theorem dX7_result_178 : decode cX7_result 178 = .ok (.iload_n 2, 1) := by decide +kernel
theorem dX7_result_179 : decode cX7_result 179 = .ok (.ifCond .ne 7, 3) := by decide +kernel
theorem dX7_result_182 : decode cX7_result 182 = .ok (.iconst 0, 1) := by decide +kernel
theorem dX7_result_183 : decode cX7_result 183 = .ok (.goto 6, 3) := by decide +kernel
theorem dX7_result_186 : decode cX7_result 186 = .ok (.iload_n 1, 1) := by decide +kernel
theorem dX7_result_187 : decode cX7_result 187 = .ok (.iload_n 2, 1) := by decide +kernel
theorem dX7_result_188 : decode cX7_result 188 = .ok (.irem, 1) := by decide +kernel
theorem dX7_result_189 : decode cX7_result 189 = .ok (.ireturn, 1) := by decide +kernel
theorem dX7_rank_0 : decode cX7_rank 0 = .ok (.iload_n 0, 1) := by decide +kernel
theorem dX7_rank_1 : decode cX7_rank 1 = .ok (.lookupswitch 112 #[(33, 109), (37, 107), (38, 101), (42, 107), (43, 105), (45, 105), (47, 107), (60, 103), (61, 103), (62, 103), (124, 99)], 99) := by decide +kernel
theorem dX7_rank_100 : decode cX7_rank 100 = .ok (.iconst 1, 1) := by decide +kernel
theorem dX7_rank_101 : decode cX7_rank 101 = .ok (.ireturn, 1) := by decide +kernel
theorem dX7_rank_102 : decode cX7_rank 102 = .ok (.iconst 2, 1) := by decide +kernel
theorem dX7_rank_103 : decode cX7_rank 103 = .ok (.ireturn, 1) := by decide +kernel
theorem dX7_rank_104 : decode cX7_rank 104 = .ok (.iconst 3, 1) := by decide +kernel
theorem dX7_rank_105 : decode cX7_rank 105 = .ok (.ireturn, 1) := by decide +kernel
theorem dX7_rank_106 : decode cX7_rank 106 = .ok (.iconst 4, 1) := by decide +kernel
theorem dX7_rank_107 : decode cX7_rank 107 = .ok (.ireturn, 1) := by decide +kernel
theorem dX7_rank_108 : decode cX7_rank 108 = .ok (.iconst 5, 1) := by decide +kernel
theorem dX7_rank_109 : decode cX7_rank 109 = .ok (.ireturn, 1) := by decide +kernel
theorem dX7_rank_110 : decode cX7_rank 110 = .ok (.bipush 6, 2) := by decide +kernel
theorem dX7_rank_112 : decode cX7_rank 112 = .ok (.ireturn, 1) := by decide +kernel
theorem dX7_rank_113 : decode cX7_rank 113 = .ok (.iconst 0, 1) := by decide +kernel
theorem dX7_rank_114 : decode cX7_rank 114 = .ok (.ireturn, 1) := by decide +kernel
theorem dX7_isDigit_0 : decode cX7_isDigit 0 = .ok (.iload_n 0, 1) := by decide +kernel
theorem dX7_isDigit_1 : decode cX7_isDigit 1 = .ok (.bipush 48, 2) := by decide +kernel
theorem dX7_isDigit_3 : decode cX7_isDigit 3 = .ok (.if_icmp .lt 13, 3) := by decide +kernel
theorem dX7_isDigit_6 : decode cX7_isDigit 6 = .ok (.iload_n 0, 1) := by decide +kernel
theorem dX7_isDigit_7 : decode cX7_isDigit 7 = .ok (.bipush 57, 2) := by decide +kernel
theorem dX7_isDigit_9 : decode cX7_isDigit 9 = .ok (.if_icmp .gt 7, 3) := by decide +kernel
theorem dX7_isDigit_12 : decode cX7_isDigit 12 = .ok (.iconst 1, 1) := by decide +kernel
theorem dX7_isDigit_13 : decode cX7_isDigit 13 = .ok (.goto 4, 3) := by decide +kernel
theorem dX7_isDigit_16 : decode cX7_isDigit 16 = .ok (.iconst 0, 1) := by decide +kernel
theorem dX7_isDigit_17 : decode cX7_isDigit 17 = .ok (.ireturn, 1) := by decide +kernel
theorem dX8_init_0 : decode cX8_init 0 = .ok (.aload_n 0, 1) := by decide +kernel
theorem dX8_init_1 : decode cX8_init 1 = .ok (.iconst 1, 1) := by decide +kernel
theorem dX8_init_2 : decode cX8_init 2 = .ok (.iload_n 1, 1) := by decide +kernel
theorem dX8_init_3 : decode cX8_init 3 = .ok (.iload_n 2, 1) := by decide +kernel
theorem dX8_init_4 : decode cX8_init 4 = .ok (.invokespecial 3, 3) := by decide +kernel
theorem dX8_init_7 : decode cX8_init 7 = .ok (.return_, 1) := by decide +kernel
theorem dX8_widens_0 : decode cX8_widens 0 = .ok (.aload_n 0, 1) := by decide +kernel
theorem dX8_widens_1 : decode cX8_widens 1 = .ok (.aload_n 1, 1) := by decide +kernel
theorem dX8_widens_2 : decode cX8_widens 2 = .ok (.aload_n 2, 1) := by decide +kernel
theorem dX8_widens_3 : decode cX8_widens 3 = .ok (.invokespecial 9, 3) := by decide +kernel
theorem dX8_widens_6 : decode cX8_widens 6 = .ok (.istore_n 3, 1) := by decide +kernel
theorem dX8_widens_7 : decode cX8_widens 7 = .ok (.aload_n 1, 1) := by decide +kernel
theorem dX8_widens_8 : decode cX8_widens 8 = .ok (.aload_n 2, 1) := by decide +kernel
theorem dX8_widens_9 : decode cX8_widens 9 = .ok (.invokevirtual 13, 3) := by decide +kernel
theorem dX8_widens_12 : decode cX8_widens 12 = .ok (.aload_n 1, 1) := by decide +kernel
theorem dX8_widens_13 : decode cX8_widens 13 = .ok (.getfield 19, 3) := by decide +kernel
theorem dX8_widens_16 : decode cX8_widens 16 = .ok (.aload_n 2, 1) := by decide +kernel
theorem dX8_widens_17 : decode cX8_widens 17 = .ok (.getfield 19, 3) := by decide +kernel
theorem dX8_widens_20 : decode cX8_widens 20 = .ok (.iadd, 1) := by decide +kernel
theorem dX8_widens_21 : decode cX8_widens 21 = .ok (.if_icmp .ge 9, 3) := by decide +kernel
theorem dX8_widens_24 : decode cX8_widens 24 = .ok (.iconst 2, 1) := by decide +kernel
theorem dX8_widens_25 : decode cX8_widens 25 = .ok (.iload_n 3, 1) := by decide +kernel
theorem dX8_widens_26 : decode cX8_widens 26 = .ok (.imul, 1) := by decide +kernel
theorem dX8_widens_27 : decode cX8_widens 27 = .ok (.goto 4, 3) := by decide +kernel
theorem dX8_widens_30 : decode cX8_widens 30 = .ok (.iload_n 3, 1) := by decide +kernel
theorem dX8_widens_31 : decode cX8_widens 31 = .ok (.ireturn, 1) := by decide +kernel
theorem dX8_moves_0 : decode cX8_moves 0 = .ok (.aload_n 2, 1) := by decide +kernel
theorem dX8_moves_1 : decode cX8_moves 1 = .ok (.bipush 20, 2) := by decide +kernel
theorem dX8_moves_3 : decode cX8_moves 3 = .ok (.invokevirtual 23, 3) := by decide +kernel
theorem dX8_moves_6 : decode cX8_moves 6 = .ok (.aload_n 0, 1) := by decide +kernel
theorem dX8_moves_7 : decode cX8_moves 7 = .ok (.iload_n 1, 1) := by decide +kernel
theorem dX8_moves_8 : decode cX8_moves 8 = .ok (.aload_n 2, 1) := by decide +kernel
theorem dX8_moves_9 : decode cX8_moves 9 = .ok (.invokespecial 29, 3) := by decide +kernel
theorem dX8_moves_12 : decode cX8_moves 12 = .ok (.aload_n 0, 1) := by decide +kernel
theorem dX8_moves_13 : decode cX8_moves 13 = .ok (.iconst 1, 1) := by decide +kernel
theorem dX8_moves_14 : decode cX8_moves 14 = .ok (.aload_n 2, 1) := by decide +kernel
theorem dX8_moves_15 : decode cX8_moves 15 = .ok (.invokevirtual 33, 3) := by decide +kernel
theorem dX8_moves_18 : decode cX8_moves 18 = .ok (.isub, 1) := by decide +kernel
theorem dX8_moves_19 : decode cX8_moves 19 = .ok (.ireturn, 1) := by decide +kernel
theorem dX9_init_0 : decode cX9_init 0 = .ok (.aload_n 0, 1) := by decide +kernel
theorem dX9_init_1 : decode cX9_init 1 = .ok (.iconst 4, 1) := by decide +kernel
theorem dX9_init_2 : decode cX9_init 2 = .ok (.iload_n 1, 1) := by decide +kernel
theorem dX9_init_3 : decode cX9_init 3 = .ok (.iload_n 2, 1) := by decide +kernel
theorem dX9_init_4 : decode cX9_init 4 = .ok (.invokespecial 3, 3) := by decide +kernel
theorem dX9_init_7 : decode cX9_init 7 = .ok (.return_, 1) := by decide +kernel
theorem dX9_endsBy_0 : decode cX9_endsBy 0 = .ok (.aload_n 1, 1) := by decide +kernel
theorem dX9_endsBy_1 : decode cX9_endsBy 1 = .ok (.getfield 9, 3) := by decide +kernel
theorem dX9_endsBy_4 : decode cX9_endsBy 4 = .ok (.sipush 150, 3) := by decide +kernel
theorem dX9_endsBy_7 : decode cX9_endsBy 7 = .ok (.if_icmp .lt 15, 3) := by decide +kernel
theorem dX9_endsBy_10 : decode cX9_endsBy 10 = .ok (.aload_n 1, 1) := by decide +kernel
theorem dX9_endsBy_11 : decode cX9_endsBy 11 = .ok (.aload_n 2, 1) := by decide +kernel
theorem dX9_endsBy_12 : decode cX9_endsBy 12 = .ok (.invokevirtual 15, 3) := by decide +kernel
theorem dX9_endsBy_15 : decode cX9_endsBy 15 = .ok (.ifCond .eq 7, 3) := by decide +kernel
theorem dX9_endsBy_18 : decode cX9_endsBy 18 = .ok (.iconst 1, 1) := by decide +kernel
theorem dX9_endsBy_19 : decode cX9_endsBy 19 = .ok (.goto 4, 3) := by decide +kernel
theorem dX9_endsBy_22 : decode cX9_endsBy 22 = .ok (.iconst 0, 1) := by decide +kernel
theorem dX9_endsBy_23 : decode cX9_endsBy 23 = .ok (.ireturn, 1) := by decide +kernel
theorem dX9_goes_0 : decode cX9_goes 0 = .ok (.aload_n 2, 1) := by decide +kernel
theorem dX9_goes_1 : decode cX9_goes 1 = .ok (.bipush 50, 2) := by decide +kernel
theorem dX9_goes_3 : decode cX9_goes 3 = .ok (.invokevirtual 19, 3) := by decide +kernel
theorem dX9_goes_6 : decode cX9_goes 6 = .ok (.aload_n 0, 1) := by decide +kernel
theorem dX9_goes_7 : decode cX9_goes 7 = .ok (.iload_n 1, 1) := by decide +kernel
theorem dX9_goes_8 : decode cX9_goes 8 = .ok (.iconst 1, 1) := by decide +kernel
theorem dX9_goes_9 : decode cX9_goes 9 = .ok (.iadd, 1) := by decide +kernel
theorem dX9_goes_10 : decode cX9_goes 10 = .ok (.aload_n 2, 1) := by decide +kernel
theorem dX9_goes_11 : decode cX9_goes 11 = .ok (.invokespecial 25, 3) := by decide +kernel
theorem dX9_goes_14 : decode cX9_goes 14 = .ok (.ireturn, 1) := by decide +kernel
theorem dX9_tells_0 : decode cX9_tells 0 = .ok (.aload_n 2, 1) := by decide +kernel
theorem dX9_tells_1 : decode cX9_tells 1 = .ok (.bipush 51, 2) := by decide +kernel
theorem dX9_tells_3 : decode cX9_tells 3 = .ok (.invokevirtual 19, 3) := by decide +kernel
theorem dX9_tells_6 : decode cX9_tells 6 = .ok (.aload_n 0, 1) := by decide +kernel
theorem dX9_tells_7 : decode cX9_tells 7 = .ok (.iload_n 1, 1) := by decide +kernel
theorem dX9_tells_8 : decode cX9_tells 8 = .ok (.aload_n 2, 1) := by decide +kernel
theorem dX9_tells_9 : decode cX9_tells 9 = .ok (.invokespecial 29, 3) := by decide +kernel
theorem dX9_tells_12 : decode cX9_tells 12 = .ok (.aload_n 0, 1) := by decide +kernel
theorem dX9_tells_13 : decode cX9_tells 13 = .ok (.iconst 2, 1) := by decide +kernel
theorem dX9_tells_14 : decode cX9_tells 14 = .ok (.aload_n 2, 1) := by decide +kernel
theorem dX9_tells_15 : decode cX9_tells 15 = .ok (.invokevirtual 32, 3) := by decide +kernel
theorem dX9_tells_18 : decode cX9_tells 18 = .ok (.isub, 1) := by decide +kernel
theorem dX9_tells_19 : decode cX9_tells 19 = .ok (.ireturn, 1) := by decide +kernel
theorem dX10_init_0 : decode cX10_init 0 = .ok (.aload_n 0, 1) := by decide +kernel
theorem dX10_init_1 : decode cX10_init 1 = .ok (.iload_n 1, 1) := by decide +kernel
theorem dX10_init_2 : decode cX10_init 2 = .ok (.iload_n 2, 1) := by decide +kernel
theorem dX10_init_3 : decode cX10_init 3 = .ok (.iload_n 3, 1) := by decide +kernel
theorem dX10_init_4 : decode cX10_init 4 = .ok (.invokespecial 1, 3) := by decide +kernel
theorem dX10_init_7 : decode cX10_init 7 = .ok (.return_, 1) := by decide +kernel
theorem dX10_widens_0 : decode cX10_widens 0 = .ok (.iconst 0, 1) := by decide +kernel
theorem dX10_widens_1 : decode cX10_widens 1 = .ok (.ireturn, 1) := by decide +kernel
theorem dX10_spreads_0 : decode cX10_spreads 0 = .ok (.iload_n 2, 1) := by decide +kernel
theorem dX10_spreads_1 : decode cX10_spreads 1 = .ok (.aload_n 1, 1) := by decide +kernel
theorem dX10_spreads_2 : decode cX10_spreads 2 = .ok (.getfield 7, 3) := by decide +kernel
theorem dX10_spreads_5 : decode cX10_spreads 5 = .ok (.isub, 1) := by decide +kernel
theorem dX10_spreads_6 : decode cX10_spreads 6 = .ok (.invokestatic 13, 3) := by decide +kernel
theorem dX10_spreads_9 : decode cX10_spreads 9 = .ok (.istore_n 3, 1) := by decide +kernel
theorem dX10_spreads_10 : decode cX10_spreads 10 = .ok (.iload_n 3, 1) := by decide +kernel
theorem dX10_spreads_11 : decode cX10_spreads 11 = .ok (.bipush 100, 2) := by decide +kernel
theorem dX10_spreads_13 : decode cX10_spreads 13 = .ok (.if_icmp .ge 22, 3) := by decide +kernel
theorem dX10_spreads_16 : decode cX10_spreads 16 = .ok (.aload_n 0, 1) := by decide +kernel
theorem dX10_spreads_17 : decode cX10_spreads 17 = .ok (.getfield 19, 3) := by decide +kernel
theorem dX10_spreads_20 : decode cX10_spreads 20 = .ok (.aload_n 1, 1) := by decide +kernel
theorem dX10_spreads_21 : decode cX10_spreads 21 = .ok (.getfield 24, 3) := by decide +kernel
theorem dX10_spreads_24 : decode cX10_spreads 24 = .ok (.imul, 1) := by decide +kernel
theorem dX10_spreads_25 : decode cX10_spreads 25 = .ok (.iload_n 3, 1) := by decide +kernel
theorem dX10_spreads_26 : decode cX10_spreads 26 = .ok (.bipush 10, 2) := by decide +kernel
theorem dX10_spreads_28 : decode cX10_spreads 28 = .ok (.iadd, 1) := by decide +kernel
theorem dX10_spreads_29 : decode cX10_spreads 29 = .ok (.invokestatic 27, 3) := by decide +kernel
theorem dX10_spreads_32 : decode cX10_spreads 32 = .ok (.goto 4, 3) := by decide +kernel
theorem dX10_spreads_35 : decode cX10_spreads 35 = .ok (.iconst 0, 1) := by decide +kernel
theorem dX10_spreads_36 : decode cX10_spreads 36 = .ok (.ireturn, 1) := by decide +kernel
theorem dX10_moves_0 : decode cX10_moves 0 = .ok (.aload_n 2, 1) := by decide +kernel
theorem dX10_moves_1 : decode cX10_moves 1 = .ok (.bipush 60, 2) := by decide +kernel
theorem dX10_moves_3 : decode cX10_moves 3 = .ok (.invokevirtual 33, 3) := by decide +kernel
theorem dX10_moves_6 : decode cX10_moves 6 = .ok (.aload_n 0, 1) := by decide +kernel
theorem dX10_moves_7 : decode cX10_moves 7 = .ok (.iload_n 1, 1) := by decide +kernel
theorem dX10_moves_8 : decode cX10_moves 8 = .ok (.aload_n 2, 1) := by decide +kernel
theorem dX10_moves_9 : decode cX10_moves 9 = .ok (.invokespecial 39, 3) := by decide +kernel
theorem dX10_moves_12 : decode cX10_moves 12 = .ok (.aload_n 0, 1) := by decide +kernel
theorem dX10_moves_13 : decode cX10_moves 13 = .ok (.getfield 43, 3) := by decide +kernel
theorem dX10_moves_16 : decode cX10_moves 16 = .ok (.ixor, 1) := by decide +kernel
theorem dX10_moves_17 : decode cX10_moves 17 = .ok (.ireturn, 1) := by decide +kernel
theorem dX11_init_0 : decode cX11_init 0 = .ok (.aload_n 0, 1) := by decide +kernel
theorem dX11_init_1 : decode cX11_init 1 = .ok (.invokespecial 3, 3) := by decide +kernel
theorem dX11_init_4 : decode cX11_init 4 = .ok (.aload_n 0, 1) := by decide +kernel
theorem dX11_init_5 : decode cX11_init 5 = .ok (.new 9, 3) := by decide +kernel
theorem dX11_init_8 : decode cX11_init 8 = .ok (.dup, 1) := by decide +kernel
theorem dX11_init_9 : decode cX11_init 9 = .ok (.invokespecial 11, 3) := by decide +kernel
theorem dX11_init_12 : decode cX11_init 12 = .ok (.putfield 12, 3) := by decide +kernel
theorem dX11_init_15 : decode cX11_init 15 = .ok (.aload_n 0, 1) := by decide +kernel
theorem dX11_init_16 : decode cX11_init 16 = .ok (.new 9, 3) := by decide +kernel
theorem dX11_init_19 : decode cX11_init 19 = .ok (.dup, 1) := by decide +kernel
theorem dX11_init_20 : decode cX11_init 20 = .ok (.invokespecial 11, 3) := by decide +kernel
theorem dX11_init_23 : decode cX11_init 23 = .ok (.putfield 16, 3) := by decide +kernel
theorem dX11_init_26 : decode cX11_init 26 = .ok (.aload_n 0, 1) := by decide +kernel
theorem dX11_init_27 : decode cX11_init 27 = .ok (.new 9, 3) := by decide +kernel
theorem dX11_init_30 : decode cX11_init 30 = .ok (.dup, 1) := by decide +kernel
theorem dX11_init_31 : decode cX11_init 31 = .ok (.invokespecial 11, 3) := by decide +kernel
theorem dX11_init_34 : decode cX11_init 34 = .ok (.putfield 19, 3) := by decide +kernel
theorem dX11_init_37 : decode cX11_init 37 = .ok (.aload_n 0, 1) := by decide +kernel
theorem dX11_init_38 : decode cX11_init 38 = .ok (.new 9, 3) := by decide +kernel
theorem dX11_init_41 : decode cX11_init 41 = .ok (.dup, 1) := by decide +kernel
theorem dX11_init_42 : decode cX11_init 42 = .ok (.invokespecial 11, 3) := by decide +kernel
theorem dX11_init_45 : decode cX11_init 45 = .ok (.putfield 22, 3) := by decide +kernel
theorem dX11_init_48 : decode cX11_init 48 = .ok (.aload_n 0, 1) := by decide +kernel
theorem dX11_init_49 : decode cX11_init 49 = .ok (.iconst 0, 1) := by decide +kernel
theorem dX11_init_50 : decode cX11_init 50 = .ok (.putfield 25, 3) := by decide +kernel
theorem dX11_init_53 : decode cX11_init 53 = .ok (.aload_n 0, 1) := by decide +kernel
theorem dX11_init_54 : decode cX11_init 54 = .ok (.iconst 4, 1) := by decide +kernel
theorem dX11_init_55 : decode cX11_init 55 = .ok (.anewarray 29, 3) := by decide +kernel
theorem dX11_init_58 : decode cX11_init 58 = .ok (.putfield 31, 3) := by decide +kernel
theorem dX11_init_61 : decode cX11_init 61 = .ok (.iconst 0, 1) := by decide +kernel
theorem dX11_init_62 : decode cX11_init 62 = .ok (.istore_n 1, 1) := by decide +kernel
theorem dX11_init_63 : decode cX11_init 63 = .ok (.iload_n 1, 1) := by decide +kernel
theorem dX11_init_64 : decode cX11_init 64 = .ok (.iconst 4, 1) := by decide +kernel
theorem dX11_init_65 : decode cX11_init 65 = .ok (.if_icmp .ge 24, 3) := by decide +kernel
theorem dX11_init_68 : decode cX11_init 68 = .ok (.aload_n 0, 1) := by decide +kernel
theorem dX11_init_69 : decode cX11_init 69 = .ok (.getfield 31, 3) := by decide +kernel
theorem dX11_init_72 : decode cX11_init 72 = .ok (.iload_n 1, 1) := by decide +kernel
theorem dX11_init_73 : decode cX11_init 73 = .ok (.new 29, 3) := by decide +kernel
theorem dX11_init_76 : decode cX11_init 76 = .ok (.dup, 1) := by decide +kernel
theorem dX11_init_77 : decode cX11_init 77 = .ok (.bipush 40, 2) := by decide +kernel
theorem dX11_init_79 : decode cX11_init 79 = .ok (.invokespecial 35, 3) := by decide +kernel
theorem dX11_init_82 : decode cX11_init 82 = .ok (.aastore, 1) := by decide +kernel
theorem dX11_init_83 : decode cX11_init 83 = .ok (.iinc 1 1, 3) := by decide +kernel
theorem dX11_init_86 : decode cX11_init 86 = .ok (.goto (-23), 3) := by decide +kernel
theorem dX11_init_89 : decode cX11_init 89 = .ok (.aload_n 0, 1) := by decide +kernel
theorem dX11_init_90 : decode cX11_init 90 = .ok (.new 29, 3) := by decide +kernel
theorem dX11_init_93 : decode cX11_init 93 = .ok (.dup, 1) := by decide +kernel
theorem dX11_init_94 : decode cX11_init 94 = .ok (.bipush 40, 2) := by decide +kernel
theorem dX11_init_96 : decode cX11_init 96 = .ok (.invokespecial 35, 3) := by decide +kernel
theorem dX11_init_99 : decode cX11_init 99 = .ok (.putfield 38, 3) := by decide +kernel
theorem dX11_init_102 : decode cX11_init 102 = .ok (.aload_n 0, 1) := by decide +kernel
theorem dX11_init_103 : decode cX11_init 103 = .ok (.new 42, 3) := by decide +kernel
theorem dX11_init_106 : decode cX11_init 106 = .ok (.dup, 1) := by decide +kernel
theorem dX11_init_107 : decode cX11_init 107 = .ok (.invokespecial 44, 3) := by decide +kernel
theorem dX11_init_110 : decode cX11_init 110 = .ok (.putfield 45, 3) := by decide +kernel
theorem dX11_init_113 : decode cX11_init 113 = .ok (.aload_n 0, 1) := by decide +kernel
theorem dX11_init_114 : decode cX11_init 114 = .ok (.bipush 6, 2) := by decide +kernel
theorem dX11_init_116 : decode cX11_init 116 = .ok (.newarray .int, 2) := by decide +kernel
theorem dX11_init_118 : decode cX11_init 118 = .ok (.putfield 49, 3) := by decide +kernel
theorem dX11_init_121 : decode cX11_init 121 = .ok (.return_, 1) := by decide +kernel
theorem dX11_ring_0 : decode cX11_ring 0 = .ok (.iload_n 1, 1) := by decide +kernel
theorem dX11_ring_1 : decode cX11_ring 1 = .ok (.sipush 2000, 3) := by decide +kernel
theorem dX11_ring_4 : decode cX11_ring 4 = .ok (.idiv, 1) := by decide +kernel
theorem dX11_ring_5 : decode cX11_ring 5 = .ok (.ldc 53, 2) := by decide +kernel
theorem dX11_ring_7 : decode cX11_ring 7 = .ok (.isub, 1) := by decide +kernel
theorem dX11_ring_8 : decode cX11_ring 8 = .ok (.istore 5, 2) := by decide +kernel
theorem dX11_ring_10 : decode cX11_ring 10 = .ok (.iload_n 1, 1) := by decide +kernel
theorem dX11_ring_11 : decode cX11_ring 11 = .ok (.sipush 2000, 3) := by decide +kernel
theorem dX11_ring_14 : decode cX11_ring 14 = .ok (.irem, 1) := by decide +kernel
theorem dX11_ring_15 : decode cX11_ring 15 = .ok (.sipush 1000, 3) := by decide +kernel
theorem dX11_ring_18 : decode cX11_ring 18 = .ok (.isub, 1) := by decide +kernel
theorem dX11_ring_19 : decode cX11_ring 19 = .ok (.istore 6, 2) := by decide +kernel
theorem dX11_ring_21 : decode cX11_ring 21 = .ok (.iload 4, 2) := by decide +kernel
theorem dX11_ring_23 : decode cX11_ring 23 = .ok (.bipush 100, 2) := by decide +kernel
theorem dX11_ring_25 : decode cX11_ring 25 = .ok (.idiv, 1) := by decide +kernel
theorem dX11_ring_26 : decode cX11_ring 26 = .ok (.istore 7, 2) := by decide +kernel
theorem dX11_ring_28 : decode cX11_ring 28 = .ok (.iload 4, 2) := by decide +kernel
theorem dX11_ring_30 : decode cX11_ring 30 = .ok (.bipush 100, 2) := by decide +kernel
theorem dX11_ring_32 : decode cX11_ring 32 = .ok (.irem, 1) := by decide +kernel
theorem dX11_ring_33 : decode cX11_ring 33 = .ok (.istore 8, 2) := by decide +kernel
theorem dX11_ring_35 : decode cX11_ring 35 = .ok (.iload 5, 2) := by decide +kernel
theorem dX11_ring_37 : decode cX11_ring 37 = .ok (.ldc 54, 2) := by decide +kernel
theorem dX11_ring_39 : decode cX11_ring 39 = .ok (.ldc 55, 2) := by decide +kernel
theorem dX11_ring_41 : decode cX11_ring 41 = .ok (.invokestatic 56, 3) := by decide +kernel
theorem dX11_ring_44 : decode cX11_ring 44 = .ok (.ifCond .eq 61, 3) := by decide +kernel
theorem dX11_ring_47 : decode cX11_ring 47 = .ok (.iload 6, 2) := by decide +kernel
theorem dX11_ring_49 : decode cX11_ring 49 = .ok (.sipush (-999), 3) := by decide +kernel
theorem dX11_ring_52 : decode cX11_ring 52 = .ok (.sipush 999, 3) := by decide +kernel
theorem dX11_ring_55 : decode cX11_ring 55 = .ok (.invokestatic 56, 3) := by decide +kernel
theorem dX11_ring_58 : decode cX11_ring 58 = .ok (.ifCond .eq 47, 3) := by decide +kernel
theorem dX11_ring_61 : decode cX11_ring 61 = .ok (.iload_n 2, 1) := by decide +kernel
theorem dX11_ring_62 : decode cX11_ring 62 = .ok (.iconst 1, 1) := by decide +kernel
theorem dX11_ring_63 : decode cX11_ring 63 = .ok (.if_icmp .eq 8, 3) := by decide +kernel
theorem dX11_ring_66 : decode cX11_ring 66 = .ok (.iload_n 2, 1) := by decide +kernel
theorem dX11_ring_67 : decode cX11_ring 67 = .ok (.iconst (-1), 1) := by decide +kernel
theorem dX11_ring_68 : decode cX11_ring 68 = .ok (.if_icmp .ne 37, 3) := by decide +kernel
theorem dX11_ring_71 : decode cX11_ring 71 = .ok (.iload_n 3, 1) := by decide +kernel
theorem dX11_ring_72 : decode cX11_ring 72 = .ok (.iconst 0, 1) := by decide +kernel
theorem dX11_ring_73 : decode cX11_ring 73 = .ok (.sipush 999, 3) := by decide +kernel
theorem dX11_ring_76 : decode cX11_ring 76 = .ok (.invokestatic 56, 3) := by decide +kernel
theorem dX11_ring_79 : decode cX11_ring 79 = .ok (.ifCond .eq 26, 3) := by decide +kernel
theorem dX11_ring_82 : decode cX11_ring 82 = .ok (.iload 7, 2) := by decide +kernel
theorem dX11_ring_84 : decode cX11_ring 84 = .ok (.iconst 1, 1) := by decide +kernel
theorem dX11_ring_85 : decode cX11_ring 85 = .ok (.sipush 200, 3) := by decide +kernel
theorem dX11_ring_88 : decode cX11_ring 88 = .ok (.invokestatic 56, 3) := by decide +kernel
theorem dX11_ring_91 : decode cX11_ring 91 = .ok (.ifCond .eq 14, 3) := by decide +kernel
theorem dX11_ring_94 : decode cX11_ring 94 = .ok (.iload 8, 2) := by decide +kernel
theorem dX11_ring_96 : decode cX11_ring 96 = .ok (.iconst 1, 1) := by decide +kernel
theorem dX11_ring_97 : decode cX11_ring 97 = .ok (.bipush 50, 2) := by decide +kernel
theorem dX11_ring_99 : decode cX11_ring 99 = .ok (.invokestatic 56, 3) := by decide +kernel
theorem dX11_ring_102 : decode cX11_ring 102 = .ok (.ifCond .ne 10, 3) := by decide +kernel
theorem dX11_ring_105 : decode cX11_ring 105 = .ok (.aload_n 0, 1) := by decide +kernel
theorem dX11_ring_106 : decode cX11_ring 106 = .ok (.ldc 60, 2) := by decide +kernel
theorem dX11_ring_108 : decode cX11_ring 108 = .ok (.invokevirtual 61, 3) := by decide +kernel
theorem dX11_ring_111 : decode cX11_ring 111 = .ok (.ireturn, 1) := by decide +kernel
theorem dX11_ring_112 : decode cX11_ring 112 = .ok (.aload_n 0, 1) := by decide +kernel
theorem dX11_ring_113 : decode cX11_ring 113 = .ok (.getfield 12, 3) := by decide +kernel
theorem dX11_ring_116 : decode cX11_ring 116 = .ok (.invokevirtual 65, 3) := by decide +kernel
theorem dX11_ring_119 : decode cX11_ring 119 = .ok (.ifCond .eq 10, 3) := by decide +kernel
theorem dX11_ring_122 : decode cX11_ring 122 = .ok (.aload_n 0, 1) := by decide +kernel
theorem dX11_ring_123 : decode cX11_ring 123 = .ok (.ldc 69, 2) := by decide +kernel
theorem dX11_ring_125 : decode cX11_ring 125 = .ok (.invokevirtual 61, 3) := by decide +kernel
theorem dX11_ring_128 : decode cX11_ring 128 = .ok (.ireturn, 1) := by decide +kernel
theorem dX11_ring_129 : decode cX11_ring 129 = .ok (.aload_n 0, 1) := by decide +kernel
theorem dX11_ring_130 : decode cX11_ring 130 = .ok (.getfield 12, 3) := by decide +kernel
theorem dX11_ring_133 : decode cX11_ring 133 = .ok (.iload 5, 2) := by decide +kernel
theorem dX11_ring_135 : decode cX11_ring 135 = .ok (.iload 6, 2) := by decide +kernel
theorem dX11_ring_137 : decode cX11_ring 137 = .ok (.iload_n 2, 1) := by decide +kernel
theorem dX11_ring_138 : decode cX11_ring 138 = .ok (.iload_n 3, 1) := by decide +kernel
theorem dX11_ring_139 : decode cX11_ring 139 = .ok (.iload 7, 2) := by decide +kernel
theorem dX11_ring_141 : decode cX11_ring 141 = .ok (.iload 8, 2) := by decide +kernel
theorem dX11_ring_143 : decode cX11_ring 143 = .ok (.invokevirtual 70, 3) := by decide +kernel
theorem dX11_ring_146 : decode cX11_ring 146 = .ok (.ireturn, 1) := by decide +kernel
theorem dX11_ofRing_0 : decode cX11_ofRing 0 = .ok (.aload_n 0, 1) := by decide +kernel
theorem dX11_ofRing_1 : decode cX11_ofRing 1 = .ok (.getfield 12, 3) := by decide +kernel
theorem dX11_ofRing_4 : decode cX11_ofRing 4 = .ok (.iload_n 1, 1) := by decide +kernel
theorem dX11_ofRing_5 : decode cX11_ofRing 5 = .ok (.invokevirtual 74, 3) := by decide +kernel
theorem dX11_ofRing_8 : decode cX11_ofRing 8 = .ok (.ifCond .eq 13, 3) := by decide +kernel
theorem dX11_ofRing_11 : decode cX11_ofRing 11 = .ok (.iload_n 2, 1) := by decide +kernel
theorem dX11_ofRing_12 : decode cX11_ofRing 12 = .ok (.iconst 0, 1) := by decide +kernel
theorem dX11_ofRing_13 : decode cX11_ofRing 13 = .ok (.bipush 7, 2) := by decide +kernel
theorem dX11_ofRing_15 : decode cX11_ofRing 15 = .ok (.invokestatic 56, 3) := by decide +kernel
theorem dX11_ofRing_18 : decode cX11_ofRing 18 = .ok (.ifCond .ne 10, 3) := by decide +kernel
theorem dX11_ofRing_21 : decode cX11_ofRing 21 = .ok (.aload_n 0, 1) := by decide +kernel
theorem dX11_ofRing_22 : decode cX11_ofRing 22 = .ok (.ldc 60, 2) := by decide +kernel
theorem dX11_ofRing_24 : decode cX11_ofRing 24 = .ok (.invokevirtual 61, 3) := by decide +kernel
theorem dX11_ofRing_27 : decode cX11_ofRing 27 = .ok (.ireturn, 1) := by decide +kernel
theorem dX11_ofRing_28 : decode cX11_ofRing 28 = .ok (.aload_n 0, 1) := by decide +kernel
theorem dX11_ofRing_29 : decode cX11_ofRing 29 = .ok (.getfield 12, 3) := by decide +kernel
theorem dX11_ofRing_32 : decode cX11_ofRing 32 = .ok (.getfield 78, 3) := by decide +kernel
theorem dX11_ofRing_35 : decode cX11_ofRing 35 = .ok (.iload_n 1, 1) := by decide +kernel
theorem dX11_ofRing_36 : decode cX11_ofRing 36 = .ok (.aaload, 1) := by decide +kernel
theorem dX11_ofRing_37 : decode cX11_ofRing 37 = .ok (.iload_n 2, 1) := by decide +kernel
theorem dX11_ofRing_38 : decode cX11_ofRing 38 = .ok (.invokevirtual 82, 3) := by decide +kernel
theorem dX11_ofRing_41 : decode cX11_ofRing 41 = .ok (.ireturn, 1) := by decide +kernel
theorem dX11_end_0 : decode cX11_end 0 = .ok (.aload_n 0, 1) := by decide +kernel
theorem dX11_end_1 : decode cX11_end 1 = .ok (.getfield 12, 3) := by decide +kernel
theorem dX11_end_4 : decode cX11_end 4 = .ok (.iload_n 1, 1) := by decide +kernel
theorem dX11_end_5 : decode cX11_end 5 = .ok (.invokevirtual 74, 3) := by decide +kernel
theorem dX11_end_8 : decode cX11_end 8 = .ok (.ifCond .ne 10, 3) := by decide +kernel
theorem dX11_end_11 : decode cX11_end 11 = .ok (.aload_n 0, 1) := by decide +kernel
theorem dX11_end_12 : decode cX11_end 12 = .ok (.ldc 60, 2) := by decide +kernel
theorem dX11_end_14 : decode cX11_end 14 = .ok (.invokevirtual 61, 3) := by decide +kernel
theorem dX11_end_17 : decode cX11_end 17 = .ok (.ireturn, 1) := by decide +kernel
theorem dX11_end_18 : decode cX11_end 18 = .ok (.aload_n 0, 1) := by decide +kernel
theorem dX11_end_19 : decode cX11_end 19 = .ok (.getfield 12, 3) := by decide +kernel
theorem dX11_end_22 : decode cX11_end 22 = .ok (.getfield 78, 3) := by decide +kernel
theorem dX11_end_25 : decode cX11_end 25 = .ok (.iload_n 1, 1) := by decide +kernel
theorem dX11_end_26 : decode cX11_end 26 = .ok (.aaload, 1) := by decide +kernel
theorem dX11_end_27 : decode cX11_end 27 = .ok (.getfield 87, 3) := by decide +kernel
theorem dX11_end_30 : decode cX11_end 30 = .ok (.invokestatic 91, 3) := by decide +kernel
theorem dX11_end_33 : decode cX11_end 33 = .ok (.istore_n 2, 1) := by decide +kernel
theorem dX11_end_34 : decode cX11_end 34 = .ok (.aload_n 0, 1) := by decide +kernel
theorem dX11_end_35 : decode cX11_end 35 = .ok (.getfield 12, 3) := by decide +kernel
theorem dX11_end_38 : decode cX11_end 38 = .ok (.getfield 78, 3) := by decide +kernel
theorem dX11_end_41 : decode cX11_end 41 = .ok (.iload_n 1, 1) := by decide +kernel
theorem dX11_end_42 : decode cX11_end 42 = .ok (.aaload, 1) := by decide +kernel
theorem dX11_end_43 : decode cX11_end 43 = .ok (.iconst 0, 1) := by decide +kernel
theorem dX11_end_44 : decode cX11_end 44 = .ok (.putfield 87, 3) := by decide +kernel
theorem dX11_end_47 : decode cX11_end 47 = .ok (.iload_n 2, 1) := by decide +kernel
theorem dX11_end_48 : decode cX11_end 48 = .ok (.ireturn, 1) := by decide +kernel
theorem dX11_wall_0 : decode cX11_wall 0 = .ok (.iload_n 1, 1) := by decide +kernel
theorem dX11_wall_1 : decode cX11_wall 1 = .ok (.ldc 54, 2) := by decide +kernel
theorem dX11_wall_3 : decode cX11_wall 3 = .ok (.ldc 55, 2) := by decide +kernel
theorem dX11_wall_5 : decode cX11_wall 5 = .ok (.invokestatic 56, 3) := by decide +kernel
theorem dX11_wall_8 : decode cX11_wall 8 = .ok (.ifCond .ne 10, 3) := by decide +kernel
theorem dX11_wall_11 : decode cX11_wall 11 = .ok (.aload_n 0, 1) := by decide +kernel
theorem dX11_wall_12 : decode cX11_wall 12 = .ok (.ldc 60, 2) := by decide +kernel
theorem dX11_wall_14 : decode cX11_wall 14 = .ok (.invokevirtual 61, 3) := by decide +kernel
theorem dX11_wall_17 : decode cX11_wall 17 = .ok (.ireturn, 1) := by decide +kernel
theorem dX11_wall_18 : decode cX11_wall 18 = .ok (.aload_n 0, 1) := by decide +kernel
theorem dX11_wall_19 : decode cX11_wall 19 = .ok (.getfield 12, 3) := by decide +kernel
theorem dX11_wall_22 : decode cX11_wall 22 = .ok (.getfield 95, 3) := by decide +kernel
theorem dX11_wall_25 : decode cX11_wall 25 = .ok (.istore_n 2, 1) := by decide +kernel
theorem dX11_wall_26 : decode cX11_wall 26 = .ok (.aload_n 0, 1) := by decide +kernel
theorem dX11_wall_27 : decode cX11_wall 27 = .ok (.getfield 12, 3) := by decide +kernel
theorem dX11_wall_30 : decode cX11_wall 30 = .ok (.iload_n 1, 1) := by decide +kernel
theorem dX11_wall_31 : decode cX11_wall 31 = .ok (.putfield 95, 3) := by decide +kernel
theorem dX11_wall_34 : decode cX11_wall 34 = .ok (.iload_n 2, 1) := by decide +kernel
theorem dX11_wall_35 : decode cX11_wall 35 = .ok (.ireturn, 1) := by decide +kernel
theorem dX11_law_0 : decode cX11_law 0 = .ok (.iload_n 1, 1) := by decide +kernel
theorem dX11_law_1 : decode cX11_law 1 = .ok (.iconst 0, 1) := by decide +kernel
theorem dX11_law_2 : decode cX11_law 2 = .ok (.bipush 6, 2) := by decide +kernel
theorem dX11_law_4 : decode cX11_law 4 = .ok (.invokestatic 56, 3) := by decide +kernel
theorem dX11_law_7 : decode cX11_law 7 = .ok (.ifCond .eq 13, 3) := by decide +kernel
theorem dX11_law_10 : decode cX11_law 10 = .ok (.iload_n 2, 1) := by decide +kernel
theorem dX11_law_11 : decode cX11_law 11 = .ok (.iconst 0, 1) := by decide +kernel
theorem dX11_law_12 : decode cX11_law 12 = .ok (.bipush 99, 2) := by decide +kernel
theorem dX11_law_14 : decode cX11_law 14 = .ok (.invokestatic 56, 3) := by decide +kernel
theorem dX11_law_17 : decode cX11_law 17 = .ok (.ifCond .ne 10, 3) := by decide +kernel
theorem dX11_law_20 : decode cX11_law 20 = .ok (.aload_n 0, 1) := by decide +kernel
theorem dX11_law_21 : decode cX11_law 21 = .ok (.ldc 60, 2) := by decide +kernel
theorem dX11_law_23 : decode cX11_law 23 = .ok (.invokevirtual 61, 3) := by decide +kernel
theorem dX11_law_26 : decode cX11_law 26 = .ok (.ireturn, 1) := by decide +kernel
theorem dX11_law_27 : decode cX11_law 27 = .ok (.aload_n 0, 1) := by decide +kernel
theorem dX11_law_28 : decode cX11_law 28 = .ok (.getfield 12, 3) := by decide +kernel
theorem dX11_law_31 : decode cX11_law 31 = .ok (.getfield 98, 3) := by decide +kernel
theorem dX11_law_34 : decode cX11_law 34 = .ok (.bipush 6, 2) := by decide +kernel
theorem dX11_law_36 : decode cX11_law 36 = .ok (.if_icmp .lt 10, 3) := by decide +kernel
theorem dX11_law_39 : decode cX11_law 39 = .ok (.aload_n 0, 1) := by decide +kernel
theorem dX11_law_40 : decode cX11_law 40 = .ok (.ldc 69, 2) := by decide +kernel
theorem dX11_law_42 : decode cX11_law 42 = .ok (.invokevirtual 61, 3) := by decide +kernel
theorem dX11_law_45 : decode cX11_law 45 = .ok (.ireturn, 1) := by decide +kernel
theorem dX11_law_46 : decode cX11_law 46 = .ok (.aload_n 0, 1) := by decide +kernel
theorem dX11_law_47 : decode cX11_law 47 = .ok (.getfield 12, 3) := by decide +kernel
theorem dX11_law_50 : decode cX11_law 50 = .ok (.iload_n 1, 1) := by decide +kernel
theorem dX11_law_51 : decode cX11_law 51 = .ok (.aload_n 0, 1) := by decide +kernel
theorem dX11_law_52 : decode cX11_law 52 = .ok (.getfield 12, 3) := by decide +kernel
theorem dX11_law_55 : decode cX11_law 55 = .ok (.getfield 98, 3) := by decide +kernel
theorem dX11_law_58 : decode cX11_law 58 = .ok (.iload_n 2, 1) := by decide +kernel
theorem dX11_law_59 : decode cX11_law 59 = .ok (.invokestatic 101, 3) := by decide +kernel
theorem dX11_law_62 : decode cX11_law 62 = .ok (.invokevirtual 105, 3) := by decide +kernel
theorem dX11_law_65 : decode cX11_law 65 = .ok (.ireturn, 1) := by decide +kernel
theorem dX11_ofLaw_0 : decode cX11_ofLaw 0 = .ok (.aload_n 0, 1) := by decide +kernel
theorem dX11_ofLaw_1 : decode cX11_ofLaw 1 = .ok (.getfield 12, 3) := by decide +kernel
theorem dX11_ofLaw_4 : decode cX11_ofLaw 4 = .ok (.iload_n 1, 1) := by decide +kernel
theorem dX11_ofLaw_5 : decode cX11_ofLaw 5 = .ok (.invokevirtual 109, 3) := by decide +kernel
theorem dX11_ofLaw_8 : decode cX11_ofLaw 8 = .ok (.ifCond .eq 12, 3) := by decide +kernel
theorem dX11_ofLaw_11 : decode cX11_ofLaw 11 = .ok (.iload_n 2, 1) := by decide +kernel
theorem dX11_ofLaw_12 : decode cX11_ofLaw 12 = .ok (.iconst 0, 1) := by decide +kernel
theorem dX11_ofLaw_13 : decode cX11_ofLaw 13 = .ok (.iconst 2, 1) := by decide +kernel
theorem dX11_ofLaw_14 : decode cX11_ofLaw 14 = .ok (.invokestatic 56, 3) := by decide +kernel
theorem dX11_ofLaw_17 : decode cX11_ofLaw 17 = .ok (.ifCond .ne 10, 3) := by decide +kernel
theorem dX11_ofLaw_20 : decode cX11_ofLaw 20 = .ok (.aload_n 0, 1) := by decide +kernel
theorem dX11_ofLaw_21 : decode cX11_ofLaw 21 = .ok (.ldc 60, 2) := by decide +kernel
theorem dX11_ofLaw_23 : decode cX11_ofLaw 23 = .ok (.invokevirtual 61, 3) := by decide +kernel
theorem dX11_ofLaw_26 : decode cX11_ofLaw 26 = .ok (.ireturn, 1) := by decide +kernel
theorem dX11_ofLaw_27 : decode cX11_ofLaw 27 = .ok (.iload_n 2, 1) := by decide +kernel
theorem dX11_ofLaw_28 : decode cX11_ofLaw 28 = .ok (.lookupswitch 54 #[(0, 28), (1, 41)], 28) := by decide +kernel
theorem dX11_ofLaw_56 : decode cX11_ofLaw 56 = .ok (.aload_n 0, 1) := by decide +kernel
theorem dX11_ofLaw_57 : decode cX11_ofLaw 57 = .ok (.getfield 12, 3) := by decide +kernel
theorem dX11_ofLaw_60 : decode cX11_ofLaw 60 = .ok (.getfield 112, 3) := by decide +kernel
theorem dX11_ofLaw_63 : decode cX11_ofLaw 63 = .ok (.iload_n 1, 1) := by decide +kernel
theorem dX11_ofLaw_64 : decode cX11_ofLaw 64 = .ok (.aaload, 1) := by decide +kernel
theorem dX11_ofLaw_65 : decode cX11_ofLaw 65 = .ok (.getfield 116, 3) := by decide +kernel
theorem dX11_ofLaw_68 : decode cX11_ofLaw 68 = .ok (.ireturn, 1) := by decide +kernel
theorem dX11_ofLaw_69 : decode cX11_ofLaw 69 = .ok (.aload_n 0, 1) := by decide +kernel
theorem dX11_ofLaw_70 : decode cX11_ofLaw 70 = .ok (.getfield 12, 3) := by decide +kernel
theorem dX11_ofLaw_73 : decode cX11_ofLaw 73 = .ok (.getfield 112, 3) := by decide +kernel
theorem dX11_ofLaw_76 : decode cX11_ofLaw 76 = .ok (.iload_n 1, 1) := by decide +kernel
theorem dX11_ofLaw_77 : decode cX11_ofLaw 77 = .ok (.aaload, 1) := by decide +kernel
theorem dX11_ofLaw_78 : decode cX11_ofLaw 78 = .ok (.getfield 121, 3) := by decide +kernel
theorem dX11_ofLaw_81 : decode cX11_ofLaw 81 = .ok (.ireturn, 1) := by decide +kernel
theorem dX11_ofLaw_82 : decode cX11_ofLaw 82 = .ok (.aload_n 0, 1) := by decide +kernel
theorem dX11_ofLaw_83 : decode cX11_ofLaw 83 = .ok (.getfield 12, 3) := by decide +kernel
theorem dX11_ofLaw_86 : decode cX11_ofLaw 86 = .ok (.iload_n 1, 1) := by decide +kernel
theorem dX11_ofLaw_87 : decode cX11_ofLaw 87 = .ok (.invokevirtual 124, 3) := by decide +kernel
theorem dX11_ofLaw_90 : decode cX11_ofLaw 90 = .ok (.invokestatic 91, 3) := by decide +kernel
theorem dX11_ofLaw_93 : decode cX11_ofLaw 93 = .ok (.ireturn, 1) := by decide +kernel
theorem dX11_as_0 : decode cX11_as 0 = .ok (.aload_n 0, 1) := by decide +kernel
theorem dX11_as_1 : decode cX11_as 1 = .ok (.getfield 12, 3) := by decide +kernel
theorem dX11_as_4 : decode cX11_as 4 = .ok (.iload_n 1, 1) := by decide +kernel
theorem dX11_as_5 : decode cX11_as 5 = .ok (.invokevirtual 109, 3) := by decide +kernel
theorem dX11_as_8 : decode cX11_as 8 = .ok (.ifCond .eq 13, 3) := by decide +kernel
theorem dX11_as_11 : decode cX11_as 11 = .ok (.iload_n 2, 1) := by decide +kernel
theorem dX11_as_12 : decode cX11_as 12 = .ok (.iconst 0, 1) := by decide +kernel
theorem dX11_as_13 : decode cX11_as 13 = .ok (.bipush 6, 2) := by decide +kernel
theorem dX11_as_15 : decode cX11_as 15 = .ok (.invokestatic 56, 3) := by decide +kernel
theorem dX11_as_18 : decode cX11_as 18 = .ok (.ifCond .ne 10, 3) := by decide +kernel
theorem dX11_as_21 : decode cX11_as 21 = .ok (.aload_n 0, 1) := by decide +kernel
theorem dX11_as_22 : decode cX11_as 22 = .ok (.ldc 60, 2) := by decide +kernel
theorem dX11_as_24 : decode cX11_as 24 = .ok (.invokevirtual 61, 3) := by decide +kernel
theorem dX11_as_27 : decode cX11_as 27 = .ok (.ireturn, 1) := by decide +kernel
theorem dX11_as_28 : decode cX11_as 28 = .ok (.aload_n 0, 1) := by decide +kernel
theorem dX11_as_29 : decode cX11_as 29 = .ok (.getfield 12, 3) := by decide +kernel
theorem dX11_as_32 : decode cX11_as 32 = .ok (.getfield 112, 3) := by decide +kernel
theorem dX11_as_35 : decode cX11_as 35 = .ok (.iload_n 1, 1) := by decide +kernel
theorem dX11_as_36 : decode cX11_as 36 = .ok (.aaload, 1) := by decide +kernel
theorem dX11_as_37 : decode cX11_as 37 = .ok (.iload_n 2, 1) := by decide +kernel
theorem dX11_as_38 : decode cX11_as 38 = .ok (.invokestatic 127, 3) := by decide +kernel
theorem dX11_as_41 : decode cX11_as 41 = .ok (.ifCond .eq 18, 3) := by decide +kernel
theorem dX11_as_44 : decode cX11_as 44 = .ok (.aload_n 0, 1) := by decide +kernel
theorem dX11_as_45 : decode cX11_as 45 = .ok (.getfield 12, 3) := by decide +kernel
theorem dX11_as_48 : decode cX11_as 48 = .ok (.getfield 112, 3) := by decide +kernel
theorem dX11_as_51 : decode cX11_as 51 = .ok (.iload_n 1, 1) := by decide +kernel
theorem dX11_as_52 : decode cX11_as 52 = .ok (.aaload, 1) := by decide +kernel
theorem dX11_as_53 : decode cX11_as 53 = .ok (.getfield 121, 3) := by decide +kernel
theorem dX11_as_56 : decode cX11_as 56 = .ok (.goto 9, 3) := by decide +kernel
theorem dX11_as_59 : decode cX11_as 59 = .ok (.aload_n 0, 1) := by decide +kernel
theorem dX11_as_60 : decode cX11_as 60 = .ok (.ldc 131, 2) := by decide +kernel
theorem dX11_as_62 : decode cX11_as 62 = .ok (.invokevirtual 61, 3) := by decide +kernel
theorem dX11_as_65 : decode cX11_as 65 = .ok (.ireturn, 1) := by decide +kernel
theorem dX11_turn_0 : decode cX11_turn 0 = .ok (.aload_n 0, 1) := by decide +kernel
theorem dX11_turn_1 : decode cX11_turn 1 = .ok (.getfield 12, 3) := by decide +kernel
theorem dX11_turn_4 : decode cX11_turn 4 = .ok (.iload_n 1, 1) := by decide +kernel
theorem dX11_turn_5 : decode cX11_turn 5 = .ok (.invokevirtual 109, 3) := by decide +kernel
theorem dX11_turn_8 : decode cX11_turn 8 = .ok (.ifCond .eq 12, 3) := by decide +kernel
theorem dX11_turn_11 : decode cX11_turn 11 = .ok (.iload_n 2, 1) := by decide +kernel
theorem dX11_turn_12 : decode cX11_turn 12 = .ok (.iconst 0, 1) := by decide +kernel
theorem dX11_turn_13 : decode cX11_turn 13 = .ok (.iconst 1, 1) := by decide +kernel
theorem dX11_turn_14 : decode cX11_turn 14 = .ok (.invokestatic 56, 3) := by decide +kernel
theorem dX11_turn_17 : decode cX11_turn 17 = .ok (.ifCond .ne 10, 3) := by decide +kernel
theorem dX11_turn_20 : decode cX11_turn 20 = .ok (.aload_n 0, 1) := by decide +kernel
theorem dX11_turn_21 : decode cX11_turn 21 = .ok (.ldc 60, 2) := by decide +kernel
theorem dX11_turn_23 : decode cX11_turn 23 = .ok (.invokevirtual 61, 3) := by decide +kernel
theorem dX11_turn_26 : decode cX11_turn 26 = .ok (.ireturn, 1) := by decide +kernel
theorem dX11_turn_27 : decode cX11_turn 27 = .ok (.aload_n 0, 1) := by decide +kernel
theorem dX11_turn_28 : decode cX11_turn 28 = .ok (.getfield 12, 3) := by decide +kernel
theorem dX11_turn_31 : decode cX11_turn 31 = .ok (.iload_n 1, 1) := by decide +kernel
theorem dX11_turn_32 : decode cX11_turn 32 = .ok (.invokevirtual 124, 3) := by decide +kernel
theorem dX11_turn_35 : decode cX11_turn 35 = .ok (.invokestatic 91, 3) := by decide +kernel
theorem dX11_turn_38 : decode cX11_turn 38 = .ok (.istore_n 3, 1) := by decide +kernel
theorem dX11_turn_39 : decode cX11_turn 39 = .ok (.aload_n 0, 1) := by decide +kernel
theorem dX11_turn_40 : decode cX11_turn 40 = .ok (.getfield 12, 3) := by decide +kernel
theorem dX11_turn_43 : decode cX11_turn 43 = .ok (.aload_n 0, 1) := by decide +kernel
theorem dX11_turn_44 : decode cX11_turn 44 = .ok (.getfield 12, 3) := by decide +kernel
theorem dX11_turn_47 : decode cX11_turn 47 = .ok (.getfield 132, 3) := by decide +kernel
theorem dX11_turn_50 : decode cX11_turn 50 = .ok (.iconst 1, 1) := by decide +kernel
theorem dX11_turn_51 : decode cX11_turn 51 = .ok (.iload_n 1, 1) := by decide +kernel
theorem dX11_turn_52 : decode cX11_turn 52 = .ok (.ishl, 1) := by decide +kernel
theorem dX11_turn_53 : decode cX11_turn 53 = .ok (.iconst (-1), 1) := by decide +kernel
theorem dX11_turn_54 : decode cX11_turn 54 = .ok (.ixor, 1) := by decide +kernel
theorem dX11_turn_55 : decode cX11_turn 55 = .ok (.iand, 1) := by decide +kernel
theorem dX11_turn_56 : decode cX11_turn 56 = .ok (.iload_n 2, 1) := by decide +kernel
theorem dX11_turn_57 : decode cX11_turn 57 = .ok (.iload_n 1, 1) := by decide +kernel
theorem dX11_turn_58 : decode cX11_turn 58 = .ok (.ishl, 1) := by decide +kernel
theorem dX11_turn_59 : decode cX11_turn 59 = .ok (.ior, 1) := by decide +kernel
theorem dX11_turn_60 : decode cX11_turn 60 = .ok (.putfield 132, 3) := by decide +kernel
theorem dX11_turn_63 : decode cX11_turn 63 = .ok (.iload_n 3, 1) := by decide +kernel
theorem dX11_turn_64 : decode cX11_turn 64 = .ok (.ireturn, 1) := by decide +kernel
theorem dX11_does_0 : decode cX11_does 0 = .ok (.aload_n 0, 1) := by decide +kernel
theorem dX11_does_1 : decode cX11_does 1 = .ok (.getfield 12, 3) := by decide +kernel
theorem dX11_does_4 : decode cX11_does 4 = .ok (.iload_n 1, 1) := by decide +kernel
theorem dX11_does_5 : decode cX11_does 5 = .ok (.invokevirtual 109, 3) := by decide +kernel
theorem dX11_does_8 : decode cX11_does 8 = .ok (.ifCond .eq 24, 3) := by decide +kernel
theorem dX11_does_11 : decode cX11_does 11 = .ok (.aload_n 0, 1) := by decide +kernel
theorem dX11_does_12 : decode cX11_does 12 = .ok (.getfield 12, 3) := by decide +kernel
theorem dX11_does_15 : decode cX11_does 15 = .ok (.iload_n 2, 1) := by decide +kernel
theorem dX11_does_16 : decode cX11_does 16 = .ok (.invokevirtual 74, 3) := by decide +kernel
theorem dX11_does_19 : decode cX11_does 19 = .ok (.ifCond .eq 13, 3) := by decide +kernel
theorem dX11_does_22 : decode cX11_does 22 = .ok (.iload 4, 2) := by decide +kernel
theorem dX11_does_24 : decode cX11_does 24 = .ok (.iconst 0, 1) := by decide +kernel
theorem dX11_does_25 : decode cX11_does 25 = .ok (.iconst 3, 1) := by decide +kernel
theorem dX11_does_26 : decode cX11_does 26 = .ok (.invokestatic 56, 3) := by decide +kernel
theorem dX11_does_29 : decode cX11_does 29 = .ok (.ifCond .ne 10, 3) := by decide +kernel
theorem dX11_does_32 : decode cX11_does 32 = .ok (.aload_n 0, 1) := by decide +kernel
theorem dX11_does_33 : decode cX11_does 33 = .ok (.ldc 60, 2) := by decide +kernel
theorem dX11_does_35 : decode cX11_does 35 = .ok (.invokevirtual 61, 3) := by decide +kernel
theorem dX11_does_38 : decode cX11_does 38 = .ok (.ireturn, 1) := by decide +kernel
theorem dX11_does_39 : decode cX11_does 39 = .ok (.aload_n 0, 1) := by decide +kernel
theorem dX11_does_40 : decode cX11_does 40 = .ok (.getfield 12, 3) := by decide +kernel
theorem dX11_does_43 : decode cX11_does 43 = .ok (.getfield 112, 3) := by decide +kernel
theorem dX11_does_46 : decode cX11_does 46 = .ok (.iload_n 1, 1) := by decide +kernel
theorem dX11_does_47 : decode cX11_does 47 = .ok (.aaload, 1) := by decide +kernel
theorem dX11_does_48 : decode cX11_does 48 = .ok (.astore 5, 2) := by decide +kernel
theorem dX11_does_50 : decode cX11_does 50 = .ok (.aload_n 0, 1) := by decide +kernel
theorem dX11_does_51 : decode cX11_does 51 = .ok (.getfield 12, 3) := by decide +kernel
theorem dX11_does_54 : decode cX11_does 54 = .ok (.getfield 78, 3) := by decide +kernel
theorem dX11_does_57 : decode cX11_does 57 = .ok (.iload_n 2, 1) := by decide +kernel
theorem dX11_does_58 : decode cX11_does 58 = .ok (.aaload, 1) := by decide +kernel
theorem dX11_does_59 : decode cX11_does 59 = .ok (.astore 6, 2) := by decide +kernel
theorem dX11_does_61 : decode cX11_does 61 = .ok (.iload 4, 2) := by decide +kernel
theorem dX11_does_63 : decode cX11_does 63 = .ok (.iconst 2, 1) := by decide +kernel
theorem dX11_does_64 : decode cX11_does 64 = .ok (.if_icmp .ne 18, 3) := by decide +kernel
theorem dX11_does_67 : decode cX11_does 67 = .ok (.aload 5, 2) := by decide +kernel
theorem dX11_does_69 : decode cX11_does 69 = .ok (.aload 6, 2) := by decide +kernel
theorem dX11_does_71 : decode cX11_does 71 = .ok (.aload_n 0, 1) := by decide +kernel
theorem dX11_does_72 : decode cX11_does 72 = .ok (.getfield 12, 3) := by decide +kernel
theorem dX11_does_75 : decode cX11_does 75 = .ok (.getfield 95, 3) := by decide +kernel
theorem dX11_does_78 : decode cX11_does 78 = .ok (.invokevirtual 135, 3) := by decide +kernel
theorem dX11_does_81 : decode cX11_does 81 = .ok (.ireturn, 1) := by decide +kernel
theorem dX11_does_82 : decode cX11_does 82 = .ok (.iload 4, 2) := by decide +kernel
theorem dX11_does_84 : decode cX11_does 84 = .ok (.iconst 3, 1) := by decide +kernel
theorem dX11_does_85 : decode cX11_does 85 = .ok (.if_icmp .ne 18, 3) := by decide +kernel
theorem dX11_does_88 : decode cX11_does 88 = .ok (.aload 5, 2) := by decide +kernel
theorem dX11_does_90 : decode cX11_does 90 = .ok (.aload 6, 2) := by decide +kernel
theorem dX11_does_92 : decode cX11_does 92 = .ok (.aload_n 0, 1) := by decide +kernel
theorem dX11_does_93 : decode cX11_does 93 = .ok (.getfield 12, 3) := by decide +kernel
theorem dX11_does_96 : decode cX11_does 96 = .ok (.getfield 95, 3) := by decide +kernel
theorem dX11_does_99 : decode cX11_does 99 = .ok (.invokevirtual 139, 3) := by decide +kernel
theorem dX11_does_102 : decode cX11_does 102 = .ok (.ireturn, 1) := by decide +kernel
theorem dX11_does_103 : decode cX11_does 103 = .ok (.aload_n 0, 1) := by decide +kernel
theorem dX11_does_104 : decode cX11_does 104 = .ok (.getfield 12, 3) := by decide +kernel
theorem dX11_does_107 : decode cX11_does 107 = .ok (.iload_n 3, 1) := by decide +kernel
theorem dX11_does_108 : decode cX11_does 108 = .ok (.invokevirtual 74, 3) := by decide +kernel
theorem dX11_does_111 : decode cX11_does 111 = .ok (.ifCond .eq 8, 3) := by decide +kernel
theorem dX11_does_114 : decode cX11_does 114 = .ok (.iload_n 2, 1) := by decide +kernel
theorem dX11_does_115 : decode cX11_does 115 = .ok (.iload_n 3, 1) := by decide +kernel
theorem dX11_does_116 : decode cX11_does 116 = .ok (.if_icmp .ne 10, 3) := by decide +kernel
theorem dX11_does_119 : decode cX11_does 119 = .ok (.aload_n 0, 1) := by decide +kernel
theorem dX11_does_120 : decode cX11_does 120 = .ok (.ldc 60, 2) := by decide +kernel
theorem dX11_does_122 : decode cX11_does 122 = .ok (.invokevirtual 61, 3) := by decide +kernel
theorem dX11_does_125 : decode cX11_does 125 = .ok (.ireturn, 1) := by decide +kernel
theorem dX11_does_126 : decode cX11_does 126 = .ok (.aload_n 0, 1) := by decide +kernel
theorem dX11_does_127 : decode cX11_does 127 = .ok (.getfield 12, 3) := by decide +kernel
theorem dX11_does_130 : decode cX11_does 130 = .ok (.getfield 78, 3) := by decide +kernel
theorem dX11_does_133 : decode cX11_does 133 = .ok (.iload_n 3, 1) := by decide +kernel
theorem dX11_does_134 : decode cX11_does 134 = .ok (.aaload, 1) := by decide +kernel
theorem dX11_does_135 : decode cX11_does 135 = .ok (.astore 7, 2) := by decide +kernel
theorem dX11_does_137 : decode cX11_does 137 = .ok (.iload 4, 2) := by decide +kernel
theorem dX11_does_139 : decode cX11_does 139 = .ok (.ifCond .ne 15, 3) := by decide +kernel
theorem dX11_does_142 : decode cX11_does 142 = .ok (.aload 5, 2) := by decide +kernel
theorem dX11_does_144 : decode cX11_does 144 = .ok (.aload 6, 2) := by decide +kernel
theorem dX11_does_146 : decode cX11_does 146 = .ok (.aload 7, 2) := by decide +kernel
theorem dX11_does_148 : decode cX11_does 148 = .ok (.invokevirtual 142, 3) := by decide +kernel
theorem dX11_does_151 : decode cX11_does 151 = .ok (.goto 15, 3) := by decide +kernel
theorem dX11_does_154 : decode cX11_does 154 = .ok (.aload 5, 2) := by decide +kernel
theorem dX11_does_156 : decode cX11_does 156 = .ok (.aload 6, 2) := by decide +kernel
theorem dX11_does_158 : decode cX11_does 158 = .ok (.aload 7, 2) := by decide +kernel
theorem dX11_does_160 : decode cX11_does 160 = .ok (.invokevirtual 146, 3) := by decide +kernel
theorem dX11_does_163 : decode cX11_does 163 = .ok (.invokestatic 91, 3) := by decide +kernel
theorem dX11_does_166 : decode cX11_does 166 = .ok (.ireturn, 1) := by decide +kernel
theorem dX11_pair_0 : decode cX11_pair 0 = .ok (.aload_n 0, 1) := by decide +kernel
theorem dX11_pair_1 : decode cX11_pair 1 = .ok (.getfield 12, 3) := by decide +kernel
theorem dX11_pair_4 : decode cX11_pair 4 = .ok (.iload_n 1, 1) := by decide +kernel
theorem dX11_pair_5 : decode cX11_pair 5 = .ok (.invokevirtual 74, 3) := by decide +kernel
theorem dX11_pair_8 : decode cX11_pair 8 = .ok (.ifCond .eq 28, 3) := by decide +kernel
theorem dX11_pair_11 : decode cX11_pair 11 = .ok (.aload_n 0, 1) := by decide +kernel
theorem dX11_pair_12 : decode cX11_pair 12 = .ok (.getfield 12, 3) := by decide +kernel
theorem dX11_pair_15 : decode cX11_pair 15 = .ok (.iload_n 2, 1) := by decide +kernel
theorem dX11_pair_16 : decode cX11_pair 16 = .ok (.invokevirtual 74, 3) := by decide +kernel
theorem dX11_pair_19 : decode cX11_pair 19 = .ok (.ifCond .eq 17, 3) := by decide +kernel
theorem dX11_pair_22 : decode cX11_pair 22 = .ok (.iload_n 1, 1) := by decide +kernel
theorem dX11_pair_23 : decode cX11_pair 23 = .ok (.iload_n 2, 1) := by decide +kernel
theorem dX11_pair_24 : decode cX11_pair 24 = .ok (.if_icmp .eq 12, 3) := by decide +kernel
theorem dX11_pair_27 : decode cX11_pair 27 = .ok (.iload_n 3, 1) := by decide +kernel
theorem dX11_pair_28 : decode cX11_pair 28 = .ok (.iconst 0, 1) := by decide +kernel
theorem dX11_pair_29 : decode cX11_pair 29 = .ok (.iconst 2, 1) := by decide +kernel
theorem dX11_pair_30 : decode cX11_pair 30 = .ok (.invokestatic 56, 3) := by decide +kernel
theorem dX11_pair_33 : decode cX11_pair 33 = .ok (.ifCond .ne 10, 3) := by decide +kernel
theorem dX11_pair_36 : decode cX11_pair 36 = .ok (.aload_n 0, 1) := by decide +kernel
theorem dX11_pair_37 : decode cX11_pair 37 = .ok (.ldc 60, 2) := by decide +kernel
theorem dX11_pair_39 : decode cX11_pair 39 = .ok (.invokevirtual 61, 3) := by decide +kernel
theorem dX11_pair_42 : decode cX11_pair 42 = .ok (.ireturn, 1) := by decide +kernel
theorem dX11_pair_43 : decode cX11_pair 43 = .ok (.aload_n 0, 1) := by decide +kernel
theorem dX11_pair_44 : decode cX11_pair 44 = .ok (.getfield 12, 3) := by decide +kernel
theorem dX11_pair_47 : decode cX11_pair 47 = .ok (.getfield 78, 3) := by decide +kernel
theorem dX11_pair_50 : decode cX11_pair 50 = .ok (.iload_n 1, 1) := by decide +kernel
theorem dX11_pair_51 : decode cX11_pair 51 = .ok (.aaload, 1) := by decide +kernel
theorem dX11_pair_52 : decode cX11_pair 52 = .ok (.astore 4, 2) := by decide +kernel
theorem dX11_pair_54 : decode cX11_pair 54 = .ok (.aload_n 0, 1) := by decide +kernel
theorem dX11_pair_55 : decode cX11_pair 55 = .ok (.getfield 12, 3) := by decide +kernel
theorem dX11_pair_58 : decode cX11_pair 58 = .ok (.getfield 78, 3) := by decide +kernel
theorem dX11_pair_61 : decode cX11_pair 61 = .ok (.iload_n 2, 1) := by decide +kernel
theorem dX11_pair_62 : decode cX11_pair 62 = .ok (.aaload, 1) := by decide +kernel
theorem dX11_pair_63 : decode cX11_pair 63 = .ok (.astore 5, 2) := by decide +kernel
theorem dX11_pair_65 : decode cX11_pair 65 = .ok (.iload_n 3, 1) := by decide +kernel
theorem dX11_pair_66 : decode cX11_pair 66 = .ok (.lookupswitch 45 #[(0, 26), (1, 34)], 26) := by decide +kernel
theorem dX11_pair_92 : decode cX11_pair 92 = .ok (.aload 4, 2) := by decide +kernel
theorem dX11_pair_94 : decode cX11_pair 94 = .ok (.aload 5, 2) := by decide +kernel
theorem dX11_pair_96 : decode cX11_pair 96 = .ok (.invokevirtual 150, 3) := by decide +kernel
theorem dX11_pair_99 : decode cX11_pair 99 = .ok (.ireturn, 1) := by decide +kernel
theorem dX11_pair_100 : decode cX11_pair 100 = .ok (.aload 4, 2) := by decide +kernel
theorem dX11_pair_102 : decode cX11_pair 102 = .ok (.aload 5, 2) := by decide +kernel
theorem dX11_pair_104 : decode cX11_pair 104 = .ok (.invokevirtual 154, 3) := by decide +kernel
theorem dX11_pair_107 : decode cX11_pair 107 = .ok (.invokestatic 91, 3) := by decide +kernel
theorem dX11_pair_110 : decode cX11_pair 110 = .ok (.ireturn, 1) := by decide +kernel
theorem dX11_pair_111 : decode cX11_pair 111 = .ok (.aload 4, 2) := by decide +kernel
theorem dX11_pair_113 : decode cX11_pair 113 = .ok (.aload 5, 2) := by decide +kernel
theorem dX11_pair_115 : decode cX11_pair 115 = .ok (.invokevirtual 158, 3) := by decide +kernel
theorem dX11_pair_118 : decode cX11_pair 118 = .ok (.invokestatic 91, 3) := by decide +kernel
theorem dX11_pair_121 : decode cX11_pair 121 = .ok (.ireturn, 1) := by decide +kernel
theorem dX11_hole_0 : decode cX11_hole 0 = .ok (.iload_n 1, 1) := by decide +kernel
theorem dX11_hole_1 : decode cX11_hole 1 = .ok (.iconst 1, 1) := by decide +kernel
theorem dX11_hole_2 : decode cX11_hole 2 = .ok (.bipush 50, 2) := by decide +kernel
theorem dX11_hole_4 : decode cX11_hole 4 = .ok (.invokestatic 56, 3) := by decide +kernel
theorem dX11_hole_7 : decode cX11_hole 7 = .ok (.ifCond .ne 10, 3) := by decide +kernel
theorem dX11_hole_10 : decode cX11_hole 10 = .ok (.aload_n 0, 1) := by decide +kernel
theorem dX11_hole_11 : decode cX11_hole 11 = .ok (.ldc 60, 2) := by decide +kernel
theorem dX11_hole_13 : decode cX11_hole 13 = .ok (.invokevirtual 61, 3) := by decide +kernel
theorem dX11_hole_16 : decode cX11_hole 16 = .ok (.ireturn, 1) := by decide +kernel
theorem dX11_hole_17 : decode cX11_hole 17 = .ok (.aload_n 0, 1) := by decide +kernel
theorem dX11_hole_18 : decode cX11_hole 18 = .ok (.getfield 12, 3) := by decide +kernel
theorem dX11_hole_21 : decode cX11_hole 21 = .ok (.getfield 161, 3) := by decide +kernel
theorem dX11_hole_24 : decode cX11_hole 24 = .ok (.istore_n 2, 1) := by decide +kernel
theorem dX11_hole_25 : decode cX11_hole 25 = .ok (.aload_n 0, 1) := by decide +kernel
theorem dX11_hole_26 : decode cX11_hole 26 = .ok (.getfield 12, 3) := by decide +kernel
theorem dX11_hole_29 : decode cX11_hole 29 = .ok (.iload_n 1, 1) := by decide +kernel
theorem dX11_hole_30 : decode cX11_hole 30 = .ok (.putfield 161, 3) := by decide +kernel
theorem dX11_hole_33 : decode cX11_hole 33 = .ok (.iload_n 2, 1) := by decide +kernel
theorem dX11_hole_34 : decode cX11_hole 34 = .ok (.ireturn, 1) := by decide +kernel
theorem dX11_stroke_0 : decode cX11_stroke 0 = .ok (.iload_n 1, 1) := by decide +kernel
theorem dX11_stroke_1 : decode cX11_stroke 1 = .ok (.iconst 1, 1) := by decide +kernel
theorem dX11_stroke_2 : decode cX11_stroke 2 = .ok (.sipush 400, 3) := by decide +kernel
theorem dX11_stroke_5 : decode cX11_stroke 5 = .ok (.invokestatic 56, 3) := by decide +kernel
theorem dX11_stroke_8 : decode cX11_stroke 8 = .ok (.ifCond .eq 13, 3) := by decide +kernel
theorem dX11_stroke_11 : decode cX11_stroke 11 = .ok (.iload_n 2, 1) := by decide +kernel
theorem dX11_stroke_12 : decode cX11_stroke 12 = .ok (.iconst 1, 1) := by decide +kernel
theorem dX11_stroke_13 : decode cX11_stroke 13 = .ok (.bipush 99, 2) := by decide +kernel
theorem dX11_stroke_15 : decode cX11_stroke 15 = .ok (.invokestatic 56, 3) := by decide +kernel
theorem dX11_stroke_18 : decode cX11_stroke 18 = .ok (.ifCond .ne 10, 3) := by decide +kernel
theorem dX11_stroke_21 : decode cX11_stroke 21 = .ok (.aload_n 0, 1) := by decide +kernel
theorem dX11_stroke_22 : decode cX11_stroke 22 = .ok (.ldc 60, 2) := by decide +kernel
theorem dX11_stroke_24 : decode cX11_stroke 24 = .ok (.invokevirtual 61, 3) := by decide +kernel
theorem dX11_stroke_27 : decode cX11_stroke 27 = .ok (.ireturn, 1) := by decide +kernel
theorem dX11_stroke_28 : decode cX11_stroke 28 = .ok (.aload_n 0, 1) := by decide +kernel
theorem dX11_stroke_29 : decode cX11_stroke 29 = .ok (.getfield 12, 3) := by decide +kernel
theorem dX11_stroke_32 : decode cX11_stroke 32 = .ok (.invokevirtual 65, 3) := by decide +kernel
theorem dX11_stroke_35 : decode cX11_stroke 35 = .ok (.ifCond .eq 10, 3) := by decide +kernel
theorem dX11_stroke_38 : decode cX11_stroke 38 = .ok (.aload_n 0, 1) := by decide +kernel
theorem dX11_stroke_39 : decode cX11_stroke 39 = .ok (.ldc 69, 2) := by decide +kernel
theorem dX11_stroke_41 : decode cX11_stroke 41 = .ok (.invokevirtual 61, 3) := by decide +kernel
theorem dX11_stroke_44 : decode cX11_stroke 44 = .ok (.ireturn, 1) := by decide +kernel
theorem dX11_stroke_45 : decode cX11_stroke 45 = .ok (.aload_n 0, 1) := by decide +kernel
theorem dX11_stroke_46 : decode cX11_stroke 46 = .ok (.getfield 12, 3) := by decide +kernel
theorem dX11_stroke_49 : decode cX11_stroke 49 = .ok (.iload_n 1, 1) := by decide +kernel
theorem dX11_stroke_50 : decode cX11_stroke 50 = .ok (.iload_n 2, 1) := by decide +kernel
theorem dX11_stroke_51 : decode cX11_stroke 51 = .ok (.invokevirtual 164, 3) := by decide +kernel
theorem dX11_stroke_54 : decode cX11_stroke 54 = .ok (.ireturn, 1) := by decide +kernel
theorem dX11_trails_0 : decode cX11_trails 0 = .ok (.iload_n 1, 1) := by decide +kernel
theorem dX11_trails_1 : decode cX11_trails 1 = .ok (.iconst 1, 1) := by decide +kernel
theorem dX11_trails_2 : decode cX11_trails 2 = .ok (.sipush 400, 3) := by decide +kernel
theorem dX11_trails_5 : decode cX11_trails 5 = .ok (.invokestatic 56, 3) := by decide +kernel
theorem dX11_trails_8 : decode cX11_trails 8 = .ok (.ifCond .eq 14, 3) := by decide +kernel
theorem dX11_trails_11 : decode cX11_trails 11 = .ok (.aload_n 0, 1) := by decide +kernel
theorem dX11_trails_12 : decode cX11_trails 12 = .ok (.getfield 12, 3) := by decide +kernel
theorem dX11_trails_15 : decode cX11_trails 15 = .ok (.iload_n 1, 1) := by decide +kernel
theorem dX11_trails_16 : decode cX11_trails 16 = .ok (.invokevirtual 168, 3) := by decide +kernel
theorem dX11_trails_19 : decode cX11_trails 19 = .ok (.goto 9, 3) := by decide +kernel
theorem dX11_trails_22 : decode cX11_trails 22 = .ok (.aload_n 0, 1) := by decide +kernel
theorem dX11_trails_23 : decode cX11_trails 23 = .ok (.ldc 60, 2) := by decide +kernel
theorem dX11_trails_25 : decode cX11_trails 25 = .ok (.invokevirtual 61, 3) := by decide +kernel
theorem dX11_trails_28 : decode cX11_trails 28 = .ok (.ireturn, 1) := by decide +kernel
theorem dX11_feed_0 : decode cX11_feed 0 = .ok (.iload_n 3, 1) := by decide +kernel
theorem dX11_feed_1 : decode cX11_feed 1 = .ok (.iconst 1, 1) := by decide +kernel
theorem dX11_feed_2 : decode cX11_feed 2 = .ok (.bipush 8, 2) := by decide +kernel
theorem dX11_feed_4 : decode cX11_feed 4 = .ok (.invokestatic 56, 3) := by decide +kernel
theorem dX11_feed_7 : decode cX11_feed 7 = .ok (.ifCond .ne 10, 3) := by decide +kernel
theorem dX11_feed_10 : decode cX11_feed 10 = .ok (.aload_n 0, 1) := by decide +kernel
theorem dX11_feed_11 : decode cX11_feed 11 = .ok (.ldc 60, 2) := by decide +kernel
theorem dX11_feed_13 : decode cX11_feed 13 = .ok (.invokevirtual 61, 3) := by decide +kernel
theorem dX11_feed_16 : decode cX11_feed 16 = .ok (.ireturn, 1) := by decide +kernel
theorem dX11_feed_17 : decode cX11_feed 17 = .ok (.aload_n 0, 1) := by decide +kernel
theorem dX11_feed_18 : decode cX11_feed 18 = .ok (.getfield 12, 3) := by decide +kernel
theorem dX11_feed_21 : decode cX11_feed 21 = .ok (.getfield 171, 3) := by decide +kernel
theorem dX11_feed_24 : decode cX11_feed 24 = .ok (.getfield 174, 3) := by decide +kernel
theorem dX11_feed_27 : decode cX11_feed 27 = .ok (.iload_n 3, 1) := by decide +kernel
theorem dX11_feed_28 : decode cX11_feed 28 = .ok (.iadd, 1) := by decide +kernel
theorem dX11_feed_29 : decode cX11_feed 29 = .ok (.bipush 50, 2) := by decide +kernel
theorem dX11_feed_31 : decode cX11_feed 31 = .ok (.if_icmp .le 10, 3) := by decide +kernel
theorem dX11_feed_34 : decode cX11_feed 34 = .ok (.aload_n 0, 1) := by decide +kernel
theorem dX11_feed_35 : decode cX11_feed 35 = .ok (.ldc 69, 2) := by decide +kernel
theorem dX11_feed_37 : decode cX11_feed 37 = .ok (.invokevirtual 61, 3) := by decide +kernel
theorem dX11_feed_40 : decode cX11_feed 40 = .ok (.ireturn, 1) := by decide +kernel
theorem dX11_feed_41 : decode cX11_feed 41 = .ok (.iconst 0, 1) := by decide +kernel
theorem dX11_feed_42 : decode cX11_feed 42 = .ok (.istore 4, 2) := by decide +kernel
theorem dX11_feed_44 : decode cX11_feed 44 = .ok (.iload 4, 2) := by decide +kernel
theorem dX11_feed_46 : decode cX11_feed 46 = .ok (.iload_n 3, 1) := by decide +kernel
theorem dX11_feed_47 : decode cX11_feed 47 = .ok (.if_icmp .ge 31, 3) := by decide +kernel
theorem dX11_feed_50 : decode cX11_feed 50 = .ok (.aload_n 0, 1) := by decide +kernel
theorem dX11_feed_51 : decode cX11_feed 51 = .ok (.getfield 12, 3) := by decide +kernel
theorem dX11_feed_54 : decode cX11_feed 54 = .ok (.getfield 171, 3) := by decide +kernel
theorem dX11_feed_57 : decode cX11_feed 57 = .ok (.lload_n 1, 1) := by decide +kernel
theorem dX11_feed_58 : decode cX11_feed 58 = .ok (.bipush 8, 2) := by decide +kernel
theorem dX11_feed_60 : decode cX11_feed 60 = .ok (.iload 4, 2) := by decide +kernel
theorem dX11_feed_62 : decode cX11_feed 62 = .ok (.imul, 1) := by decide +kernel
theorem dX11_feed_63 : decode cX11_feed 63 = .ok (.lshr, 1) := by decide +kernel
theorem dX11_feed_64 : decode cX11_feed 64 = .ok (.ldc2_w 177, 3) := by decide +kernel
theorem dX11_feed_67 : decode cX11_feed 67 = .ok (.land, 1) := by decide +kernel
theorem dX11_feed_68 : decode cX11_feed 68 = .ok (.l2i, 1) := by decide +kernel
theorem dX11_feed_69 : decode cX11_feed 69 = .ok (.invokevirtual 179, 3) := by decide +kernel
theorem dX11_feed_72 : decode cX11_feed 72 = .ok (.iinc 4 1, 3) := by decide +kernel
theorem dX11_feed_75 : decode cX11_feed 75 = .ok (.goto (-31), 3) := by decide +kernel
theorem dX11_feed_78 : decode cX11_feed 78 = .ok (.aload_n 0, 1) := by decide +kernel
theorem dX11_feed_79 : decode cX11_feed 79 = .ok (.getfield 12, 3) := by decide +kernel
theorem dX11_feed_82 : decode cX11_feed 82 = .ok (.getfield 171, 3) := by decide +kernel
theorem dX11_feed_85 : decode cX11_feed 85 = .ok (.getfield 174, 3) := by decide +kernel
theorem dX11_feed_88 : decode cX11_feed 88 = .ok (.ireturn, 1) := by decide +kernel
theorem dX11_text_0 : decode cX11_text 0 = .ok (.iload_n 1, 1) := by decide +kernel
theorem dX11_text_1 : decode cX11_text 1 = .ok (.iconst 0, 1) := by decide +kernel
theorem dX11_text_2 : decode cX11_text 2 = .ok (.iconst 1, 1) := by decide +kernel
theorem dX11_text_3 : decode cX11_text 3 = .ok (.invokestatic 56, 3) := by decide +kernel
theorem dX11_text_6 : decode cX11_text 6 = .ok (.ifCond .ne 10, 3) := by decide +kernel
theorem dX11_text_9 : decode cX11_text 9 = .ok (.aload_n 0, 1) := by decide +kernel
theorem dX11_text_10 : decode cX11_text 10 = .ok (.ldc 60, 2) := by decide +kernel
theorem dX11_text_12 : decode cX11_text 12 = .ok (.invokevirtual 61, 3) := by decide +kernel
theorem dX11_text_15 : decode cX11_text 15 = .ok (.ireturn, 1) := by decide +kernel
theorem dX11_text_16 : decode cX11_text 16 = .ok (.aload_n 0, 1) := by decide +kernel
theorem dX11_text_17 : decode cX11_text 17 = .ok (.getfield 45, 3) := by decide +kernel
theorem dX11_text_20 : decode cX11_text 20 = .ok (.aload_n 0, 1) := by decide +kernel
theorem dX11_text_21 : decode cX11_text 21 = .ok (.getfield 12, 3) := by decide +kernel
theorem dX11_text_24 : decode cX11_text 24 = .ok (.getfield 171, 3) := by decide +kernel
theorem dX11_text_27 : decode cX11_text 27 = .ok (.iload_n 1, 1) := by decide +kernel
theorem dX11_text_28 : decode cX11_text 28 = .ok (.ifCond .ne 8, 3) := by decide +kernel
theorem dX11_text_31 : decode cX11_text 31 = .ok (.ldc 182, 2) := by decide +kernel
theorem dX11_text_33 : decode cX11_text 33 = .ok (.goto 5, 3) := by decide +kernel
theorem dX11_text_36 : decode cX11_text 36 = .ok (.ldc 184, 2) := by decide +kernel
theorem dX11_text_38 : decode cX11_text 38 = .ok (.invokevirtual 186, 3) := by decide +kernel
theorem dX11_text_41 : decode cX11_text 41 = .ok (.istore_n 2, 1) := by decide +kernel
theorem dX11_text_42 : decode cX11_text 42 = .ok (.aload_n 0, 1) := by decide +kernel
theorem dX11_text_43 : decode cX11_text 43 = .ok (.getfield 12, 3) := by decide +kernel
theorem dX11_text_46 : decode cX11_text 46 = .ok (.getfield 171, 3) := by decide +kernel
theorem dX11_text_49 : decode cX11_text 49 = .ok (.iconst 0, 1) := by decide +kernel
theorem dX11_text_50 : decode cX11_text 50 = .ok (.putfield 174, 3) := by decide +kernel
theorem dX11_text_53 : decode cX11_text 53 = .ok (.iload_n 2, 1) := by decide +kernel
theorem dX11_text_54 : decode cX11_text 54 = .ok (.ifCond .lt 8, 3) := by decide +kernel
theorem dX11_text_57 : decode cX11_text 57 = .ok (.bipush (-10), 2) := by decide +kernel
theorem dX11_text_59 : decode cX11_text 59 = .ok (.iload_n 2, 1) := by decide +kernel
theorem dX11_text_60 : decode cX11_text 60 = .ok (.isub, 1) := by decide +kernel
theorem dX11_text_61 : decode cX11_text 61 = .ok (.ireturn, 1) := by decide +kernel
theorem dX11_text_62 : decode cX11_text 62 = .ok (.aload_n 0, 1) := by decide +kernel
theorem dX11_text_63 : decode cX11_text 63 = .ok (.getfield 12, 3) := by decide +kernel
theorem dX11_text_66 : decode cX11_text 66 = .ok (.getfield 190, 3) := by decide +kernel
theorem dX11_text_69 : decode cX11_text 69 = .ok (.iload_n 1, 1) := by decide +kernel
theorem dX11_text_70 : decode cX11_text 70 = .ok (.aaload, 1) := by decide +kernel
theorem dX11_text_71 : decode cX11_text 71 = .ok (.aload_n 0, 1) := by decide +kernel
theorem dX11_text_72 : decode cX11_text 72 = .ok (.getfield 45, 3) := by decide +kernel
theorem dX11_text_75 : decode cX11_text 75 = .ok (.invokevirtual 194, 3) := by decide +kernel
theorem dX11_text_78 : decode cX11_text 78 = .ok (.iconst 1, 1) := by decide +kernel
theorem dX11_text_79 : decode cX11_text 79 = .ok (.ireturn, 1) := by decide +kernel
theorem dX11_gives_0 : decode cX11_gives 0 = .ok (.iload_n 1, 1) := by decide +kernel
theorem dX11_gives_1 : decode cX11_gives 1 = .ok (.iconst 0, 1) := by decide +kernel
theorem dX11_gives_2 : decode cX11_gives 2 = .ok (.iconst 1, 1) := by decide +kernel
theorem dX11_gives_3 : decode cX11_gives 3 = .ok (.invokestatic 56, 3) := by decide +kernel
theorem dX11_gives_6 : decode cX11_gives 6 = .ok (.ifCond .eq 18, 3) := by decide +kernel
theorem dX11_gives_9 : decode cX11_gives 9 = .ok (.aload_n 0, 1) := by decide +kernel
theorem dX11_gives_10 : decode cX11_gives 10 = .ok (.getfield 12, 3) := by decide +kernel
theorem dX11_gives_13 : decode cX11_gives 13 = .ok (.iload_n 1, 1) := by decide +kernel
theorem dX11_gives_14 : decode cX11_gives 14 = .ok (.iload_n 2, 1) := by decide +kernel
theorem dX11_gives_15 : decode cX11_gives 15 = .ok (.iload_n 3, 1) := by decide +kernel
theorem dX11_gives_16 : decode cX11_gives 16 = .ok (.iload 4, 2) := by decide +kernel
theorem dX11_gives_18 : decode cX11_gives 18 = .ok (.invokevirtual 198, 3) := by decide +kernel
theorem dX11_gives_21 : decode cX11_gives 21 = .ok (.goto 9, 3) := by decide +kernel
theorem dX11_gives_24 : decode cX11_gives 24 = .ok (.aload_n 0, 1) := by decide +kernel
theorem dX11_gives_25 : decode cX11_gives 25 = .ok (.ldc 60, 2) := by decide +kernel
theorem dX11_gives_27 : decode cX11_gives 27 = .ok (.invokevirtual 61, 3) := by decide +kernel
theorem dX11_gives_30 : decode cX11_gives 30 = .ok (.ireturn, 1) := by decide +kernel
theorem dX11_ticks_0 : decode cX11_ticks 0 = .ok (.aload_n 0, 1) := by decide +kernel
theorem dX11_ticks_1 : decode cX11_ticks 1 = .ok (.iload_n 1, 1) := by decide +kernel
theorem dX11_ticks_2 : decode cX11_ticks 2 = .ok (.iconst 0, 1) := by decide +kernel
theorem dX11_ticks_3 : decode cX11_ticks 3 = .ok (.invokevirtual 202, 3) := by decide +kernel
theorem dX11_ticks_6 : decode cX11_ticks 6 = .ok (.ireturn, 1) := by decide +kernel
theorem dX11_breeze_0 : decode cX11_breeze 0 = .ok (.aload_n 0, 1) := by decide +kernel
theorem dX11_breeze_1 : decode cX11_breeze 1 = .ok (.iload_n 1, 1) := by decide +kernel
theorem dX11_breeze_2 : decode cX11_breeze 2 = .ok (.iconst 1, 1) := by decide +kernel
theorem dX11_breeze_3 : decode cX11_breeze 3 = .ok (.invokevirtual 202, 3) := by decide +kernel
theorem dX11_breeze_6 : decode cX11_breeze 6 = .ok (.ireturn, 1) := by decide +kernel
theorem dX11_front_0 : decode cX11_front 0 = .ok (.aload_n 0, 1) := by decide +kernel
theorem dX11_front_1 : decode cX11_front 1 = .ok (.getfield 12, 3) := by decide +kernel
theorem dX11_front_4 : decode cX11_front 4 = .ok (.invokevirtual 206, 3) := by decide +kernel
theorem dX11_front_7 : decode cX11_front 7 = .ok (.istore_n 1, 1) := by decide +kernel
theorem dX11_front_8 : decode cX11_front 8 = .ok (.iload_n 1, 1) := by decide +kernel
theorem dX11_front_9 : decode cX11_front 9 = .ok (.ifCond .ge 12, 3) := by decide +kernel
theorem dX11_front_12 : decode cX11_front 12 = .ok (.aload_n 0, 1) := by decide +kernel
theorem dX11_front_13 : decode cX11_front 13 = .ok (.ldc 210, 2) := by decide +kernel
theorem dX11_front_15 : decode cX11_front 15 = .ok (.invokevirtual 61, 3) := by decide +kernel
theorem dX11_front_18 : decode cX11_front 18 = .ok (.goto 4, 3) := by decide +kernel
theorem dX11_front_21 : decode cX11_front 21 = .ok (.iload_n 1, 1) := by decide +kernel
theorem dX11_front_22 : decode cX11_front 22 = .ok (.ireturn, 1) := by decide +kernel
theorem dX11_then_0 : decode cX11_then 0 = .ok (.iload_n 1, 1) := by decide +kernel
theorem dX11_then_1 : decode cX11_then 1 = .ok (.invokestatic 211, 3) := by decide +kernel
theorem dX11_then_4 : decode cX11_then 4 = .ok (.ifCond .eq 24, 3) := by decide +kernel
theorem dX11_then_7 : decode cX11_then 7 = .ok (.aload_n 0, 1) := by decide +kernel
theorem dX11_then_8 : decode cX11_then 8 = .ok (.getfield 12, 3) := by decide +kernel
theorem dX11_then_11 : decode cX11_then 11 = .ok (.iload_n 2, 1) := by decide +kernel
theorem dX11_then_12 : decode cX11_then 12 = .ok (.invokevirtual 74, 3) := by decide +kernel
theorem dX11_then_15 : decode cX11_then 15 = .ok (.ifCond .eq 13, 3) := by decide +kernel
theorem dX11_then_18 : decode cX11_then 18 = .ok (.iload_n 3, 1) := by decide +kernel
theorem dX11_then_19 : decode cX11_then 19 = .ok (.iconst 0, 1) := by decide +kernel
theorem dX11_then_20 : decode cX11_then 20 = .ok (.bipush 7, 2) := by decide +kernel
theorem dX11_then_22 : decode cX11_then 22 = .ok (.invokestatic 56, 3) := by decide +kernel
theorem dX11_then_25 : decode cX11_then 25 = .ok (.ifCond .ne 10, 3) := by decide +kernel
theorem dX11_then_28 : decode cX11_then 28 = .ok (.aload_n 0, 1) := by decide +kernel
theorem dX11_then_29 : decode cX11_then 29 = .ok (.ldc 60, 2) := by decide +kernel
theorem dX11_then_31 : decode cX11_then 31 = .ok (.invokevirtual 61, 3) := by decide +kernel
theorem dX11_then_34 : decode cX11_then 34 = .ok (.ireturn, 1) := by decide +kernel
theorem dX11_then_35 : decode cX11_then 35 = .ok (.aload_n 0, 1) := by decide +kernel
theorem dX11_then_36 : decode cX11_then 36 = .ok (.iload_n 1, 1) := by decide +kernel
theorem dX11_then_37 : decode cX11_then 37 = .ok (.invokevirtual 214, 3) := by decide +kernel
theorem dX11_then_40 : decode cX11_then 40 = .ok (.aload_n 0, 1) := by decide +kernel
theorem dX11_then_41 : decode cX11_then 41 = .ok (.getfield 16, 3) := by decide +kernel
theorem dX11_then_44 : decode cX11_then 44 = .ok (.getfield 78, 3) := by decide +kernel
theorem dX11_then_47 : decode cX11_then 47 = .ok (.iload_n 2, 1) := by decide +kernel
theorem dX11_then_48 : decode cX11_then 48 = .ok (.aaload, 1) := by decide +kernel
theorem dX11_then_49 : decode cX11_then 49 = .ok (.iload_n 3, 1) := by decide +kernel
theorem dX11_then_50 : decode cX11_then 50 = .ok (.invokevirtual 82, 3) := by decide +kernel
theorem dX11_then_53 : decode cX11_then 53 = .ok (.ireturn, 1) := by decide +kernel
theorem dX11_whole_0 : decode cX11_whole 0 = .ok (.iload_n 1, 1) := by decide +kernel
theorem dX11_whole_1 : decode cX11_whole 1 = .ok (.invokestatic 211, 3) := by decide +kernel
theorem dX11_whole_4 : decode cX11_whole 4 = .ok (.ifCond .ne 10, 3) := by decide +kernel
theorem dX11_whole_7 : decode cX11_whole 7 = .ok (.aload_n 0, 1) := by decide +kernel
theorem dX11_whole_8 : decode cX11_whole 8 = .ok (.ldc 60, 2) := by decide +kernel
theorem dX11_whole_10 : decode cX11_whole 10 = .ok (.invokevirtual 61, 3) := by decide +kernel
theorem dX11_whole_13 : decode cX11_whole 13 = .ok (.ireturn, 1) := by decide +kernel
theorem dX11_whole_14 : decode cX11_whole 14 = .ok (.aload_n 0, 1) := by decide +kernel
theorem dX11_whole_15 : decode cX11_whole 15 = .ok (.iload_n 1, 1) := by decide +kernel
theorem dX11_whole_16 : decode cX11_whole 16 = .ok (.invokevirtual 214, 3) := by decide +kernel
theorem dX11_whole_19 : decode cX11_whole 19 = .ok (.aload_n 0, 1) := by decide +kernel
theorem dX11_whole_20 : decode cX11_whole 20 = .ok (.getfield 16, 3) := by decide +kernel
theorem dX11_whole_23 : decode cX11_whole 23 = .ok (.invokevirtual 217, 3) := by decide +kernel
theorem dX11_whole_26 : decode cX11_whole 26 = .ok (.ireturn, 1) := by decide +kernel
theorem dX11_turns_0 : decode cX11_turns 0 = .ok (.iload_n 1, 1) := by decide +kernel
theorem dX11_turns_1 : decode cX11_turns 1 = .ok (.invokestatic 211, 3) := by decide +kernel
theorem dX11_turns_4 : decode cX11_turns 4 = .ok (.ifCond .ne 10, 3) := by decide +kernel
theorem dX11_turns_7 : decode cX11_turns 7 = .ok (.aload_n 0, 1) := by decide +kernel
theorem dX11_turns_8 : decode cX11_turns 8 = .ok (.ldc 60, 2) := by decide +kernel
theorem dX11_turns_10 : decode cX11_turns 10 = .ok (.invokevirtual 61, 3) := by decide +kernel
theorem dX11_turns_13 : decode cX11_turns 13 = .ok (.ireturn, 1) := by decide +kernel
theorem dX11_turns_14 : decode cX11_turns 14 = .ok (.aload_n 0, 1) := by decide +kernel
theorem dX11_turns_15 : decode cX11_turns 15 = .ok (.getfield 16, 3) := by decide +kernel
theorem dX11_turns_18 : decode cX11_turns 18 = .ok (.aload_n 0, 1) := by decide +kernel
theorem dX11_turns_19 : decode cX11_turns 19 = .ok (.getfield 12, 3) := by decide +kernel
theorem dX11_turns_22 : decode cX11_turns 22 = .ok (.invokevirtual 220, 3) := by decide +kernel
theorem dX11_turns_25 : decode cX11_turns 25 = .ok (.aload_n 0, 1) := by decide +kernel
theorem dX11_turns_26 : decode cX11_turns 26 = .ok (.getfield 16, 3) := by decide +kernel
theorem dX11_turns_29 : decode cX11_turns 29 = .ok (.iload_n 1, 1) := by decide +kernel
theorem dX11_turns_30 : decode cX11_turns 30 = .ok (.bipush 60, 2) := by decide +kernel
theorem dX11_turns_32 : decode cX11_turns 32 = .ok (.invokevirtual 223, 3) := by decide +kernel
theorem dX11_turns_35 : decode cX11_turns 35 = .ok (.ireturn, 1) := by decide +kernel
theorem dX11_far_0 : decode cX11_far 0 = .ok (.iload_n 1, 1) := by decide +kernel
theorem dX11_far_1 : decode cX11_far 1 = .ok (.invokestatic 211, 3) := by decide +kernel
theorem dX11_far_4 : decode cX11_far 4 = .ok (.ifCond .eq 14, 3) := by decide +kernel
theorem dX11_far_7 : decode cX11_far 7 = .ok (.aload_n 0, 1) := by decide +kernel
theorem dX11_far_8 : decode cX11_far 8 = .ok (.getfield 12, 3) := by decide +kernel
theorem dX11_far_11 : decode cX11_far 11 = .ok (.iload_n 2, 1) := by decide +kernel
theorem dX11_far_12 : decode cX11_far 12 = .ok (.invokevirtual 74, 3) := by decide +kernel
theorem dX11_far_15 : decode cX11_far 15 = .ok (.ifCond .ne 10, 3) := by decide +kernel
theorem dX11_far_18 : decode cX11_far 18 = .ok (.aload_n 0, 1) := by decide +kernel
theorem dX11_far_19 : decode cX11_far 19 = .ok (.ldc 60, 2) := by decide +kernel
theorem dX11_far_21 : decode cX11_far 21 = .ok (.invokevirtual 61, 3) := by decide +kernel
theorem dX11_far_24 : decode cX11_far 24 = .ok (.ireturn, 1) := by decide +kernel
theorem dX11_far_25 : decode cX11_far 25 = .ok (.aload_n 0, 1) := by decide +kernel
theorem dX11_far_26 : decode cX11_far 26 = .ok (.getfield 12, 3) := by decide +kernel
theorem dX11_far_29 : decode cX11_far 29 = .ok (.getfield 78, 3) := by decide +kernel
theorem dX11_far_32 : decode cX11_far 32 = .ok (.iload_n 2, 1) := by decide +kernel
theorem dX11_far_33 : decode cX11_far 33 = .ok (.aaload, 1) := by decide +kernel
theorem dX11_far_34 : decode cX11_far 34 = .ok (.getfield 87, 3) := by decide +kernel
theorem dX11_far_37 : decode cX11_far 37 = .ok (.ifCond .ne 10, 3) := by decide +kernel
theorem dX11_far_40 : decode cX11_far 40 = .ok (.aload_n 0, 1) := by decide +kernel
theorem dX11_far_41 : decode cX11_far 41 = .ok (.ldc 210, 2) := by decide +kernel
theorem dX11_far_43 : decode cX11_far 43 = .ok (.invokevirtual 61, 3) := by decide +kernel
theorem dX11_far_46 : decode cX11_far 46 = .ok (.ireturn, 1) := by decide +kernel
theorem dX11_far_47 : decode cX11_far 47 = .ok (.aload_n 0, 1) := by decide +kernel
theorem dX11_far_48 : decode cX11_far 48 = .ok (.getfield 16, 3) := by decide +kernel
theorem dX11_far_51 : decode cX11_far 51 = .ok (.aload_n 0, 1) := by decide +kernel
theorem dX11_far_52 : decode cX11_far 52 = .ok (.getfield 12, 3) := by decide +kernel
theorem dX11_far_55 : decode cX11_far 55 = .ok (.invokevirtual 220, 3) := by decide +kernel
theorem dX11_far_58 : decode cX11_far 58 = .ok (.aload_n 0, 1) := by decide +kernel
theorem dX11_far_59 : decode cX11_far 59 = .ok (.getfield 16, 3) := by decide +kernel
theorem dX11_far_62 : decode cX11_far 62 = .ok (.iload_n 1, 1) := by decide +kernel
theorem dX11_far_63 : decode cX11_far 63 = .ok (.iload_n 2, 1) := by decide +kernel
theorem dX11_far_64 : decode cX11_far 64 = .ok (.invokevirtual 226, 3) := by decide +kernel
theorem dX11_far_67 : decode cX11_far 67 = .ok (.ireturn, 1) := by decide +kernel
theorem dX11_knock_0 : decode cX11_knock 0 = .ok (.iload_n 1, 1) := by decide +kernel
theorem dX11_knock_1 : decode cX11_knock 1 = .ok (.invokestatic 211, 3) := by decide +kernel
theorem dX11_knock_4 : decode cX11_knock 4 = .ok (.ifCond .eq 25, 3) := by decide +kernel
theorem dX11_knock_7 : decode cX11_knock 7 = .ok (.aload_n 0, 1) := by decide +kernel
theorem dX11_knock_8 : decode cX11_knock 8 = .ok (.getfield 12, 3) := by decide +kernel
theorem dX11_knock_11 : decode cX11_knock 11 = .ok (.iload_n 2, 1) := by decide +kernel
theorem dX11_knock_12 : decode cX11_knock 12 = .ok (.invokevirtual 74, 3) := by decide +kernel
theorem dX11_knock_15 : decode cX11_knock 15 = .ok (.ifCond .eq 14, 3) := by decide +kernel
theorem dX11_knock_18 : decode cX11_knock 18 = .ok (.iload_n 3, 1) := by decide +kernel
theorem dX11_knock_19 : decode cX11_knock 19 = .ok (.ldc 54, 2) := by decide +kernel
theorem dX11_knock_21 : decode cX11_knock 21 = .ok (.ldc 55, 2) := by decide +kernel
theorem dX11_knock_23 : decode cX11_knock 23 = .ok (.invokestatic 56, 3) := by decide +kernel
theorem dX11_knock_26 : decode cX11_knock 26 = .ok (.ifCond .ne 10, 3) := by decide +kernel
theorem dX11_knock_29 : decode cX11_knock 29 = .ok (.aload_n 0, 1) := by decide +kernel
theorem dX11_knock_30 : decode cX11_knock 30 = .ok (.ldc 60, 2) := by decide +kernel
theorem dX11_knock_32 : decode cX11_knock 32 = .ok (.invokevirtual 61, 3) := by decide +kernel
theorem dX11_knock_35 : decode cX11_knock 35 = .ok (.ireturn, 1) := by decide +kernel
theorem dX11_knock_36 : decode cX11_knock 36 = .ok (.aload_n 0, 1) := by decide +kernel
theorem dX11_knock_37 : decode cX11_knock 37 = .ok (.getfield 16, 3) := by decide +kernel
theorem dX11_knock_40 : decode cX11_knock 40 = .ok (.aload_n 0, 1) := by decide +kernel
theorem dX11_knock_41 : decode cX11_knock 41 = .ok (.getfield 12, 3) := by decide +kernel
theorem dX11_knock_44 : decode cX11_knock 44 = .ok (.invokevirtual 220, 3) := by decide +kernel
theorem dX11_knock_47 : decode cX11_knock 47 = .ok (.aload_n 0, 1) := by decide +kernel
theorem dX11_knock_48 : decode cX11_knock 48 = .ok (.getfield 16, 3) := by decide +kernel
theorem dX11_knock_51 : decode cX11_knock 51 = .ok (.getfield 78, 3) := by decide +kernel
theorem dX11_knock_54 : decode cX11_knock 54 = .ok (.iload_n 2, 1) := by decide +kernel
theorem dX11_knock_55 : decode cX11_knock 55 = .ok (.aaload, 1) := by decide +kernel
theorem dX11_knock_56 : decode cX11_knock 56 = .ok (.astore 4, 2) := by decide +kernel
theorem dX11_knock_58 : decode cX11_knock 58 = .ok (.iconst 0, 1) := by decide +kernel
theorem dX11_knock_59 : decode cX11_knock 59 = .ok (.istore 5, 2) := by decide +kernel
theorem dX11_knock_61 : decode cX11_knock 61 = .ok (.iload 5, 2) := by decide +kernel
theorem dX11_knock_63 : decode cX11_knock 63 = .ok (.iload_n 1, 1) := by decide +kernel
theorem dX11_knock_64 : decode cX11_knock 64 = .ok (.if_icmp .gt 50, 3) := by decide +kernel
theorem dX11_knock_67 : decode cX11_knock 67 = .ok (.aload 4, 2) := by decide +kernel
theorem dX11_knock_69 : decode cX11_knock 69 = .ok (.getfield 87, 3) := by decide +kernel
theorem dX11_knock_72 : decode cX11_knock 72 = .ok (.ifCond .eq 42, 3) := by decide +kernel
theorem dX11_knock_75 : decode cX11_knock 75 = .ok (.aload 4, 2) := by decide +kernel
theorem dX11_knock_77 : decode cX11_knock 77 = .ok (.getfield 229, 3) := by decide +kernel
theorem dX11_knock_80 : decode cX11_knock 80 = .ok (.iload_n 3, 1) := by decide +kernel
theorem dX11_knock_81 : decode cX11_knock 81 = .ok (.if_icmp .lt 20, 3) := by decide +kernel
theorem dX11_knock_84 : decode cX11_knock 84 = .ok (.aload 4, 2) := by decide +kernel
theorem dX11_knock_86 : decode cX11_knock 86 = .ok (.getfield 232, 3) := by decide +kernel
theorem dX11_knock_89 : decode cX11_knock 89 = .ok (.bipush 100, 2) := by decide +kernel
theorem dX11_knock_91 : decode cX11_knock 91 = .ok (.imul, 1) := by decide +kernel
theorem dX11_knock_92 : decode cX11_knock 92 = .ok (.aload 4, 2) := by decide +kernel
theorem dX11_knock_94 : decode cX11_knock 94 = .ok (.getfield 235, 3) := by decide +kernel
theorem dX11_knock_97 : decode cX11_knock 97 = .ok (.invokestatic 238, 3) := by decide +kernel
theorem dX11_knock_100 : decode cX11_knock 100 = .ok (.ireturn, 1) := by decide +kernel
theorem dX11_knock_101 : decode cX11_knock 101 = .ok (.aload_n 0, 1) := by decide +kernel
theorem dX11_knock_102 : decode cX11_knock 102 = .ok (.getfield 16, 3) := by decide +kernel
theorem dX11_knock_105 : decode cX11_knock 105 = .ok (.invokevirtual 241, 3) := by decide +kernel
theorem dX11_knock_108 : decode cX11_knock 108 = .ok (.iinc 5 1, 3) := by decide +kernel
theorem dX11_knock_111 : decode cX11_knock 111 = .ok (.goto (-50), 3) := by decide +kernel
theorem dX11_knock_114 : decode cX11_knock 114 = .ok (.aload_n 0, 1) := by decide +kernel
theorem dX11_knock_115 : decode cX11_knock 115 = .ok (.ldc 210, 2) := by decide +kernel
theorem dX11_knock_117 : decode cX11_knock 117 = .ok (.invokevirtual 61, 3) := by decide +kernel
theorem dX11_knock_120 : decode cX11_knock 120 = .ok (.ireturn, 1) := by decide +kernel
theorem dX11_farthest_0 : decode cX11_farthest 0 = .ok (.iload_n 1, 1) := by decide +kernel
theorem dX11_farthest_1 : decode cX11_farthest 1 = .ok (.invokestatic 211, 3) := by decide +kernel
theorem dX11_farthest_4 : decode cX11_farthest 4 = .ok (.ifCond .eq 23, 3) := by decide +kernel
theorem dX11_farthest_7 : decode cX11_farthest 7 = .ok (.iload_n 2, 1) := by decide +kernel
theorem dX11_farthest_8 : decode cX11_farthest 8 = .ok (.iconst 1, 1) := by decide +kernel
theorem dX11_farthest_9 : decode cX11_farthest 9 = .ok (.bipush 40, 2) := by decide +kernel
theorem dX11_farthest_11 : decode cX11_farthest 11 = .ok (.invokestatic 56, 3) := by decide +kernel
theorem dX11_farthest_14 : decode cX11_farthest 14 = .ok (.ifCond .eq 13, 3) := by decide +kernel
theorem dX11_farthest_17 : decode cX11_farthest 17 = .ok (.iload_n 3, 1) := by decide +kernel
theorem dX11_farthest_18 : decode cX11_farthest 18 = .ok (.iconst 1, 1) := by decide +kernel
theorem dX11_farthest_19 : decode cX11_farthest 19 = .ok (.bipush 20, 2) := by decide +kernel
theorem dX11_farthest_21 : decode cX11_farthest 21 = .ok (.invokestatic 56, 3) := by decide +kernel
theorem dX11_farthest_24 : decode cX11_farthest 24 = .ok (.ifCond .ne 10, 3) := by decide +kernel
theorem dX11_farthest_27 : decode cX11_farthest 27 = .ok (.aload_n 0, 1) := by decide +kernel
theorem dX11_farthest_28 : decode cX11_farthest 28 = .ok (.ldc 60, 2) := by decide +kernel
theorem dX11_farthest_30 : decode cX11_farthest 30 = .ok (.invokevirtual 61, 3) := by decide +kernel
theorem dX11_farthest_33 : decode cX11_farthest 33 = .ok (.ireturn, 1) := by decide +kernel
theorem dX11_farthest_34 : decode cX11_farthest 34 = .ok (.aload_n 0, 1) := by decide +kernel
theorem dX11_farthest_35 : decode cX11_farthest 35 = .ok (.getfield 16, 3) := by decide +kernel
theorem dX11_farthest_38 : decode cX11_farthest 38 = .ok (.aload_n 0, 1) := by decide +kernel
theorem dX11_farthest_39 : decode cX11_farthest 39 = .ok (.getfield 12, 3) := by decide +kernel
theorem dX11_farthest_42 : decode cX11_farthest 42 = .ok (.invokevirtual 220, 3) := by decide +kernel
theorem dX11_farthest_45 : decode cX11_farthest 45 = .ok (.iconst (-1), 1) := by decide +kernel
theorem dX11_farthest_46 : decode cX11_farthest 46 = .ok (.istore 4, 2) := by decide +kernel
theorem dX11_farthest_48 : decode cX11_farthest 48 = .ok (.iconst 0, 1) := by decide +kernel
theorem dX11_farthest_49 : decode cX11_farthest 49 = .ok (.istore 5, 2) := by decide +kernel
theorem dX11_farthest_51 : decode cX11_farthest 51 = .ok (.iconst 1, 1) := by decide +kernel
theorem dX11_farthest_52 : decode cX11_farthest 52 = .ok (.istore 6, 2) := by decide +kernel
theorem dX11_farthest_54 : decode cX11_farthest 54 = .ok (.iload 6, 2) := by decide +kernel
theorem dX11_farthest_56 : decode cX11_farthest 56 = .ok (.iload_n 2, 1) := by decide +kernel
theorem dX11_farthest_57 : decode cX11_farthest 57 = .ok (.if_icmp .gt 74, 3) := by decide +kernel
theorem dX11_farthest_60 : decode cX11_farthest 60 = .ok (.iconst 1, 1) := by decide +kernel
theorem dX11_farthest_61 : decode cX11_farthest 61 = .ok (.istore 7, 2) := by decide +kernel
theorem dX11_farthest_63 : decode cX11_farthest 63 = .ok (.iload 7, 2) := by decide +kernel
theorem dX11_farthest_65 : decode cX11_farthest 65 = .ok (.iload_n 3, 1) := by decide +kernel
theorem dX11_farthest_66 : decode cX11_farthest 66 = .ok (.if_icmp .gt 59, 3) := by decide +kernel
theorem dX11_farthest_69 : decode cX11_farthest 69 = .ok (.aload_n 0, 1) := by decide +kernel
theorem dX11_farthest_70 : decode cX11_farthest 70 = .ok (.getfield 16, 3) := by decide +kernel
theorem dX11_farthest_73 : decode cX11_farthest 73 = .ok (.iconst 0, 1) := by decide +kernel
theorem dX11_farthest_74 : decode cX11_farthest 74 = .ok (.putfield 244, 3) := by decide +kernel
theorem dX11_farthest_77 : decode cX11_farthest 77 = .ok (.aload_n 0, 1) := by decide +kernel
theorem dX11_farthest_78 : decode cX11_farthest 78 = .ok (.getfield 16, 3) := by decide +kernel
theorem dX11_farthest_81 : decode cX11_farthest 81 = .ok (.iload_n 1, 1) := by decide +kernel
theorem dX11_farthest_82 : decode cX11_farthest 82 = .ok (.aload_n 0, 1) := by decide +kernel
theorem dX11_farthest_83 : decode cX11_farthest 83 = .ok (.getfield 16, 3) := by decide +kernel
theorem dX11_farthest_86 : decode cX11_farthest 86 = .ok (.iload 6, 2) := by decide +kernel
theorem dX11_farthest_88 : decode cX11_farthest 88 = .ok (.iload 7, 2) := by decide +kernel
theorem dX11_farthest_90 : decode cX11_farthest 90 = .ok (.invokevirtual 164, 3) := by decide +kernel
theorem dX11_farthest_93 : decode cX11_farthest 93 = .ok (.invokevirtual 226, 3) := by decide +kernel
theorem dX11_farthest_96 : decode cX11_farthest 96 = .ok (.istore 8, 2) := by decide +kernel
theorem dX11_farthest_98 : decode cX11_farthest 98 = .ok (.iload 8, 2) := by decide +kernel
theorem dX11_farthest_100 : decode cX11_farthest 100 = .ok (.iload 4, 2) := by decide +kernel
theorem dX11_farthest_102 : decode cX11_farthest 102 = .ok (.if_icmp .le 17, 3) := by decide +kernel
theorem dX11_farthest_105 : decode cX11_farthest 105 = .ok (.iload 8, 2) := by decide +kernel
theorem dX11_farthest_107 : decode cX11_farthest 107 = .ok (.istore 4, 2) := by decide +kernel
theorem dX11_farthest_109 : decode cX11_farthest 109 = .ok (.bipush 100, 2) := by decide +kernel
theorem dX11_farthest_111 : decode cX11_farthest 111 = .ok (.iload 6, 2) := by decide +kernel
theorem dX11_farthest_113 : decode cX11_farthest 113 = .ok (.imul, 1) := by decide +kernel
theorem dX11_farthest_114 : decode cX11_farthest 114 = .ok (.iload 7, 2) := by decide +kernel
theorem dX11_farthest_116 : decode cX11_farthest 116 = .ok (.iadd, 1) := by decide +kernel
theorem dX11_farthest_117 : decode cX11_farthest 117 = .ok (.istore 5, 2) := by decide +kernel
theorem dX11_farthest_119 : decode cX11_farthest 119 = .ok (.iinc 7 1, 3) := by decide +kernel
theorem dX11_farthest_122 : decode cX11_farthest 122 = .ok (.goto (-59), 3) := by decide +kernel
theorem dX11_farthest_125 : decode cX11_farthest 125 = .ok (.iinc 6 1, 3) := by decide +kernel
theorem dX11_farthest_128 : decode cX11_farthest 128 = .ok (.goto (-74), 3) := by decide +kernel
theorem dX11_farthest_131 : decode cX11_farthest 131 = .ok (.iload 5, 2) := by decide +kernel
theorem dX11_farthest_133 : decode cX11_farthest 133 = .ok (.ireturn, 1) := by decide +kernel
theorem dX11_second_0 : decode cX11_second 0 = .ok (.iload_n 1, 1) := by decide +kernel
theorem dX11_second_1 : decode cX11_second 1 = .ok (.invokestatic 211, 3) := by decide +kernel
theorem dX11_second_4 : decode cX11_second 4 = .ok (.ifCond .eq 24, 3) := by decide +kernel
theorem dX11_second_7 : decode cX11_second 7 = .ok (.iload_n 2, 1) := by decide +kernel
theorem dX11_second_8 : decode cX11_second 8 = .ok (.iconst 0, 1) := by decide +kernel
theorem dX11_second_9 : decode cX11_second 9 = .ok (.bipush 20, 2) := by decide +kernel
theorem dX11_second_11 : decode cX11_second 11 = .ok (.invokestatic 56, 3) := by decide +kernel
theorem dX11_second_14 : decode cX11_second 14 = .ok (.ifCond .eq 14, 3) := by decide +kernel
theorem dX11_second_17 : decode cX11_second 17 = .ok (.iload_n 3, 1) := by decide +kernel
theorem dX11_second_18 : decode cX11_second 18 = .ok (.iconst 1, 1) := by decide +kernel
theorem dX11_second_19 : decode cX11_second 19 = .ok (.sipush 400, 3) := by decide +kernel
theorem dX11_second_22 : decode cX11_second 22 = .ok (.invokestatic 56, 3) := by decide +kernel
theorem dX11_second_25 : decode cX11_second 25 = .ok (.ifCond .ne 10, 3) := by decide +kernel
theorem dX11_second_28 : decode cX11_second 28 = .ok (.aload_n 0, 1) := by decide +kernel
theorem dX11_second_29 : decode cX11_second 29 = .ok (.ldc 60, 2) := by decide +kernel
theorem dX11_second_31 : decode cX11_second 31 = .ok (.invokevirtual 61, 3) := by decide +kernel
theorem dX11_second_34 : decode cX11_second 34 = .ok (.ireturn, 1) := by decide +kernel
theorem dX11_second_35 : decode cX11_second 35 = .ok (.aload_n 0, 1) := by decide +kernel
theorem dX11_second_36 : decode cX11_second 36 = .ok (.getfield 12, 3) := by decide +kernel
theorem dX11_second_39 : decode cX11_second 39 = .ok (.invokevirtual 65, 3) := by decide +kernel
theorem dX11_second_42 : decode cX11_second 42 = .ok (.ifCond .eq 10, 3) := by decide +kernel
theorem dX11_second_45 : decode cX11_second 45 = .ok (.aload_n 0, 1) := by decide +kernel
theorem dX11_second_46 : decode cX11_second 46 = .ok (.ldc 69, 2) := by decide +kernel
theorem dX11_second_48 : decode cX11_second 48 = .ok (.invokevirtual 61, 3) := by decide +kernel
theorem dX11_second_51 : decode cX11_second 51 = .ok (.ireturn, 1) := by decide +kernel
theorem dX11_second_52 : decode cX11_second 52 = .ok (.aload_n 0, 1) := by decide +kernel
theorem dX11_second_53 : decode cX11_second 53 = .ok (.iload_n 2, 1) := by decide +kernel
theorem dX11_second_54 : decode cX11_second 54 = .ok (.invokevirtual 214, 3) := by decide +kernel
theorem dX11_second_57 : decode cX11_second 57 = .ok (.aload_n 0, 1) := by decide +kernel
theorem dX11_second_58 : decode cX11_second 58 = .ok (.getfield 19, 3) := by decide +kernel
theorem dX11_second_61 : decode cX11_second 61 = .ok (.aload_n 0, 1) := by decide +kernel
theorem dX11_second_62 : decode cX11_second 62 = .ok (.getfield 16, 3) := by decide +kernel
theorem dX11_second_65 : decode cX11_second 65 = .ok (.invokevirtual 247, 3) := by decide +kernel
theorem dX11_second_68 : decode cX11_second 68 = .ok (.iconst 1, 1) := by decide +kernel
theorem dX11_second_69 : decode cX11_second 69 = .ok (.istore 4, 2) := by decide +kernel
theorem dX11_second_71 : decode cX11_second 71 = .ok (.iload 4, 2) := by decide +kernel
theorem dX11_second_73 : decode cX11_second 73 = .ok (.bipush 99, 2) := by decide +kernel
theorem dX11_second_75 : decode cX11_second 75 = .ok (.if_icmp .gt 47, 3) := by decide +kernel
theorem dX11_second_78 : decode cX11_second 78 = .ok (.aload_n 0, 1) := by decide +kernel
theorem dX11_second_79 : decode cX11_second 79 = .ok (.getfield 16, 3) := by decide +kernel
theorem dX11_second_82 : decode cX11_second 82 = .ok (.aload_n 0, 1) := by decide +kernel
theorem dX11_second_83 : decode cX11_second 83 = .ok (.getfield 19, 3) := by decide +kernel
theorem dX11_second_86 : decode cX11_second 86 = .ok (.invokevirtual 247, 3) := by decide +kernel
theorem dX11_second_89 : decode cX11_second 89 = .ok (.aload_n 0, 1) := by decide +kernel
theorem dX11_second_90 : decode cX11_second 90 = .ok (.getfield 16, 3) := by decide +kernel
theorem dX11_second_93 : decode cX11_second 93 = .ok (.iload_n 3, 1) := by decide +kernel
theorem dX11_second_94 : decode cX11_second 94 = .ok (.iload 4, 2) := by decide +kernel
theorem dX11_second_96 : decode cX11_second 96 = .ok (.invokevirtual 164, 3) := by decide +kernel
theorem dX11_second_99 : decode cX11_second 99 = .ok (.pop, 1) := by decide +kernel
theorem dX11_second_100 : decode cX11_second 100 = .ok (.aload_n 0, 1) := by decide +kernel
theorem dX11_second_101 : decode cX11_second 101 = .ok (.getfield 16, 3) := by decide +kernel
theorem dX11_second_104 : decode cX11_second 104 = .ok (.iload_n 1, 1) := by decide +kernel
theorem dX11_second_105 : decode cX11_second 105 = .ok (.iconst 2, 1) := by decide +kernel
theorem dX11_second_106 : decode cX11_second 106 = .ok (.invokevirtual 223, 3) := by decide +kernel
theorem dX11_second_109 : decode cX11_second 109 = .ok (.iconst 2, 1) := by decide +kernel
theorem dX11_second_110 : decode cX11_second 110 = .ok (.if_icmp .lt 6, 3) := by decide +kernel
theorem dX11_second_113 : decode cX11_second 113 = .ok (.iload 4, 2) := by decide +kernel
theorem dX11_second_115 : decode cX11_second 115 = .ok (.ireturn, 1) := by decide +kernel
theorem dX11_second_116 : decode cX11_second 116 = .ok (.iinc 4 1, 3) := by decide +kernel
theorem dX11_second_119 : decode cX11_second 119 = .ok (.goto (-48), 3) := by decide +kernel
theorem dX11_second_122 : decode cX11_second 122 = .ok (.aload_n 0, 1) := by decide +kernel
theorem dX11_second_123 : decode cX11_second 123 = .ok (.ldc 210, 2) := by decide +kernel
theorem dX11_second_125 : decode cX11_second 125 = .ok (.invokevirtual 61, 3) := by decide +kernel
theorem dX11_second_128 : decode cX11_second 128 = .ok (.ireturn, 1) := by decide +kernel
theorem dX11_alike_0 : decode cX11_alike 0 = .ok (.iload_n 1, 1) := by decide +kernel
theorem dX11_alike_1 : decode cX11_alike 1 = .ok (.invokestatic 211, 3) := by decide +kernel
theorem dX11_alike_4 : decode cX11_alike 4 = .ok (.ifCond .eq 14, 3) := by decide +kernel
theorem dX11_alike_7 : decode cX11_alike 7 = .ok (.iload_n 2, 1) := by decide +kernel
theorem dX11_alike_8 : decode cX11_alike 8 = .ok (.iconst 0, 1) := by decide +kernel
theorem dX11_alike_9 : decode cX11_alike 9 = .ok (.sipush 999, 3) := by decide +kernel
theorem dX11_alike_12 : decode cX11_alike 12 = .ok (.invokestatic 56, 3) := by decide +kernel
theorem dX11_alike_15 : decode cX11_alike 15 = .ok (.ifCond .ne 10, 3) := by decide +kernel
theorem dX11_alike_18 : decode cX11_alike 18 = .ok (.aload_n 0, 1) := by decide +kernel
theorem dX11_alike_19 : decode cX11_alike 19 = .ok (.ldc 60, 2) := by decide +kernel
theorem dX11_alike_21 : decode cX11_alike 21 = .ok (.invokevirtual 61, 3) := by decide +kernel
theorem dX11_alike_24 : decode cX11_alike 24 = .ok (.ireturn, 1) := by decide +kernel
theorem dX11_alike_25 : decode cX11_alike 25 = .ok (.aload_n 0, 1) := by decide +kernel
theorem dX11_alike_26 : decode cX11_alike 26 = .ok (.getfield 16, 3) := by decide +kernel
theorem dX11_alike_29 : decode cX11_alike 29 = .ok (.aload_n 0, 1) := by decide +kernel
theorem dX11_alike_30 : decode cX11_alike 30 = .ok (.getfield 12, 3) := by decide +kernel
theorem dX11_alike_33 : decode cX11_alike 33 = .ok (.invokevirtual 220, 3) := by decide +kernel
theorem dX11_alike_36 : decode cX11_alike 36 = .ok (.bipush 99, 2) := by decide +kernel
theorem dX11_alike_38 : decode cX11_alike 38 = .ok (.iload_n 2, 1) := by decide +kernel
theorem dX11_alike_39 : decode cX11_alike 39 = .ok (.invokestatic 250, 3) := by decide +kernel
theorem dX11_alike_42 : decode cX11_alike 42 = .ok (.istore_n 3, 1) := by decide +kernel
theorem dX11_alike_43 : decode cX11_alike 43 = .ok (.iconst (-1), 1) := by decide +kernel
theorem dX11_alike_44 : decode cX11_alike 44 = .ok (.istore 4, 2) := by decide +kernel
theorem dX11_alike_46 : decode cX11_alike 46 = .ok (.iconst 0, 1) := by decide +kernel
theorem dX11_alike_47 : decode cX11_alike 47 = .ok (.istore 5, 2) := by decide +kernel
theorem dX11_alike_49 : decode cX11_alike 49 = .ok (.iload 5, 2) := by decide +kernel
theorem dX11_alike_51 : decode cX11_alike 51 = .ok (.iload_n 3, 1) := by decide +kernel
theorem dX11_alike_52 : decode cX11_alike 52 = .ok (.if_icmp .gt 71, 3) := by decide +kernel
theorem dX11_alike_55 : decode cX11_alike 55 = .ok (.aload_n 0, 1) := by decide +kernel
theorem dX11_alike_56 : decode cX11_alike 56 = .ok (.getfield 16, 3) := by decide +kernel
theorem dX11_alike_59 : decode cX11_alike 59 = .ok (.iconst 0, 1) := by decide +kernel
theorem dX11_alike_60 : decode cX11_alike 60 = .ok (.putfield 244, 3) := by decide +kernel
theorem dX11_alike_63 : decode cX11_alike 63 = .ok (.aload_n 0, 1) := by decide +kernel
theorem dX11_alike_64 : decode cX11_alike 64 = .ok (.getfield 16, 3) := by decide +kernel
theorem dX11_alike_67 : decode cX11_alike 67 = .ok (.iconst 0, 1) := by decide +kernel
theorem dX11_alike_68 : decode cX11_alike 68 = .ok (.iconst 0, 1) := by decide +kernel
theorem dX11_alike_69 : decode cX11_alike 69 = .ok (.iconst 1, 1) := by decide +kernel
theorem dX11_alike_70 : decode cX11_alike 70 = .ok (.iload_n 2, 1) := by decide +kernel
theorem dX11_alike_71 : decode cX11_alike 71 = .ok (.bipush 20, 2) := by decide +kernel
theorem dX11_alike_73 : decode cX11_alike 73 = .ok (.iconst 4, 1) := by decide +kernel
theorem dX11_alike_74 : decode cX11_alike 74 = .ok (.invokevirtual 70, 3) := by decide +kernel
theorem dX11_alike_77 : decode cX11_alike 77 = .ok (.pop, 1) := by decide +kernel
theorem dX11_alike_78 : decode cX11_alike 78 = .ok (.aload_n 0, 1) := by decide +kernel
theorem dX11_alike_79 : decode cX11_alike 79 = .ok (.getfield 16, 3) := by decide +kernel
theorem dX11_alike_82 : decode cX11_alike 82 = .ok (.bipush (-20), 2) := by decide +kernel
theorem dX11_alike_84 : decode cX11_alike 84 = .ok (.iconst 0, 1) := by decide +kernel
theorem dX11_alike_85 : decode cX11_alike 85 = .ok (.iconst 1, 1) := by decide +kernel
theorem dX11_alike_86 : decode cX11_alike 86 = .ok (.iload_n 2, 1) := by decide +kernel
theorem dX11_alike_87 : decode cX11_alike 87 = .ok (.iload 5, 2) := by decide +kernel
theorem dX11_alike_89 : decode cX11_alike 89 = .ok (.isub, 1) := by decide +kernel
theorem dX11_alike_90 : decode cX11_alike 90 = .ok (.bipush 20, 2) := by decide +kernel
theorem dX11_alike_92 : decode cX11_alike 92 = .ok (.iconst 4, 1) := by decide +kernel
theorem dX11_alike_93 : decode cX11_alike 93 = .ok (.invokevirtual 70, 3) := by decide +kernel
theorem dX11_alike_96 : decode cX11_alike 96 = .ok (.pop, 1) := by decide +kernel
theorem dX11_alike_97 : decode cX11_alike 97 = .ok (.aload_n 0, 1) := by decide +kernel
theorem dX11_alike_98 : decode cX11_alike 98 = .ok (.getfield 16, 3) := by decide +kernel
theorem dX11_alike_101 : decode cX11_alike 101 = .ok (.iload_n 1, 1) := by decide +kernel
theorem dX11_alike_102 : decode cX11_alike 102 = .ok (.iconst 1, 1) := by decide +kernel
theorem dX11_alike_103 : decode cX11_alike 103 = .ok (.invokevirtual 223, 3) := by decide +kernel
theorem dX11_alike_106 : decode cX11_alike 106 = .ok (.iconst 1, 1) := by decide +kernel
theorem dX11_alike_107 : decode cX11_alike 107 = .ok (.if_icmp .ge 6, 3) := by decide +kernel
theorem dX11_alike_110 : decode cX11_alike 110 = .ok (.goto 13, 3) := by decide +kernel
theorem dX11_alike_113 : decode cX11_alike 113 = .ok (.iload 5, 2) := by decide +kernel
theorem dX11_alike_115 : decode cX11_alike 115 = .ok (.istore 4, 2) := by decide +kernel
theorem dX11_alike_117 : decode cX11_alike 117 = .ok (.iinc 5 1, 3) := by decide +kernel
theorem dX11_alike_120 : decode cX11_alike 120 = .ok (.goto (-71), 3) := by decide +kernel
theorem dX11_alike_123 : decode cX11_alike 123 = .ok (.iload 4, 2) := by decide +kernel
theorem dX11_alike_125 : decode cX11_alike 125 = .ok (.ifCond .ge 12, 3) := by decide +kernel
theorem dX11_alike_128 : decode cX11_alike 128 = .ok (.aload_n 0, 1) := by decide +kernel
theorem dX11_alike_129 : decode cX11_alike 129 = .ok (.ldc 210, 2) := by decide +kernel
theorem dX11_alike_131 : decode cX11_alike 131 = .ok (.invokevirtual 61, 3) := by decide +kernel
theorem dX11_alike_134 : decode cX11_alike 134 = .ok (.goto 5, 3) := by decide +kernel
theorem dX11_alike_137 : decode cX11_alike 137 = .ok (.iload 4, 2) := by decide +kernel
theorem dX11_alike_139 : decode cX11_alike 139 = .ok (.ireturn, 1) := by decide +kernel
theorem dX11_off_0 : decode cX11_off 0 = .ok (.aload_n 0, 1) := by decide +kernel
theorem dX11_off_1 : decode cX11_off 1 = .ok (.iload_n 1, 1) := by decide +kernel
theorem dX11_off_2 : decode cX11_off 2 = .ok (.invokevirtual 255, 3) := by decide +kernel
theorem dX11_off_5 : decode cX11_off 5 = .ok (.istore_n 2, 1) := by decide +kernel
theorem dX11_off_6 : decode cX11_off 6 = .ok (.iload_n 2, 1) := by decide +kernel
theorem dX11_off_7 : decode cX11_off 7 = .ok (.ifCond .eq 9, 3) := by decide +kernel
theorem dX11_off_10 : decode cX11_off 10 = .ok (.aload_n 0, 1) := by decide +kernel
theorem dX11_off_11 : decode cX11_off 11 = .ok (.iload_n 2, 1) := by decide +kernel
theorem dX11_off_12 : decode cX11_off 12 = .ok (.invokevirtual 61, 3) := by decide +kernel
theorem dX11_off_15 : decode cX11_off 15 = .ok (.ireturn, 1) := by decide +kernel
theorem dX11_off_16 : decode cX11_off 16 = .ok (.aload_n 0, 1) := by decide +kernel
theorem dX11_off_17 : decode cX11_off 17 = .ok (.getfield 16, 3) := by decide +kernel
theorem dX11_off_20 : decode cX11_off 20 = .ok (.aload_n 0, 1) := by decide +kernel
theorem dX11_off_21 : decode cX11_off 21 = .ok (.getfield 12, 3) := by decide +kernel
theorem dX11_off_24 : decode cX11_off 24 = .ok (.invokevirtual 220, 3) := by decide +kernel
theorem dX11_off_27 : decode cX11_off 27 = .ok (.aload_n 0, 1) := by decide +kernel
theorem dX11_off_28 : decode cX11_off 28 = .ok (.aload_n 0, 1) := by decide +kernel
theorem dX11_off_29 : decode cX11_off 29 = .ok (.getfield 31, 3) := by decide +kernel
theorem dX11_off_32 : decode cX11_off 32 = .ok (.iload_n 1, 1) := by decide +kernel
theorem dX11_off_33 : decode cX11_off 33 = .ok (.aaload, 1) := by decide +kernel
theorem dX11_off_34 : decode cX11_off 34 = .ok (.ldc_w 258, 3) := by decide +kernel
theorem dX11_off_37 : decode cX11_off 37 = .ok (.invokevirtual 259, 3) := by decide +kernel
theorem dX11_off_40 : decode cX11_off 40 = .ok (.ireturn, 1) := by decide +kernel
theorem dX11_spun_0 : decode cX11_spun 0 = .ok (.aload_n 0, 1) := by decide +kernel
theorem dX11_spun_1 : decode cX11_spun 1 = .ok (.iload_n 1, 1) := by decide +kernel
theorem dX11_spun_2 : decode cX11_spun 2 = .ok (.invokevirtual 255, 3) := by decide +kernel
theorem dX11_spun_5 : decode cX11_spun 5 = .ok (.istore_n 2, 1) := by decide +kernel
theorem dX11_spun_6 : decode cX11_spun 6 = .ok (.iload_n 2, 1) := by decide +kernel
theorem dX11_spun_7 : decode cX11_spun 7 = .ok (.ifCond .eq 9, 3) := by decide +kernel
theorem dX11_spun_10 : decode cX11_spun 10 = .ok (.aload_n 0, 1) := by decide +kernel
theorem dX11_spun_11 : decode cX11_spun 11 = .ok (.iload_n 2, 1) := by decide +kernel
theorem dX11_spun_12 : decode cX11_spun 12 = .ok (.invokevirtual 61, 3) := by decide +kernel
theorem dX11_spun_15 : decode cX11_spun 15 = .ok (.ireturn, 1) := by decide +kernel
theorem dX11_spun_16 : decode cX11_spun 16 = .ok (.aload_n 0, 1) := by decide +kernel
theorem dX11_spun_17 : decode cX11_spun 17 = .ok (.getfield 16, 3) := by decide +kernel
theorem dX11_spun_20 : decode cX11_spun 20 = .ok (.aload_n 0, 1) := by decide +kernel
theorem dX11_spun_21 : decode cX11_spun 21 = .ok (.getfield 12, 3) := by decide +kernel
theorem dX11_spun_24 : decode cX11_spun 24 = .ok (.invokevirtual 220, 3) := by decide +kernel
theorem dX11_spun_27 : decode cX11_spun 27 = .ok (.ldc_w 258, 3) := by decide +kernel
theorem dX11_spun_30 : decode cX11_spun 30 = .ok (.istore_n 3, 1) := by decide +kernel
theorem dX11_spun_31 : decode cX11_spun 31 = .ok (.iconst 0, 1) := by decide +kernel
theorem dX11_spun_32 : decode cX11_spun 32 = .ok (.istore 4, 2) := by decide +kernel
theorem dX11_spun_34 : decode cX11_spun 34 = .ok (.iconst 0, 1) := by decide +kernel
theorem dX11_spun_35 : decode cX11_spun 35 = .ok (.istore 5, 2) := by decide +kernel
theorem dX11_spun_37 : decode cX11_spun 37 = .ok (.iload 5, 2) := by decide +kernel
theorem dX11_spun_39 : decode cX11_spun 39 = .ok (.sipush 999, 3) := by decide +kernel
theorem dX11_spun_42 : decode cX11_spun 42 = .ok (.if_icmp .gt 60, 3) := by decide +kernel
theorem dX11_spun_45 : decode cX11_spun 45 = .ok (.aload_n 0, 1) := by decide +kernel
theorem dX11_spun_46 : decode cX11_spun 46 = .ok (.getfield 16, 3) := by decide +kernel
theorem dX11_spun_49 : decode cX11_spun 49 = .ok (.aload_n 0, 1) := by decide +kernel
theorem dX11_spun_50 : decode cX11_spun 50 = .ok (.getfield 12, 3) := by decide +kernel
theorem dX11_spun_53 : decode cX11_spun 53 = .ok (.invokevirtual 247, 3) := by decide +kernel
theorem dX11_spun_56 : decode cX11_spun 56 = .ok (.aload_n 0, 1) := by decide +kernel
theorem dX11_spun_57 : decode cX11_spun 57 = .ok (.getfield 16, 3) := by decide +kernel
theorem dX11_spun_60 : decode cX11_spun 60 = .ok (.getfield 78, 3) := by decide +kernel
theorem dX11_spun_63 : decode cX11_spun 63 = .ok (.iconst 0, 1) := by decide +kernel
theorem dX11_spun_64 : decode cX11_spun 64 = .ok (.aaload, 1) := by decide +kernel
theorem dX11_spun_65 : decode cX11_spun 65 = .ok (.iload 5, 2) := by decide +kernel
theorem dX11_spun_67 : decode cX11_spun 67 = .ok (.putfield 232, 3) := by decide +kernel
theorem dX11_spun_70 : decode cX11_spun 70 = .ok (.aload_n 0, 1) := by decide +kernel
theorem dX11_spun_71 : decode cX11_spun 71 = .ok (.aload_n 0, 1) := by decide +kernel
theorem dX11_spun_72 : decode cX11_spun 72 = .ok (.getfield 31, 3) := by decide +kernel
theorem dX11_spun_75 : decode cX11_spun 75 = .ok (.iload_n 1, 1) := by decide +kernel
theorem dX11_spun_76 : decode cX11_spun 76 = .ok (.aaload, 1) := by decide +kernel
theorem dX11_spun_77 : decode cX11_spun 77 = .ok (.iload_n 3, 1) := by decide +kernel
theorem dX11_spun_78 : decode cX11_spun 78 = .ok (.invokevirtual 259, 3) := by decide +kernel
theorem dX11_spun_81 : decode cX11_spun 81 = .ok (.istore 6, 2) := by decide +kernel
theorem dX11_spun_83 : decode cX11_spun 83 = .ok (.iload 6, 2) := by decide +kernel
theorem dX11_spun_85 : decode cX11_spun 85 = .ok (.iload_n 3, 1) := by decide +kernel
theorem dX11_spun_86 : decode cX11_spun 86 = .ok (.if_icmp .ge 10, 3) := by decide +kernel
theorem dX11_spun_89 : decode cX11_spun 89 = .ok (.iload 6, 2) := by decide +kernel
theorem dX11_spun_91 : decode cX11_spun 91 = .ok (.istore_n 3, 1) := by decide +kernel
theorem dX11_spun_92 : decode cX11_spun 92 = .ok (.iload 5, 2) := by decide +kernel
theorem dX11_spun_94 : decode cX11_spun 94 = .ok (.istore 4, 2) := by decide +kernel
theorem dX11_spun_96 : decode cX11_spun 96 = .ok (.iinc 5 9, 3) := by decide +kernel
theorem dX11_spun_99 : decode cX11_spun 99 = .ok (.goto (-62), 3) := by decide +kernel
theorem dX11_spun_102 : decode cX11_spun 102 = .ok (.iload 4, 2) := by decide +kernel
theorem dX11_spun_104 : decode cX11_spun 104 = .ok (.ireturn, 1) := by decide +kernel
theorem dX11_made_0 : decode cX11_made 0 = .ok (.aload_n 0, 1) := by decide +kernel
theorem dX11_made_1 : decode cX11_made 1 = .ok (.iload_n 1, 1) := by decide +kernel
theorem dX11_made_2 : decode cX11_made 2 = .ok (.invokevirtual 255, 3) := by decide +kernel
theorem dX11_made_5 : decode cX11_made 5 = .ok (.istore_n 2, 1) := by decide +kernel
theorem dX11_made_6 : decode cX11_made 6 = .ok (.iload_n 2, 1) := by decide +kernel
theorem dX11_made_7 : decode cX11_made 7 = .ok (.ifCond .eq 9, 3) := by decide +kernel
theorem dX11_made_10 : decode cX11_made 10 = .ok (.aload_n 0, 1) := by decide +kernel
theorem dX11_made_11 : decode cX11_made 11 = .ok (.iload_n 2, 1) := by decide +kernel
theorem dX11_made_12 : decode cX11_made 12 = .ok (.invokevirtual 61, 3) := by decide +kernel
theorem dX11_made_15 : decode cX11_made 15 = .ok (.ireturn, 1) := by decide +kernel
theorem dX11_made_16 : decode cX11_made 16 = .ok (.aload_n 0, 1) := by decide +kernel
theorem dX11_made_17 : decode cX11_made 17 = .ok (.getfield 16, 3) := by decide +kernel
theorem dX11_made_20 : decode cX11_made 20 = .ok (.aload_n 0, 1) := by decide +kernel
theorem dX11_made_21 : decode cX11_made 21 = .ok (.getfield 12, 3) := by decide +kernel
theorem dX11_made_24 : decode cX11_made 24 = .ok (.invokevirtual 220, 3) := by decide +kernel
theorem dX11_made_27 : decode cX11_made 27 = .ok (.ldc_w 258, 3) := by decide +kernel
theorem dX11_made_30 : decode cX11_made 30 = .ok (.istore_n 3, 1) := by decide +kernel
theorem dX11_made_31 : decode cX11_made 31 = .ok (.iconst 0, 1) := by decide +kernel
theorem dX11_made_32 : decode cX11_made 32 = .ok (.istore 4, 2) := by decide +kernel
theorem dX11_made_34 : decode cX11_made 34 = .ok (.iconst 0, 1) := by decide +kernel
theorem dX11_made_35 : decode cX11_made 35 = .ok (.istore 5, 2) := by decide +kernel
theorem dX11_made_37 : decode cX11_made 37 = .ok (.iload 5, 2) := by decide +kernel
theorem dX11_made_39 : decode cX11_made 39 = .ok (.iconst 1, 1) := by decide +kernel
theorem dX11_made_40 : decode cX11_made 40 = .ok (.aload_n 0, 1) := by decide +kernel
theorem dX11_made_41 : decode cX11_made 41 = .ok (.getfield 12, 3) := by decide +kernel
theorem dX11_made_44 : decode cX11_made 44 = .ok (.getfield 98, 3) := by decide +kernel
theorem dX11_made_47 : decode cX11_made 47 = .ok (.ishl, 1) := by decide +kernel
theorem dX11_made_48 : decode cX11_made 48 = .ok (.if_icmp .ge 55, 3) := by decide +kernel
theorem dX11_made_51 : decode cX11_made 51 = .ok (.aload_n 0, 1) := by decide +kernel
theorem dX11_made_52 : decode cX11_made 52 = .ok (.getfield 16, 3) := by decide +kernel
theorem dX11_made_55 : decode cX11_made 55 = .ok (.aload_n 0, 1) := by decide +kernel
theorem dX11_made_56 : decode cX11_made 56 = .ok (.getfield 12, 3) := by decide +kernel
theorem dX11_made_59 : decode cX11_made 59 = .ok (.invokevirtual 247, 3) := by decide +kernel
theorem dX11_made_62 : decode cX11_made 62 = .ok (.aload_n 0, 1) := by decide +kernel
theorem dX11_made_63 : decode cX11_made 63 = .ok (.getfield 16, 3) := by decide +kernel
theorem dX11_made_66 : decode cX11_made 66 = .ok (.iload 5, 2) := by decide +kernel
theorem dX11_made_68 : decode cX11_made 68 = .ok (.putfield 132, 3) := by decide +kernel
theorem dX11_made_71 : decode cX11_made 71 = .ok (.aload_n 0, 1) := by decide +kernel
theorem dX11_made_72 : decode cX11_made 72 = .ok (.aload_n 0, 1) := by decide +kernel
theorem dX11_made_73 : decode cX11_made 73 = .ok (.getfield 31, 3) := by decide +kernel
theorem dX11_made_76 : decode cX11_made 76 = .ok (.iload_n 1, 1) := by decide +kernel
theorem dX11_made_77 : decode cX11_made 77 = .ok (.aaload, 1) := by decide +kernel
theorem dX11_made_78 : decode cX11_made 78 = .ok (.iload_n 3, 1) := by decide +kernel
theorem dX11_made_79 : decode cX11_made 79 = .ok (.invokevirtual 259, 3) := by decide +kernel
theorem dX11_made_82 : decode cX11_made 82 = .ok (.istore 6, 2) := by decide +kernel
theorem dX11_made_84 : decode cX11_made 84 = .ok (.iload 6, 2) := by decide +kernel
theorem dX11_made_86 : decode cX11_made 86 = .ok (.iload_n 3, 1) := by decide +kernel
theorem dX11_made_87 : decode cX11_made 87 = .ok (.if_icmp .ge 10, 3) := by decide +kernel
theorem dX11_made_90 : decode cX11_made 90 = .ok (.iload 6, 2) := by decide +kernel
theorem dX11_made_92 : decode cX11_made 92 = .ok (.istore_n 3, 1) := by decide +kernel
theorem dX11_made_93 : decode cX11_made 93 = .ok (.iload 5, 2) := by decide +kernel
theorem dX11_made_95 : decode cX11_made 95 = .ok (.istore 4, 2) := by decide +kernel
theorem dX11_made_97 : decode cX11_made 97 = .ok (.iinc 5 1, 3) := by decide +kernel
theorem dX11_made_100 : decode cX11_made 100 = .ok (.goto (-63), 3) := by decide +kernel
theorem dX11_made_103 : decode cX11_made 103 = .ok (.iload 4, 2) := by decide +kernel
theorem dX11_made_105 : decode cX11_made 105 = .ok (.ireturn, 1) := by decide +kernel
theorem dX11_heart_0 : decode cX11_heart 0 = .ok (.iload_n 1, 1) := by decide +kernel
theorem dX11_heart_1 : decode cX11_heart 1 = .ok (.iconst 1, 1) := by decide +kernel
theorem dX11_heart_2 : decode cX11_heart 2 = .ok (.sipush 9999, 3) := by decide +kernel
theorem dX11_heart_5 : decode cX11_heart 5 = .ok (.invokestatic 56, 3) := by decide +kernel
theorem dX11_heart_8 : decode cX11_heart 8 = .ok (.ifCond .ne 10, 3) := by decide +kernel
theorem dX11_heart_11 : decode cX11_heart 11 = .ok (.aload_n 0, 1) := by decide +kernel
theorem dX11_heart_12 : decode cX11_heart 12 = .ok (.ldc 60, 2) := by decide +kernel
theorem dX11_heart_14 : decode cX11_heart 14 = .ok (.invokevirtual 61, 3) := by decide +kernel
theorem dX11_heart_17 : decode cX11_heart 17 = .ok (.ireturn, 1) := by decide +kernel
theorem dX11_heart_18 : decode cX11_heart 18 = .ok (.sipush (-400), 3) := by decide +kernel
theorem dX11_heart_21 : decode cX11_heart 21 = .ok (.istore_n 2, 1) := by decide +kernel
theorem dX11_heart_22 : decode cX11_heart 22 = .ok (.iconst 0, 1) := by decide +kernel
theorem dX11_heart_23 : decode cX11_heart 23 = .ok (.istore_n 3, 1) := by decide +kernel
theorem dX11_heart_24 : decode cX11_heart 24 = .ok (.iconst 1, 1) := by decide +kernel
theorem dX11_heart_25 : decode cX11_heart 25 = .ok (.istore 4, 2) := by decide +kernel
theorem dX11_heart_27 : decode cX11_heart 27 = .ok (.iload 4, 2) := by decide +kernel
theorem dX11_heart_29 : decode cX11_heart 29 = .ok (.sipush 400, 3) := by decide +kernel
theorem dX11_heart_32 : decode cX11_heart 32 = .ok (.if_icmp .gt 87, 3) := by decide +kernel
theorem dX11_heart_35 : decode cX11_heart 35 = .ok (.aload_n 0, 1) := by decide +kernel
theorem dX11_heart_36 : decode cX11_heart 36 = .ok (.getfield 12, 3) := by decide +kernel
theorem dX11_heart_39 : decode cX11_heart 39 = .ok (.iload 4, 2) := by decide +kernel
theorem dX11_heart_41 : decode cX11_heart 41 = .ok (.invokevirtual 168, 3) := by decide +kernel
theorem dX11_heart_44 : decode cX11_heart 44 = .ok (.istore 5, 2) := by decide +kernel
theorem dX11_heart_46 : decode cX11_heart 46 = .ok (.iconst 1, 1) := by decide +kernel
theorem dX11_heart_47 : decode cX11_heart 47 = .ok (.istore 6, 2) := by decide +kernel
theorem dX11_heart_49 : decode cX11_heart 49 = .ok (.iload 6, 2) := by decide +kernel
theorem dX11_heart_51 : decode cX11_heart 51 = .ok (.bipush 99, 2) := by decide +kernel
theorem dX11_heart_53 : decode cX11_heart 53 = .ok (.if_icmp .gt 60, 3) := by decide +kernel
theorem dX11_heart_56 : decode cX11_heart 56 = .ok (.iload 4, 2) := by decide +kernel
theorem dX11_heart_58 : decode cX11_heart 58 = .ok (.iload 6, 2) := by decide +kernel
theorem dX11_heart_60 : decode cX11_heart 60 = .ok (.imul, 1) := by decide +kernel
theorem dX11_heart_61 : decode cX11_heart 61 = .ok (.iload_n 1, 1) := by decide +kernel
theorem dX11_heart_62 : decode cX11_heart 62 = .ok (.if_icmp .gt 51, 3) := by decide +kernel
theorem dX11_heart_65 : decode cX11_heart 65 = .ok (.aload_n 0, 1) := by decide +kernel
theorem dX11_heart_66 : decode cX11_heart 66 = .ok (.getfield 12, 3) := by decide +kernel
theorem dX11_heart_69 : decode cX11_heart 69 = .ok (.iconst 0, 1) := by decide +kernel
theorem dX11_heart_70 : decode cX11_heart 70 = .ok (.iload 4, 2) := by decide +kernel
theorem dX11_heart_72 : decode cX11_heart 72 = .ok (.iload 6, 2) := by decide +kernel
theorem dX11_heart_74 : decode cX11_heart 74 = .ok (.aload_n 0, 1) := by decide +kernel
theorem dX11_heart_75 : decode cX11_heart 75 = .ok (.getfield 12, 3) := by decide +kernel
theorem dX11_heart_78 : decode cX11_heart 78 = .ok (.getfield 161, 3) := by decide +kernel
theorem dX11_heart_81 : decode cX11_heart 81 = .ok (.invokevirtual 198, 3) := by decide +kernel
theorem dX11_heart_84 : decode cX11_heart 84 = .ok (.iload 5, 2) := by decide +kernel
theorem dX11_heart_86 : decode cX11_heart 86 = .ok (.isub, 1) := by decide +kernel
theorem dX11_heart_87 : decode cX11_heart 87 = .ok (.istore 7, 2) := by decide +kernel
theorem dX11_heart_89 : decode cX11_heart 89 = .ok (.iload 7, 2) := by decide +kernel
theorem dX11_heart_91 : decode cX11_heart 91 = .ok (.iload_n 2, 1) := by decide +kernel
theorem dX11_heart_92 : decode cX11_heart 92 = .ok (.if_icmp .le 15, 3) := by decide +kernel
theorem dX11_heart_95 : decode cX11_heart 95 = .ok (.iload 7, 2) := by decide +kernel
theorem dX11_heart_97 : decode cX11_heart 97 = .ok (.istore_n 2, 1) := by decide +kernel
theorem dX11_heart_98 : decode cX11_heart 98 = .ok (.bipush 100, 2) := by decide +kernel
theorem dX11_heart_100 : decode cX11_heart 100 = .ok (.iload 4, 2) := by decide +kernel
theorem dX11_heart_102 : decode cX11_heart 102 = .ok (.imul, 1) := by decide +kernel
theorem dX11_heart_103 : decode cX11_heart 103 = .ok (.iload 6, 2) := by decide +kernel
theorem dX11_heart_105 : decode cX11_heart 105 = .ok (.iadd, 1) := by decide +kernel
theorem dX11_heart_106 : decode cX11_heart 106 = .ok (.istore_n 3, 1) := by decide +kernel
theorem dX11_heart_107 : decode cX11_heart 107 = .ok (.iinc 6 1, 3) := by decide +kernel
theorem dX11_heart_110 : decode cX11_heart 110 = .ok (.goto (-61), 3) := by decide +kernel
theorem dX11_heart_113 : decode cX11_heart 113 = .ok (.iinc 4 1, 3) := by decide +kernel
theorem dX11_heart_116 : decode cX11_heart 116 = .ok (.goto (-89), 3) := by decide +kernel
theorem dX11_heart_119 : decode cX11_heart 119 = .ok (.iload_n 3, 1) := by decide +kernel
theorem dX11_heart_120 : decode cX11_heart 120 = .ok (.ireturn, 1) := by decide +kernel
theorem dX11_seed_0 : decode cX11_seed 0 = .ok (.aload_n 0, 1) := by decide +kernel
theorem dX11_seed_1 : decode cX11_seed 1 = .ok (.getfield 12, 3) := by decide +kernel
theorem dX11_seed_4 : decode cX11_seed 4 = .ok (.getfield 263, 3) := by decide +kernel
theorem dX11_seed_7 : decode cX11_seed 7 = .ok (.istore_n 2, 1) := by decide +kernel
theorem dX11_seed_8 : decode cX11_seed 8 = .ok (.aload_n 0, 1) := by decide +kernel
theorem dX11_seed_9 : decode cX11_seed 9 = .ok (.getfield 12, 3) := by decide +kernel
theorem dX11_seed_12 : decode cX11_seed 12 = .ok (.iload_n 1, 1) := by decide +kernel
theorem dX11_seed_13 : decode cX11_seed 13 = .ok (.putfield 263, 3) := by decide +kernel
theorem dX11_seed_16 : decode cX11_seed 16 = .ok (.iload_n 2, 1) := by decide +kernel
theorem dX11_seed_17 : decode cX11_seed 17 = .ok (.ireturn, 1) := by decide +kernel
theorem dX11_voice_0 : decode cX11_voice 0 = .ok (.aload_n 0, 1) := by decide +kernel
theorem dX11_voice_1 : decode cX11_voice 1 = .ok (.getfield 12, 3) := by decide +kernel
theorem dX11_voice_4 : decode cX11_voice 4 = .ok (.iload_n 1, 1) := by decide +kernel
theorem dX11_voice_5 : decode cX11_voice 5 = .ok (.invokevirtual 109, 3) := by decide +kernel
theorem dX11_voice_8 : decode cX11_voice 8 = .ok (.ifCond .eq 12, 3) := by decide +kernel
theorem dX11_voice_11 : decode cX11_voice 11 = .ok (.iload_n 2, 1) := by decide +kernel
theorem dX11_voice_12 : decode cX11_voice 12 = .ok (.iconst 0, 1) := by decide +kernel
theorem dX11_voice_13 : decode cX11_voice 13 = .ok (.iconst 3, 1) := by decide +kernel
theorem dX11_voice_14 : decode cX11_voice 14 = .ok (.invokestatic 56, 3) := by decide +kernel
theorem dX11_voice_17 : decode cX11_voice 17 = .ok (.ifCond .ne 10, 3) := by decide +kernel
theorem dX11_voice_20 : decode cX11_voice 20 = .ok (.aload_n 0, 1) := by decide +kernel
theorem dX11_voice_21 : decode cX11_voice 21 = .ok (.ldc 60, 2) := by decide +kernel
theorem dX11_voice_23 : decode cX11_voice 23 = .ok (.invokevirtual 61, 3) := by decide +kernel
theorem dX11_voice_26 : decode cX11_voice 26 = .ok (.ireturn, 1) := by decide +kernel
theorem dX11_voice_27 : decode cX11_voice 27 = .ok (.aload_n 0, 1) := by decide +kernel
theorem dX11_voice_28 : decode cX11_voice 28 = .ok (.getfield 12, 3) := by decide +kernel
theorem dX11_voice_31 : decode cX11_voice 31 = .ok (.getfield 112, 3) := by decide +kernel
theorem dX11_voice_34 : decode cX11_voice 34 = .ok (.iload_n 1, 1) := by decide +kernel
theorem dX11_voice_35 : decode cX11_voice 35 = .ok (.aaload, 1) := by decide +kernel
theorem dX11_voice_36 : decode cX11_voice 36 = .ok (.astore 4, 2) := by decide +kernel
theorem dX11_voice_38 : decode cX11_voice 38 = .ok (.aload_n 0, 1) := by decide +kernel
theorem dX11_voice_39 : decode cX11_voice 39 = .ok (.getfield 38, 3) := by decide +kernel
theorem dX11_voice_42 : decode cX11_voice 42 = .ok (.iconst 0, 1) := by decide +kernel
theorem dX11_voice_43 : decode cX11_voice 43 = .ok (.putfield 174, 3) := by decide +kernel
theorem dX11_voice_46 : decode cX11_voice 46 = .ok (.iload_n 2, 1) := by decide +kernel
theorem dX11_voice_47 : decode cX11_voice 47 = .ok (.tableswitch 58 0 2 #[25, 36, 47], 25) := by decide +kernel
theorem dX11_voice_72 : decode cX11_voice 72 = .ok (.aload 4, 2) := by decide +kernel
theorem dX11_voice_74 : decode cX11_voice 74 = .ok (.iload_n 3, 1) := by decide +kernel
theorem dX11_voice_75 : decode cX11_voice 75 = .ok (.aload_n 0, 1) := by decide +kernel
theorem dX11_voice_76 : decode cX11_voice 76 = .ok (.getfield 38, 3) := by decide +kernel
theorem dX11_voice_79 : decode cX11_voice 79 = .ok (.invokevirtual 266, 3) := by decide +kernel
theorem dX11_voice_82 : decode cX11_voice 82 = .ok (.ireturn, 1) := by decide +kernel
theorem dX11_voice_83 : decode cX11_voice 83 = .ok (.aload 4, 2) := by decide +kernel
theorem dX11_voice_85 : decode cX11_voice 85 = .ok (.iload_n 3, 1) := by decide +kernel
theorem dX11_voice_86 : decode cX11_voice 86 = .ok (.aload_n 0, 1) := by decide +kernel
theorem dX11_voice_87 : decode cX11_voice 87 = .ok (.getfield 38, 3) := by decide +kernel
theorem dX11_voice_90 : decode cX11_voice 90 = .ok (.invokevirtual 270, 3) := by decide +kernel
theorem dX11_voice_93 : decode cX11_voice 93 = .ok (.ireturn, 1) := by decide +kernel
theorem dX11_voice_94 : decode cX11_voice 94 = .ok (.aload 4, 2) := by decide +kernel
theorem dX11_voice_96 : decode cX11_voice 96 = .ok (.iload_n 3, 1) := by decide +kernel
theorem dX11_voice_97 : decode cX11_voice 97 = .ok (.aload_n 0, 1) := by decide +kernel
theorem dX11_voice_98 : decode cX11_voice 98 = .ok (.getfield 38, 3) := by decide +kernel
theorem dX11_voice_101 : decode cX11_voice 101 = .ok (.invokevirtual 273, 3) := by decide +kernel
theorem dX11_voice_104 : decode cX11_voice 104 = .ok (.ireturn, 1) := by decide +kernel
theorem dX11_voice_105 : decode cX11_voice 105 = .ok (.aload 4, 2) := by decide +kernel
theorem dX11_voice_107 : decode cX11_voice 107 = .ok (.iload_n 3, 1) := by decide +kernel
theorem dX11_voice_108 : decode cX11_voice 108 = .ok (.aload_n 0, 1) := by decide +kernel
theorem dX11_voice_109 : decode cX11_voice 109 = .ok (.getfield 38, 3) := by decide +kernel
theorem dX11_voice_112 : decode cX11_voice 112 = .ok (.invokevirtual 276, 3) := by decide +kernel
theorem dX11_voice_115 : decode cX11_voice 115 = .ok (.ireturn, 1) := by decide +kernel
theorem dX11_trace_0 : decode cX11_trace 0 = .ok (.aload_n 0, 1) := by decide +kernel
theorem dX11_trace_1 : decode cX11_trace 1 = .ok (.getfield 38, 3) := by decide +kernel
theorem dX11_trace_4 : decode cX11_trace 4 = .ok (.iload_n 1, 1) := by decide +kernel
theorem dX11_trace_5 : decode cX11_trace 5 = .ok (.invokevirtual 279, 3) := by decide +kernel
theorem dX11_trace_8 : decode cX11_trace 8 = .ok (.ifCond .eq 15, 3) := by decide +kernel
theorem dX11_trace_11 : decode cX11_trace 11 = .ok (.aload_n 0, 1) := by decide +kernel
theorem dX11_trace_12 : decode cX11_trace 12 = .ok (.getfield 38, 3) := by decide +kernel
theorem dX11_trace_15 : decode cX11_trace 15 = .ok (.getfield 282, 3) := by decide +kernel
theorem dX11_trace_18 : decode cX11_trace 18 = .ok (.iload_n 1, 1) := by decide +kernel
theorem dX11_trace_19 : decode cX11_trace 19 = .ok (.iaload, 1) := by decide +kernel
theorem dX11_trace_20 : decode cX11_trace 20 = .ok (.goto 9, 3) := by decide +kernel
theorem dX11_trace_23 : decode cX11_trace 23 = .ok (.aload_n 0, 1) := by decide +kernel
theorem dX11_trace_24 : decode cX11_trace 24 = .ok (.ldc 210, 2) := by decide +kernel
theorem dX11_trace_26 : decode cX11_trace 26 = .ok (.invokevirtual 61, 3) := by decide +kernel
theorem dX11_trace_29 : decode cX11_trace 29 = .ok (.ireturn, 1) := by decide +kernel
theorem dX11_sheet_0 : decode cX11_sheet 0 = .ok (.iload_n 1, 1) := by decide +kernel
theorem dX11_sheet_1 : decode cX11_sheet 1 = .ok (.invokestatic 285, 3) := by decide +kernel
theorem dX11_sheet_4 : decode cX11_sheet 4 = .ok (.ifCond .eq 25, 3) := by decide +kernel
theorem dX11_sheet_7 : decode cX11_sheet 7 = .ok (.iload_n 2, 1) := by decide +kernel
theorem dX11_sheet_8 : decode cX11_sheet 8 = .ok (.ifCond .eq 28, 3) := by decide +kernel
theorem dX11_sheet_11 : decode cX11_sheet 11 = .ok (.iload_n 2, 1) := by decide +kernel
theorem dX11_sheet_12 : decode cX11_sheet 12 = .ok (.bipush 8, 2) := by decide +kernel
theorem dX11_sheet_14 : decode cX11_sheet 14 = .ok (.if_icmp .eq 22, 3) := by decide +kernel
theorem dX11_sheet_17 : decode cX11_sheet 17 = .ok (.iload_n 2, 1) := by decide +kernel
theorem dX11_sheet_18 : decode cX11_sheet 18 = .ok (.bipush 16, 2) := by decide +kernel
theorem dX11_sheet_20 : decode cX11_sheet 20 = .ok (.if_icmp .eq 16, 3) := by decide +kernel
theorem dX11_sheet_23 : decode cX11_sheet 23 = .ok (.iload_n 2, 1) := by decide +kernel
theorem dX11_sheet_24 : decode cX11_sheet 24 = .ok (.bipush 32, 2) := by decide +kernel
theorem dX11_sheet_26 : decode cX11_sheet 26 = .ok (.if_icmp .eq 10, 3) := by decide +kernel
theorem dX11_sheet_29 : decode cX11_sheet 29 = .ok (.aload_n 0, 1) := by decide +kernel
theorem dX11_sheet_30 : decode cX11_sheet 30 = .ok (.ldc 60, 2) := by decide +kernel
theorem dX11_sheet_32 : decode cX11_sheet 32 = .ok (.invokevirtual 61, 3) := by decide +kernel
theorem dX11_sheet_35 : decode cX11_sheet 35 = .ok (.ireturn, 1) := by decide +kernel
theorem dX11_sheet_36 : decode cX11_sheet 36 = .ok (.iload_n 2, 1) := by decide +kernel
theorem dX11_sheet_37 : decode cX11_sheet 37 = .ok (.ifCond .eq 15, 3) := by decide +kernel
theorem dX11_sheet_40 : decode cX11_sheet 40 = .ok (.iload_n 3, 1) := by decide +kernel
theorem dX11_sheet_41 : decode cX11_sheet 41 = .ok (.ifCond .ge 11, 3) := by decide +kernel
theorem dX11_sheet_44 : decode cX11_sheet 44 = .ok (.aload_n 0, 1) := by decide +kernel
theorem dX11_sheet_45 : decode cX11_sheet 45 = .ok (.ldc_w 288, 3) := by decide +kernel
theorem dX11_sheet_48 : decode cX11_sheet 48 = .ok (.invokevirtual 61, 3) := by decide +kernel
theorem dX11_sheet_51 : decode cX11_sheet 51 = .ok (.ireturn, 1) := by decide +kernel
theorem dX11_sheet_52 : decode cX11_sheet 52 = .ok (.iload_n 2, 1) := by decide +kernel
theorem dX11_sheet_53 : decode cX11_sheet 53 = .ok (.ifCond .eq 16, 3) := by decide +kernel
theorem dX11_sheet_56 : decode cX11_sheet 56 = .ok (.iload_n 3, 1) := by decide +kernel
theorem dX11_sheet_57 : decode cX11_sheet 57 = .ok (.bipush 40, 2) := by decide +kernel
theorem dX11_sheet_59 : decode cX11_sheet 59 = .ok (.if_icmp .le 10, 3) := by decide +kernel
theorem dX11_sheet_62 : decode cX11_sheet 62 = .ok (.aload_n 0, 1) := by decide +kernel
theorem dX11_sheet_63 : decode cX11_sheet 63 = .ok (.ldc 60, 2) := by decide +kernel
theorem dX11_sheet_65 : decode cX11_sheet 65 = .ok (.invokevirtual 61, 3) := by decide +kernel
theorem dX11_sheet_68 : decode cX11_sheet 68 = .ok (.ireturn, 1) := by decide +kernel
theorem dX11_sheet_69 : decode cX11_sheet 69 = .ok (.aload_n 0, 1) := by decide +kernel
theorem dX11_sheet_70 : decode cX11_sheet 70 = .ok (.getfield 31, 3) := by decide +kernel
theorem dX11_sheet_73 : decode cX11_sheet 73 = .ok (.iload_n 1, 1) := by decide +kernel
theorem dX11_sheet_74 : decode cX11_sheet 74 = .ok (.aaload, 1) := by decide +kernel
theorem dX11_sheet_75 : decode cX11_sheet 75 = .ok (.iload_n 2, 1) := by decide +kernel
theorem dX11_sheet_76 : decode cX11_sheet 76 = .ok (.iload_n 2, 1) := by decide +kernel
theorem dX11_sheet_77 : decode cX11_sheet 77 = .ok (.ifCond .ne 7, 3) := by decide +kernel
theorem dX11_sheet_80 : decode cX11_sheet 80 = .ok (.iconst 0, 1) := by decide +kernel
theorem dX11_sheet_81 : decode cX11_sheet 81 = .ok (.goto 4, 3) := by decide +kernel
theorem dX11_sheet_84 : decode cX11_sheet 84 = .ok (.iload_n 3, 1) := by decide +kernel
theorem dX11_sheet_85 : decode cX11_sheet 85 = .ok (.invokevirtual 289, 3) := by decide +kernel
theorem dX11_sheet_88 : decode cX11_sheet 88 = .ok (.iconst 1, 1) := by decide +kernel
theorem dX11_sheet_89 : decode cX11_sheet 89 = .ok (.ireturn, 1) := by decide +kernel
theorem dX11_put_0 : decode cX11_put 0 = .ok (.iload_n 1, 1) := by decide +kernel
theorem dX11_put_1 : decode cX11_put 1 = .ok (.invokestatic 285, 3) := by decide +kernel
theorem dX11_put_4 : decode cX11_put 4 = .ok (.ifCond .ne 10, 3) := by decide +kernel
theorem dX11_put_7 : decode cX11_put 7 = .ok (.aload_n 0, 1) := by decide +kernel
theorem dX11_put_8 : decode cX11_put 8 = .ok (.ldc 60, 2) := by decide +kernel
theorem dX11_put_10 : decode cX11_put 10 = .ok (.invokevirtual 61, 3) := by decide +kernel
theorem dX11_put_13 : decode cX11_put 13 = .ok (.ireturn, 1) := by decide +kernel
theorem dX11_put_14 : decode cX11_put 14 = .ok (.aload_n 0, 1) := by decide +kernel
theorem dX11_put_15 : decode cX11_put 15 = .ok (.iload_n 1, 1) := by decide +kernel
theorem dX11_put_16 : decode cX11_put 16 = .ok (.invokevirtual 293, 3) := by decide +kernel
theorem dX11_put_19 : decode cX11_put 19 = .ok (.ifCond .eq 10, 3) := by decide +kernel
theorem dX11_put_22 : decode cX11_put 22 = .ok (.aload_n 0, 1) := by decide +kernel
theorem dX11_put_23 : decode cX11_put 23 = .ok (.ldc 210, 2) := by decide +kernel
theorem dX11_put_25 : decode cX11_put 25 = .ok (.invokevirtual 61, 3) := by decide +kernel
theorem dX11_put_28 : decode cX11_put 28 = .ok (.ireturn, 1) := by decide +kernel
theorem dX11_put_29 : decode cX11_put 29 = .ok (.aload_n 0, 1) := by decide +kernel
theorem dX11_put_30 : decode cX11_put 30 = .ok (.getfield 31, 3) := by decide +kernel
theorem dX11_put_33 : decode cX11_put 33 = .ok (.iload_n 1, 1) := by decide +kernel
theorem dX11_put_34 : decode cX11_put 34 = .ok (.aaload, 1) := by decide +kernel
theorem dX11_put_35 : decode cX11_put 35 = .ok (.iload_n 2, 1) := by decide +kernel
theorem dX11_put_36 : decode cX11_put 36 = .ok (.invokevirtual 279, 3) := by decide +kernel
theorem dX11_put_39 : decode cX11_put 39 = .ok (.ifCond .ne 10, 3) := by decide +kernel
theorem dX11_put_42 : decode cX11_put 42 = .ok (.aload_n 0, 1) := by decide +kernel
theorem dX11_put_43 : decode cX11_put 43 = .ok (.ldc 60, 2) := by decide +kernel
theorem dX11_put_45 : decode cX11_put 45 = .ok (.invokevirtual 61, 3) := by decide +kernel
theorem dX11_put_48 : decode cX11_put 48 = .ok (.ireturn, 1) := by decide +kernel
theorem dX11_put_49 : decode cX11_put 49 = .ok (.aload_n 0, 1) := by decide +kernel
theorem dX11_put_50 : decode cX11_put 50 = .ok (.getfield 31, 3) := by decide +kernel
theorem dX11_put_53 : decode cX11_put 53 = .ok (.iload_n 1, 1) := by decide +kernel
theorem dX11_put_54 : decode cX11_put 54 = .ok (.aaload, 1) := by decide +kernel
theorem dX11_put_55 : decode cX11_put 55 = .ok (.iload_n 2, 1) := by decide +kernel
theorem dX11_put_56 : decode cX11_put 56 = .ok (.iload_n 3, 1) := by decide +kernel
theorem dX11_put_57 : decode cX11_put 57 = .ok (.invokevirtual 296, 3) := by decide +kernel
theorem dX11_put_60 : decode cX11_put 60 = .ok (.iconst 1, 1) := by decide +kernel
theorem dX11_put_61 : decode cX11_put 61 = .ok (.ireturn, 1) := by decide +kernel
theorem dX11_move_0 : decode cX11_move 0 = .ok (.iload_n 1, 1) := by decide +kernel
theorem dX11_move_1 : decode cX11_move 1 = .ok (.invokestatic 285, 3) := by decide +kernel
theorem dX11_move_4 : decode cX11_move 4 = .ok (.ifCond .eq 10, 3) := by decide +kernel
theorem dX11_move_7 : decode cX11_move 7 = .ok (.iload_n 3, 1) := by decide +kernel
theorem dX11_move_8 : decode cX11_move 8 = .ok (.invokestatic 285, 3) := by decide +kernel
theorem dX11_move_11 : decode cX11_move 11 = .ok (.ifCond .ne 10, 3) := by decide +kernel
theorem dX11_move_14 : decode cX11_move 14 = .ok (.aload_n 0, 1) := by decide +kernel
theorem dX11_move_15 : decode cX11_move 15 = .ok (.ldc 60, 2) := by decide +kernel
theorem dX11_move_17 : decode cX11_move 17 = .ok (.invokevirtual 61, 3) := by decide +kernel
theorem dX11_move_20 : decode cX11_move 20 = .ok (.ireturn, 1) := by decide +kernel
theorem dX11_move_21 : decode cX11_move 21 = .ok (.aload_n 0, 1) := by decide +kernel
theorem dX11_move_22 : decode cX11_move 22 = .ok (.iload_n 1, 1) := by decide +kernel
theorem dX11_move_23 : decode cX11_move 23 = .ok (.invokevirtual 293, 3) := by decide +kernel
theorem dX11_move_26 : decode cX11_move 26 = .ok (.ifCond .ne 11, 3) := by decide +kernel
theorem dX11_move_29 : decode cX11_move 29 = .ok (.aload_n 0, 1) := by decide +kernel
theorem dX11_move_30 : decode cX11_move 30 = .ok (.iload_n 3, 1) := by decide +kernel
theorem dX11_move_31 : decode cX11_move 31 = .ok (.invokevirtual 293, 3) := by decide +kernel
theorem dX11_move_34 : decode cX11_move 34 = .ok (.ifCond .eq 10, 3) := by decide +kernel
theorem dX11_move_37 : decode cX11_move 37 = .ok (.aload_n 0, 1) := by decide +kernel
theorem dX11_move_38 : decode cX11_move 38 = .ok (.ldc 210, 2) := by decide +kernel
theorem dX11_move_40 : decode cX11_move 40 = .ok (.invokevirtual 61, 3) := by decide +kernel
theorem dX11_move_43 : decode cX11_move 43 = .ok (.ireturn, 1) := by decide +kernel
theorem dX11_move_44 : decode cX11_move 44 = .ok (.aload_n 0, 1) := by decide +kernel
theorem dX11_move_45 : decode cX11_move 45 = .ok (.getfield 31, 3) := by decide +kernel
theorem dX11_move_48 : decode cX11_move 48 = .ok (.iload_n 1, 1) := by decide +kernel
theorem dX11_move_49 : decode cX11_move 49 = .ok (.aaload, 1) := by decide +kernel
theorem dX11_move_50 : decode cX11_move 50 = .ok (.astore 6, 2) := by decide +kernel
theorem dX11_move_52 : decode cX11_move 52 = .ok (.aload_n 0, 1) := by decide +kernel
theorem dX11_move_53 : decode cX11_move 53 = .ok (.getfield 31, 3) := by decide +kernel
theorem dX11_move_56 : decode cX11_move 56 = .ok (.iload_n 3, 1) := by decide +kernel
theorem dX11_move_57 : decode cX11_move 57 = .ok (.aaload, 1) := by decide +kernel
theorem dX11_move_58 : decode cX11_move 58 = .ok (.astore 7, 2) := by decide +kernel
theorem dX11_move_60 : decode cX11_move 60 = .ok (.aload 6, 2) := by decide +kernel
theorem dX11_move_62 : decode cX11_move 62 = .ok (.getfield 299, 3) := by decide +kernel
theorem dX11_move_65 : decode cX11_move 65 = .ok (.aload 7, 2) := by decide +kernel
theorem dX11_move_67 : decode cX11_move 67 = .ok (.getfield 299, 3) := by decide +kernel
theorem dX11_move_70 : decode cX11_move 70 = .ok (.if_icmp .eq 10, 3) := by decide +kernel
theorem dX11_move_73 : decode cX11_move 73 = .ok (.aload_n 0, 1) := by decide +kernel
theorem dX11_move_74 : decode cX11_move 74 = .ok (.ldc 131, 2) := by decide +kernel
theorem dX11_move_76 : decode cX11_move 76 = .ok (.invokevirtual 61, 3) := by decide +kernel
theorem dX11_move_79 : decode cX11_move 79 = .ok (.ireturn, 1) := by decide +kernel
theorem dX11_move_80 : decode cX11_move 80 = .ok (.aload 6, 2) := by decide +kernel
theorem dX11_move_82 : decode cX11_move 82 = .ok (.iload_n 2, 1) := by decide +kernel
theorem dX11_move_83 : decode cX11_move 83 = .ok (.iload 5, 2) := by decide +kernel
theorem dX11_move_85 : decode cX11_move 85 = .ok (.invokevirtual 302, 3) := by decide +kernel
theorem dX11_move_88 : decode cX11_move 88 = .ok (.ifCond .eq 15, 3) := by decide +kernel
theorem dX11_move_91 : decode cX11_move 91 = .ok (.aload 7, 2) := by decide +kernel
theorem dX11_move_93 : decode cX11_move 93 = .ok (.iload 4, 2) := by decide +kernel
theorem dX11_move_95 : decode cX11_move 95 = .ok (.iload 5, 2) := by decide +kernel
theorem dX11_move_97 : decode cX11_move 97 = .ok (.invokevirtual 302, 3) := by decide +kernel
theorem dX11_move_100 : decode cX11_move 100 = .ok (.ifCond .ne 10, 3) := by decide +kernel
theorem dX11_move_103 : decode cX11_move 103 = .ok (.aload_n 0, 1) := by decide +kernel
theorem dX11_move_104 : decode cX11_move 104 = .ok (.ldc 60, 2) := by decide +kernel
theorem dX11_move_106 : decode cX11_move 106 = .ok (.invokevirtual 61, 3) := by decide +kernel
theorem dX11_move_109 : decode cX11_move 109 = .ok (.ireturn, 1) := by decide +kernel
theorem dX11_move_110 : decode cX11_move 110 = .ok (.aload 6, 2) := by decide +kernel
theorem dX11_move_112 : decode cX11_move 112 = .ok (.getfield 282, 3) := by decide +kernel
theorem dX11_move_115 : decode cX11_move 115 = .ok (.iload_n 2, 1) := by decide +kernel
theorem dX11_move_116 : decode cX11_move 116 = .ok (.aload 7, 2) := by decide +kernel
theorem dX11_move_118 : decode cX11_move 118 = .ok (.getfield 282, 3) := by decide +kernel
theorem dX11_move_121 : decode cX11_move 121 = .ok (.iload 4, 2) := by decide +kernel
theorem dX11_move_123 : decode cX11_move 123 = .ok (.iload 5, 2) := by decide +kernel
theorem dX11_move_125 : decode cX11_move 125 = .ok (.invokestatic 306, 3) := by decide +kernel
theorem dX11_move_128 : decode cX11_move 128 = .ok (.iload 5, 2) := by decide +kernel
theorem dX11_move_130 : decode cX11_move 130 = .ok (.ireturn, 1) := by decide +kernel
theorem dX11_film_0 : decode cX11_film 0 = .ok (.aload_n 0, 1) := by decide +kernel
theorem dX11_film_1 : decode cX11_film 1 = .ok (.iload_n 1, 1) := by decide +kernel
theorem dX11_film_2 : decode cX11_film 2 = .ok (.invokevirtual 255, 3) := by decide +kernel
theorem dX11_film_5 : decode cX11_film 5 = .ok (.istore_n 2, 1) := by decide +kernel
theorem dX11_film_6 : decode cX11_film 6 = .ok (.iload_n 2, 1) := by decide +kernel
theorem dX11_film_7 : decode cX11_film 7 = .ok (.ifCond .eq 9, 3) := by decide +kernel
theorem dX11_film_10 : decode cX11_film 10 = .ok (.aload_n 0, 1) := by decide +kernel
theorem dX11_film_11 : decode cX11_film 11 = .ok (.iload_n 2, 1) := by decide +kernel
theorem dX11_film_12 : decode cX11_film 12 = .ok (.invokevirtual 61, 3) := by decide +kernel
theorem dX11_film_15 : decode cX11_film 15 = .ok (.ireturn, 1) := by decide +kernel
theorem dX11_film_16 : decode cX11_film 16 = .ok (.aload_n 0, 1) := by decide +kernel
theorem dX11_film_17 : decode cX11_film 17 = .ok (.getfield 31, 3) := by decide +kernel
theorem dX11_film_20 : decode cX11_film 20 = .ok (.iload_n 1, 1) := by decide +kernel
theorem dX11_film_21 : decode cX11_film 21 = .ok (.aaload, 1) := by decide +kernel
theorem dX11_film_22 : decode cX11_film 22 = .ok (.astore_n 3, 1) := by decide +kernel
theorem dX11_film_23 : decode cX11_film 23 = .ok (.aload_n 0, 1) := by decide +kernel
theorem dX11_film_24 : decode cX11_film 24 = .ok (.getfield 16, 3) := by decide +kernel
theorem dX11_film_27 : decode cX11_film 27 = .ok (.aload_n 0, 1) := by decide +kernel
theorem dX11_film_28 : decode cX11_film 28 = .ok (.getfield 12, 3) := by decide +kernel
theorem dX11_film_31 : decode cX11_film 31 = .ok (.invokevirtual 220, 3) := by decide +kernel
theorem dX11_film_34 : decode cX11_film 34 = .ok (.aload_n 0, 1) := by decide +kernel
theorem dX11_film_35 : decode cX11_film 35 = .ok (.getfield 16, 3) := by decide +kernel
theorem dX11_film_38 : decode cX11_film 38 = .ok (.getfield 78, 3) := by decide +kernel
theorem dX11_film_41 : decode cX11_film 41 = .ok (.iconst 0, 1) := by decide +kernel
theorem dX11_film_42 : decode cX11_film 42 = .ok (.aaload, 1) := by decide +kernel
theorem dX11_film_43 : decode cX11_film 43 = .ok (.astore 4, 2) := by decide +kernel
theorem dX11_film_45 : decode cX11_film 45 = .ok (.iconst 0, 1) := by decide +kernel
theorem dX11_film_46 : decode cX11_film 46 = .ok (.istore 5, 2) := by decide +kernel
theorem dX11_film_48 : decode cX11_film 48 = .ok (.iload 5, 2) := by decide +kernel
theorem dX11_film_50 : decode cX11_film 50 = .ok (.aload_n 3, 1) := by decide +kernel
theorem dX11_film_51 : decode cX11_film 51 = .ok (.getfield 174, 3) := by decide +kernel
theorem dX11_film_54 : decode cX11_film 54 = .ok (.if_icmp .ge 39, 3) := by decide +kernel
theorem dX11_film_57 : decode cX11_film 57 = .ok (.aload_n 0, 1) := by decide +kernel
theorem dX11_film_58 : decode cX11_film 58 = .ok (.getfield 16, 3) := by decide +kernel
theorem dX11_film_61 : decode cX11_film 61 = .ok (.invokevirtual 241, 3) := by decide +kernel
theorem dX11_film_64 : decode cX11_film 64 = .ok (.aload_n 3, 1) := by decide +kernel
theorem dX11_film_65 : decode cX11_film 65 = .ok (.iload 5, 2) := by decide +kernel
theorem dX11_film_67 : decode cX11_film 67 = .ok (.aload 4, 2) := by decide +kernel
theorem dX11_film_69 : decode cX11_film 69 = .ok (.getfield 87, 3) := by decide +kernel
theorem dX11_film_72 : decode cX11_film 72 = .ok (.ifCond .eq 11, 3) := by decide +kernel
theorem dX11_film_75 : decode cX11_film 75 = .ok (.aload 4, 2) := by decide +kernel
theorem dX11_film_77 : decode cX11_film 77 = .ok (.getfield 229, 3) := by decide +kernel
theorem dX11_film_80 : decode cX11_film 80 = .ok (.goto 4, 3) := by decide +kernel
theorem dX11_film_83 : decode cX11_film 83 = .ok (.iconst 0, 1) := by decide +kernel
theorem dX11_film_84 : decode cX11_film 84 = .ok (.invokevirtual 296, 3) := by decide +kernel
theorem dX11_film_87 : decode cX11_film 87 = .ok (.iinc 5 1, 3) := by decide +kernel
theorem dX11_film_90 : decode cX11_film 90 = .ok (.goto (-42), 3) := by decide +kernel
theorem dX11_film_93 : decode cX11_film 93 = .ok (.aload_n 3, 1) := by decide +kernel
theorem dX11_film_94 : decode cX11_film 94 = .ok (.getfield 174, 3) := by decide +kernel
theorem dX11_film_97 : decode cX11_film 97 = .ok (.ireturn, 1) := by decide +kernel
theorem dX11_image_0 : decode cX11_image 0 = .ok (.aload_n 0, 1) := by decide +kernel
theorem dX11_image_1 : decode cX11_image 1 = .ok (.getfield 22, 3) := by decide +kernel
theorem dX11_image_4 : decode cX11_image 4 = .ok (.aload_n 0, 1) := by decide +kernel
theorem dX11_image_5 : decode cX11_image 5 = .ok (.getfield 12, 3) := by decide +kernel
theorem dX11_image_8 : decode cX11_image 8 = .ok (.invokevirtual 220, 3) := by decide +kernel
theorem dX11_image_11 : decode cX11_image 11 = .ok (.aload_n 0, 1) := by decide +kernel
theorem dX11_image_12 : decode cX11_image 12 = .ok (.dup, 1) := by decide +kernel
theorem dX11_image_13 : decode cX11_image 13 = .ok (.getfield 25, 3) := by decide +kernel
theorem dX11_image_16 : decode cX11_image 16 = .ok (.iconst 1, 1) := by decide +kernel
theorem dX11_image_17 : decode cX11_image 17 = .ok (.iadd, 1) := by decide +kernel
theorem dX11_image_18 : decode cX11_image 18 = .ok (.putfield 25, 3) := by decide +kernel
theorem dX11_image_21 : decode cX11_image 21 = .ok (.aload_n 0, 1) := by decide +kernel
theorem dX11_image_22 : decode cX11_image 22 = .ok (.getfield 25, 3) := by decide +kernel
theorem dX11_image_25 : decode cX11_image 25 = .ok (.ireturn, 1) := by decide +kernel
theorem dX11_restore_0 : decode cX11_restore 0 = .ok (.aload_n 0, 1) := by decide +kernel
theorem dX11_restore_1 : decode cX11_restore 1 = .ok (.getfield 25, 3) := by decide +kernel
theorem dX11_restore_4 : decode cX11_restore 4 = .ok (.ifCond .ne 10, 3) := by decide +kernel
theorem dX11_restore_7 : decode cX11_restore 7 = .ok (.aload_n 0, 1) := by decide +kernel
theorem dX11_restore_8 : decode cX11_restore 8 = .ok (.ldc 210, 2) := by decide +kernel
theorem dX11_restore_10 : decode cX11_restore 10 = .ok (.invokevirtual 61, 3) := by decide +kernel
theorem dX11_restore_13 : decode cX11_restore 13 = .ok (.ireturn, 1) := by decide +kernel
theorem dX11_restore_14 : decode cX11_restore 14 = .ok (.aload_n 0, 1) := by decide +kernel
theorem dX11_restore_15 : decode cX11_restore 15 = .ok (.getfield 12, 3) := by decide +kernel
theorem dX11_restore_18 : decode cX11_restore 18 = .ok (.aload_n 0, 1) := by decide +kernel
theorem dX11_restore_19 : decode cX11_restore 19 = .ok (.getfield 22, 3) := by decide +kernel
theorem dX11_restore_22 : decode cX11_restore 22 = .ok (.invokevirtual 220, 3) := by decide +kernel
theorem dX11_restore_25 : decode cX11_restore 25 = .ok (.aload_n 0, 1) := by decide +kernel
theorem dX11_restore_26 : decode cX11_restore 26 = .ok (.getfield 12, 3) := by decide +kernel
theorem dX11_restore_29 : decode cX11_restore 29 = .ok (.getfield 312, 3) := by decide +kernel
theorem dX11_restore_32 : decode cX11_restore 32 = .ok (.ireturn, 1) := by decide +kernel
theorem dX11_tell_0 : decode cX11_tell 0 = .ok (.aload_n 0, 1) := by decide +kernel
theorem dX11_tell_1 : decode cX11_tell 1 = .ok (.getfield 12, 3) := by decide +kernel
theorem dX11_tell_4 : decode cX11_tell 4 = .ok (.getfield 315, 3) := by decide +kernel
theorem dX11_tell_7 : decode cX11_tell 7 = .ok (.getfield 174, 3) := by decide +kernel
theorem dX11_tell_10 : decode cX11_tell 10 = .ok (.bipush 20, 2) := by decide +kernel
theorem dX11_tell_12 : decode cX11_tell 12 = .ok (.if_icmp .lt 10, 3) := by decide +kernel
theorem dX11_tell_15 : decode cX11_tell 15 = .ok (.aload_n 0, 1) := by decide +kernel
theorem dX11_tell_16 : decode cX11_tell 16 = .ok (.ldc 69, 2) := by decide +kernel
theorem dX11_tell_18 : decode cX11_tell 18 = .ok (.invokevirtual 61, 3) := by decide +kernel
theorem dX11_tell_21 : decode cX11_tell 21 = .ok (.ireturn, 1) := by decide +kernel
theorem dX11_tell_22 : decode cX11_tell 22 = .ok (.aload_n 0, 1) := by decide +kernel
theorem dX11_tell_23 : decode cX11_tell 23 = .ok (.getfield 12, 3) := by decide +kernel
theorem dX11_tell_26 : decode cX11_tell 26 = .ok (.getfield 315, 3) := by decide +kernel
theorem dX11_tell_29 : decode cX11_tell 29 = .ok (.iload_n 1, 1) := by decide +kernel
theorem dX11_tell_30 : decode cX11_tell 30 = .ok (.invokevirtual 179, 3) := by decide +kernel
theorem dX11_tell_33 : decode cX11_tell 33 = .ok (.aload_n 0, 1) := by decide +kernel
theorem dX11_tell_34 : decode cX11_tell 34 = .ok (.getfield 12, 3) := by decide +kernel
theorem dX11_tell_37 : decode cX11_tell 37 = .ok (.getfield 315, 3) := by decide +kernel
theorem dX11_tell_40 : decode cX11_tell 40 = .ok (.getfield 174, 3) := by decide +kernel
theorem dX11_tell_43 : decode cX11_tell 43 = .ok (.ireturn, 1) := by decide +kernel
theorem dX11_check_0 : decode cX11_check 0 = .ok (.iload_n 1, 1) := by decide +kernel
theorem dX11_check_1 : decode cX11_check 1 = .ok (.invokestatic 211, 3) := by decide +kernel
theorem dX11_check_4 : decode cX11_check 4 = .ok (.ifCond .ne 21, 3) := by decide +kernel
theorem dX11_check_7 : decode cX11_check 7 = .ok (.aload_n 0, 1) := by decide +kernel
theorem dX11_check_8 : decode cX11_check 8 = .ok (.getfield 12, 3) := by decide +kernel
theorem dX11_check_11 : decode cX11_check 11 = .ok (.getfield 315, 3) := by decide +kernel
theorem dX11_check_14 : decode cX11_check 14 = .ok (.iconst 0, 1) := by decide +kernel
theorem dX11_check_15 : decode cX11_check 15 = .ok (.putfield 174, 3) := by decide +kernel
theorem dX11_check_18 : decode cX11_check 18 = .ok (.aload_n 0, 1) := by decide +kernel
theorem dX11_check_19 : decode cX11_check 19 = .ok (.ldc 60, 2) := by decide +kernel
theorem dX11_check_21 : decode cX11_check 21 = .ok (.invokevirtual 61, 3) := by decide +kernel
theorem dX11_check_24 : decode cX11_check 24 = .ok (.ireturn, 1) := by decide +kernel
theorem dX11_check_25 : decode cX11_check 25 = .ok (.aload_n 0, 1) := by decide +kernel
theorem dX11_check_26 : decode cX11_check 26 = .ok (.iload_n 1, 1) := by decide +kernel
theorem dX11_check_27 : decode cX11_check 27 = .ok (.invokevirtual 214, 3) := by decide +kernel
theorem dX11_check_30 : decode cX11_check 30 = .ok (.aload_n 0, 1) := by decide +kernel
theorem dX11_check_31 : decode cX11_check 31 = .ok (.aload_n 0, 1) := by decide +kernel
theorem dX11_check_32 : decode cX11_check 32 = .ok (.getfield 12, 3) := by decide +kernel
theorem dX11_check_35 : decode cX11_check 35 = .ok (.getfield 315, 3) := by decide +kernel
theorem dX11_check_38 : decode cX11_check 38 = .ok (.invokevirtual 318, 3) := by decide +kernel
theorem dX11_check_41 : decode cX11_check 41 = .ok (.istore_n 2, 1) := by decide +kernel
theorem dX11_check_42 : decode cX11_check 42 = .ok (.aload_n 0, 1) := by decide +kernel
theorem dX11_check_43 : decode cX11_check 43 = .ok (.getfield 12, 3) := by decide +kernel
theorem dX11_check_46 : decode cX11_check 46 = .ok (.getfield 315, 3) := by decide +kernel
theorem dX11_check_49 : decode cX11_check 49 = .ok (.iconst 0, 1) := by decide +kernel
theorem dX11_check_50 : decode cX11_check 50 = .ok (.putfield 174, 3) := by decide +kernel
theorem dX11_check_53 : decode cX11_check 53 = .ok (.iload_n 2, 1) := by decide +kernel
theorem dX11_check_54 : decode cX11_check 54 = .ok (.ireturn, 1) := by decide +kernel
theorem dX11_count_0 : decode cX11_count 0 = .ok (.iload_n 1, 1) := by decide +kernel
theorem dX11_count_1 : decode cX11_count 1 = .ok (.tableswitch 129 0 8 #[51, 59, 67, 75, 83, 91, 102, 113, 121], 51) := by decide +kernel
theorem dX11_count_52 : decode cX11_count 52 = .ok (.aload_n 0, 1) := by decide +kernel
theorem dX11_count_53 : decode cX11_count 53 = .ok (.getfield 12, 3) := by decide +kernel
theorem dX11_count_56 : decode cX11_count 56 = .ok (.getfield 312, 3) := by decide +kernel
theorem dX11_count_59 : decode cX11_count 59 = .ok (.ireturn, 1) := by decide +kernel
theorem dX11_count_60 : decode cX11_count 60 = .ok (.aload_n 0, 1) := by decide +kernel
theorem dX11_count_61 : decode cX11_count 61 = .ok (.getfield 12, 3) := by decide +kernel
theorem dX11_count_64 : decode cX11_count 64 = .ok (.getfield 244, 3) := by decide +kernel
theorem dX11_count_67 : decode cX11_count 67 = .ok (.ireturn, 1) := by decide +kernel
theorem dX11_count_68 : decode cX11_count 68 = .ok (.aload_n 0, 1) := by decide +kernel
theorem dX11_count_69 : decode cX11_count 69 = .ok (.getfield 12, 3) := by decide +kernel
theorem dX11_count_72 : decode cX11_count 72 = .ok (.invokevirtual 217, 3) := by decide +kernel
theorem dX11_count_75 : decode cX11_count 75 = .ok (.ireturn, 1) := by decide +kernel
theorem dX11_count_76 : decode cX11_count 76 = .ok (.aload_n 0, 1) := by decide +kernel
theorem dX11_count_77 : decode cX11_count 77 = .ok (.getfield 12, 3) := by decide +kernel
theorem dX11_count_80 : decode cX11_count 80 = .ok (.getfield 98, 3) := by decide +kernel
theorem dX11_count_83 : decode cX11_count 83 = .ok (.ireturn, 1) := by decide +kernel
theorem dX11_count_84 : decode cX11_count 84 = .ok (.aload_n 0, 1) := by decide +kernel
theorem dX11_count_85 : decode cX11_count 85 = .ok (.getfield 12, 3) := by decide +kernel
theorem dX11_count_88 : decode cX11_count 88 = .ok (.getfield 161, 3) := by decide +kernel
theorem dX11_count_91 : decode cX11_count 91 = .ok (.ireturn, 1) := by decide +kernel
theorem dX11_count_92 : decode cX11_count 92 = .ok (.aload_n 0, 1) := by decide +kernel
theorem dX11_count_93 : decode cX11_count 93 = .ok (.getfield 12, 3) := by decide +kernel
theorem dX11_count_96 : decode cX11_count 96 = .ok (.getfield 171, 3) := by decide +kernel
theorem dX11_count_99 : decode cX11_count 99 = .ok (.getfield 174, 3) := by decide +kernel
theorem dX11_count_102 : decode cX11_count 102 = .ok (.ireturn, 1) := by decide +kernel
theorem dX11_count_103 : decode cX11_count 103 = .ok (.aload_n 0, 1) := by decide +kernel
theorem dX11_count_104 : decode cX11_count 104 = .ok (.getfield 12, 3) := by decide +kernel
theorem dX11_count_107 : decode cX11_count 107 = .ok (.getfield 315, 3) := by decide +kernel
theorem dX11_count_110 : decode cX11_count 110 = .ok (.getfield 174, 3) := by decide +kernel
theorem dX11_count_113 : decode cX11_count 113 = .ok (.ireturn, 1) := by decide +kernel
theorem dX11_count_114 : decode cX11_count 114 = .ok (.aload_n 0, 1) := by decide +kernel
theorem dX11_count_115 : decode cX11_count 115 = .ok (.getfield 38, 3) := by decide +kernel
theorem dX11_count_118 : decode cX11_count 118 = .ok (.getfield 174, 3) := by decide +kernel
theorem dX11_count_121 : decode cX11_count 121 = .ok (.ireturn, 1) := by decide +kernel
theorem dX11_count_122 : decode cX11_count 122 = .ok (.aload_n 0, 1) := by decide +kernel
theorem dX11_count_123 : decode cX11_count 123 = .ok (.getfield 12, 3) := by decide +kernel
theorem dX11_count_126 : decode cX11_count 126 = .ok (.getfield 263, 3) := by decide +kernel
theorem dX11_count_129 : decode cX11_count 129 = .ok (.ireturn, 1) := by decide +kernel
theorem dX11_count_130 : decode cX11_count 130 = .ok (.aload_n 0, 1) := by decide +kernel
theorem dX11_count_131 : decode cX11_count 131 = .ok (.ldc 60, 2) := by decide +kernel
theorem dX11_count_133 : decode cX11_count 133 = .ok (.invokevirtual 61, 3) := by decide +kernel
theorem dX11_count_136 : decode cX11_count 136 = .ok (.ireturn, 1) := by decide +kernel
theorem dX11_told_0 : decode cX11_told 0 = .ok (.iload_n 1, 1) := by decide +kernel
theorem dX11_told_1 : decode cX11_told 1 = .ok (.iconst 1, 1) := by decide +kernel
theorem dX11_told_2 : decode cX11_told 2 = .ok (.iconst 5, 1) := by decide +kernel
theorem dX11_told_3 : decode cX11_told 3 = .ok (.invokestatic 56, 3) := by decide +kernel
theorem dX11_told_6 : decode cX11_told 6 = .ok (.ifCond .eq 12, 3) := by decide +kernel
theorem dX11_told_9 : decode cX11_told 9 = .ok (.aload_n 0, 1) := by decide +kernel
theorem dX11_told_10 : decode cX11_told 10 = .ok (.getfield 49, 3) := by decide +kernel
theorem dX11_told_13 : decode cX11_told 13 = .ok (.iload_n 1, 1) := by decide +kernel
theorem dX11_told_14 : decode cX11_told 14 = .ok (.iaload, 1) := by decide +kernel
theorem dX11_told_15 : decode cX11_told 15 = .ok (.goto 9, 3) := by decide +kernel
theorem dX11_told_18 : decode cX11_told 18 = .ok (.aload_n 0, 1) := by decide +kernel
theorem dX11_told_19 : decode cX11_told 19 = .ok (.ldc 60, 2) := by decide +kernel
theorem dX11_told_21 : decode cX11_told 21 = .ok (.invokevirtual 61, 3) := by decide +kernel
theorem dX11_told_24 : decode cX11_told 24 = .ok (.ireturn, 1) := by decide +kernel
theorem dX11_error_0 : decode cX11_error 0 = .ok (.ldc_w 322, 3) := by decide +kernel
theorem dX11_error_3 : decode cX11_error 3 = .ok (.iload_n 1, 1) := by decide +kernel
theorem dX11_error_4 : decode cX11_error 4 = .ok (.isub, 1) := by decide +kernel
theorem dX11_error_5 : decode cX11_error 5 = .ok (.istore_n 2, 1) := by decide +kernel
theorem dX11_error_6 : decode cX11_error 6 = .ok (.iload_n 2, 1) := by decide +kernel
theorem dX11_error_7 : decode cX11_error 7 = .ok (.iconst 1, 1) := by decide +kernel
theorem dX11_error_8 : decode cX11_error 8 = .ok (.iconst 5, 1) := by decide +kernel
theorem dX11_error_9 : decode cX11_error 9 = .ok (.invokestatic 56, 3) := by decide +kernel
theorem dX11_error_12 : decode cX11_error 12 = .ok (.ifCond .eq 13, 3) := by decide +kernel
theorem dX11_error_15 : decode cX11_error 15 = .ok (.aload_n 0, 1) := by decide +kernel
theorem dX11_error_16 : decode cX11_error 16 = .ok (.getfield 49, 3) := by decide +kernel
theorem dX11_error_19 : decode cX11_error 19 = .ok (.iload_n 2, 1) := by decide +kernel
theorem dX11_error_20 : decode cX11_error 20 = .ok (.dup2, 1) := by decide +kernel
theorem dX11_error_21 : decode cX11_error 21 = .ok (.iaload, 1) := by decide +kernel
theorem dX11_error_22 : decode cX11_error 22 = .ok (.iconst 1, 1) := by decide +kernel
theorem dX11_error_23 : decode cX11_error 23 = .ok (.iadd, 1) := by decide +kernel
theorem dX11_error_24 : decode cX11_error 24 = .ok (.iastore, 1) := by decide +kernel
theorem dX11_error_25 : decode cX11_error 25 = .ok (.iload_n 1, 1) := by decide +kernel
theorem dX11_error_26 : decode cX11_error 26 = .ok (.ireturn, 1) := by decide +kernel
theorem dX11_pass_0 : decode cX11_pass 0 = .ok (.iload_n 1, 1) := by decide +kernel
theorem dX11_pass_1 : decode cX11_pass 1 = .ok (.iconst 1, 1) := by decide +kernel
theorem dX11_pass_2 : decode cX11_pass 2 = .ok (.bipush 100, 2) := by decide +kernel
theorem dX11_pass_4 : decode cX11_pass 4 = .ok (.invokestatic 56, 3) := by decide +kernel
theorem dX11_pass_7 : decode cX11_pass 7 = .ok (.ifCond .ne 10, 3) := by decide +kernel
theorem dX11_pass_10 : decode cX11_pass 10 = .ok (.aload_n 0, 1) := by decide +kernel
theorem dX11_pass_11 : decode cX11_pass 11 = .ok (.ldc 60, 2) := by decide +kernel
theorem dX11_pass_13 : decode cX11_pass 13 = .ok (.invokevirtual 61, 3) := by decide +kernel
theorem dX11_pass_16 : decode cX11_pass 16 = .ok (.ireturn, 1) := by decide +kernel
theorem dX11_pass_17 : decode cX11_pass 17 = .ok (.aload_n 0, 1) := by decide +kernel
theorem dX11_pass_18 : decode cX11_pass 18 = .ok (.getfield 12, 3) := by decide +kernel
theorem dX11_pass_21 : decode cX11_pass 21 = .ok (.getfield 312, 3) := by decide +kernel
theorem dX11_pass_24 : decode cX11_pass 24 = .ok (.iload_n 1, 1) := by decide +kernel
theorem dX11_pass_25 : decode cX11_pass 25 = .ok (.iadd, 1) := by decide +kernel
theorem dX11_pass_26 : decode cX11_pass 26 = .ok (.sipush 9999, 3) := by decide +kernel
theorem dX11_pass_29 : decode cX11_pass 29 = .ok (.if_icmp .le 11, 3) := by decide +kernel
theorem dX11_pass_32 : decode cX11_pass 32 = .ok (.aload_n 0, 1) := by decide +kernel
theorem dX11_pass_33 : decode cX11_pass 33 = .ok (.ldc_w 288, 3) := by decide +kernel
theorem dX11_pass_36 : decode cX11_pass 36 = .ok (.invokevirtual 61, 3) := by decide +kernel
theorem dX11_pass_39 : decode cX11_pass 39 = .ok (.ireturn, 1) := by decide +kernel
theorem dX11_pass_40 : decode cX11_pass 40 = .ok (.iconst 0, 1) := by decide +kernel
theorem dX11_pass_41 : decode cX11_pass 41 = .ok (.istore_n 3, 1) := by decide +kernel
theorem dX11_pass_42 : decode cX11_pass 42 = .ok (.iload_n 3, 1) := by decide +kernel
theorem dX11_pass_43 : decode cX11_pass 43 = .ok (.iload_n 1, 1) := by decide +kernel
theorem dX11_pass_44 : decode cX11_pass 44 = .ok (.if_icmp .ge 27, 3) := by decide +kernel
theorem dX11_pass_47 : decode cX11_pass 47 = .ok (.aload_n 0, 1) := by decide +kernel
theorem dX11_pass_48 : decode cX11_pass 48 = .ok (.getfield 12, 3) := by decide +kernel
theorem dX11_pass_51 : decode cX11_pass 51 = .ok (.invokevirtual 241, 3) := by decide +kernel
theorem dX11_pass_54 : decode cX11_pass 54 = .ok (.iload_n 2, 1) := by decide +kernel
theorem dX11_pass_55 : decode cX11_pass 55 = .ok (.ifCond .eq 10, 3) := by decide +kernel
theorem dX11_pass_58 : decode cX11_pass 58 = .ok (.aload_n 0, 1) := by decide +kernel
theorem dX11_pass_59 : decode cX11_pass 59 = .ok (.getfield 12, 3) := by decide +kernel
theorem dX11_pass_62 : decode cX11_pass 62 = .ok (.invokevirtual 323, 3) := by decide +kernel
theorem dX11_pass_65 : decode cX11_pass 65 = .ok (.iinc 3 1, 3) := by decide +kernel
theorem dX11_pass_68 : decode cX11_pass 68 = .ok (.goto (-26), 3) := by decide +kernel
theorem dX11_pass_71 : decode cX11_pass 71 = .ok (.aload_n 0, 1) := by decide +kernel
theorem dX11_pass_72 : decode cX11_pass 72 = .ok (.getfield 12, 3) := by decide +kernel
theorem dX11_pass_75 : decode cX11_pass 75 = .ok (.getfield 312, 3) := by decide +kernel
theorem dX11_pass_78 : decode cX11_pass 78 = .ok (.ireturn, 1) := by decide +kernel
theorem dX11_goAhead_0 : decode cX11_goAhead 0 = .ok (.aload_n 0, 1) := by decide +kernel
theorem dX11_goAhead_1 : decode cX11_goAhead 1 = .ok (.getfield 16, 3) := by decide +kernel
theorem dX11_goAhead_4 : decode cX11_goAhead 4 = .ok (.aload_n 0, 1) := by decide +kernel
theorem dX11_goAhead_5 : decode cX11_goAhead 5 = .ok (.getfield 12, 3) := by decide +kernel
theorem dX11_goAhead_8 : decode cX11_goAhead 8 = .ok (.invokevirtual 220, 3) := by decide +kernel
theorem dX11_goAhead_11 : decode cX11_goAhead 11 = .ok (.iconst 0, 1) := by decide +kernel
theorem dX11_goAhead_12 : decode cX11_goAhead 12 = .ok (.istore_n 2, 1) := by decide +kernel
theorem dX11_goAhead_13 : decode cX11_goAhead 13 = .ok (.iload_n 2, 1) := by decide +kernel
theorem dX11_goAhead_14 : decode cX11_goAhead 14 = .ok (.iload_n 1, 1) := by decide +kernel
theorem dX11_goAhead_15 : decode cX11_goAhead 15 = .ok (.if_icmp .ge 16, 3) := by decide +kernel
theorem dX11_goAhead_18 : decode cX11_goAhead 18 = .ok (.aload_n 0, 1) := by decide +kernel
theorem dX11_goAhead_19 : decode cX11_goAhead 19 = .ok (.getfield 16, 3) := by decide +kernel
theorem dX11_goAhead_22 : decode cX11_goAhead 22 = .ok (.invokevirtual 241, 3) := by decide +kernel
theorem dX11_goAhead_25 : decode cX11_goAhead 25 = .ok (.iinc 2 1, 3) := by decide +kernel
theorem dX11_goAhead_28 : decode cX11_goAhead 28 = .ok (.goto (-15), 3) := by decide +kernel
theorem dX11_goAhead_31 : decode cX11_goAhead 31 = .ok (.return_, 1) := by decide +kernel
theorem dX11_checked_0 : decode cX11_checked 0 = .ok (.iconst 0, 1) := by decide +kernel
theorem dX11_checked_1 : decode cX11_checked 1 = .ok (.istore_n 2, 1) := by decide +kernel
theorem dX11_checked_2 : decode cX11_checked 2 = .ok (.iload_n 2, 1) := by decide +kernel
theorem dX11_checked_3 : decode cX11_checked 3 = .ok (.aload_n 1, 1) := by decide +kernel
theorem dX11_checked_4 : decode cX11_checked 4 = .ok (.getfield 174, 3) := by decide +kernel
theorem dX11_checked_7 : decode cX11_checked 7 = .ok (.if_icmp .gt 72, 3) := by decide +kernel
theorem dX11_checked_10 : decode cX11_checked 10 = .ok (.aload_n 0, 1) := by decide +kernel
theorem dX11_checked_11 : decode cX11_checked 11 = .ok (.getfield 16, 3) := by decide +kernel
theorem dX11_checked_14 : decode cX11_checked 14 = .ok (.invokevirtual 206, 3) := by decide +kernel
theorem dX11_checked_17 : decode cX11_checked 17 = .ok (.istore_n 3, 1) := by decide +kernel
theorem dX11_checked_18 : decode cX11_checked 18 = .ok (.iload_n 3, 1) := by decide +kernel
theorem dX11_checked_19 : decode cX11_checked 19 = .ok (.ifCond .ge 19, 3) := by decide +kernel
theorem dX11_checked_22 : decode cX11_checked 22 = .ok (.iload_n 2, 1) := by decide +kernel
theorem dX11_checked_23 : decode cX11_checked 23 = .ok (.aload_n 1, 1) := by decide +kernel
theorem dX11_checked_24 : decode cX11_checked 24 = .ok (.getfield 174, 3) := by decide +kernel
theorem dX11_checked_27 : decode cX11_checked 27 = .ok (.if_icmp .ne 7, 3) := by decide +kernel
theorem dX11_checked_30 : decode cX11_checked 30 = .ok (.iconst 0, 1) := by decide +kernel
theorem dX11_checked_31 : decode cX11_checked 31 = .ok (.goto 6, 3) := by decide +kernel
theorem dX11_checked_34 : decode cX11_checked 34 = .ok (.iconst 1, 1) := by decide +kernel
theorem dX11_checked_35 : decode cX11_checked 35 = .ok (.iload_n 2, 1) := by decide +kernel
theorem dX11_checked_36 : decode cX11_checked 36 = .ok (.iadd, 1) := by decide +kernel
theorem dX11_checked_37 : decode cX11_checked 37 = .ok (.ireturn, 1) := by decide +kernel
theorem dX11_checked_38 : decode cX11_checked 38 = .ok (.aload_n 1, 1) := by decide +kernel
theorem dX11_checked_39 : decode cX11_checked 39 = .ok (.iload_n 2, 1) := by decide +kernel
theorem dX11_checked_40 : decode cX11_checked 40 = .ok (.invokevirtual 279, 3) := by decide +kernel
theorem dX11_checked_43 : decode cX11_checked 43 = .ok (.ifCond .eq 13, 3) := by decide +kernel
theorem dX11_checked_46 : decode cX11_checked 46 = .ok (.aload_n 1, 1) := by decide +kernel
theorem dX11_checked_47 : decode cX11_checked 47 = .ok (.getfield 282, 3) := by decide +kernel
theorem dX11_checked_50 : decode cX11_checked 50 = .ok (.iload_n 2, 1) := by decide +kernel
theorem dX11_checked_51 : decode cX11_checked 51 = .ok (.iaload, 1) := by decide +kernel
theorem dX11_checked_52 : decode cX11_checked 52 = .ok (.iload_n 3, 1) := by decide +kernel
theorem dX11_checked_53 : decode cX11_checked 53 = .ok (.if_icmp .eq 7, 3) := by decide +kernel
theorem dX11_checked_56 : decode cX11_checked 56 = .ok (.iconst 1, 1) := by decide +kernel
theorem dX11_checked_57 : decode cX11_checked 57 = .ok (.iload_n 2, 1) := by decide +kernel
theorem dX11_checked_58 : decode cX11_checked 58 = .ok (.iadd, 1) := by decide +kernel
theorem dX11_checked_59 : decode cX11_checked 59 = .ok (.ireturn, 1) := by decide +kernel
theorem dX11_checked_60 : decode cX11_checked 60 = .ok (.aload_n 0, 1) := by decide +kernel
theorem dX11_checked_61 : decode cX11_checked 61 = .ok (.getfield 16, 3) := by decide +kernel
theorem dX11_checked_64 : decode cX11_checked 64 = .ok (.getfield 78, 3) := by decide +kernel
theorem dX11_checked_67 : decode cX11_checked 67 = .ok (.iload_n 3, 1) := by decide +kernel
theorem dX11_checked_68 : decode cX11_checked 68 = .ok (.aaload, 1) := by decide +kernel
theorem dX11_checked_69 : decode cX11_checked 69 = .ok (.iconst 0, 1) := by decide +kernel
theorem dX11_checked_70 : decode cX11_checked 70 = .ok (.putfield 87, 3) := by decide +kernel
theorem dX11_checked_73 : decode cX11_checked 73 = .ok (.iinc 2 1, 3) := by decide +kernel
theorem dX11_checked_76 : decode cX11_checked 76 = .ok (.goto (-74), 3) := by decide +kernel
theorem dX11_checked_79 : decode cX11_checked 79 = .ok (.iconst 0, 1) := by decide +kernel
theorem dX11_checked_80 : decode cX11_checked 80 = .ok (.ireturn, 1) := by decide +kernel
theorem dX11_filmError_0 : decode cX11_filmError 0 = .ok (.iload_n 1, 1) := by decide +kernel
theorem dX11_filmError_1 : decode cX11_filmError 1 = .ok (.invokestatic 285, 3) := by decide +kernel
theorem dX11_filmError_4 : decode cX11_filmError 4 = .ok (.ifCond .ne 6, 3) := by decide +kernel
theorem dX11_filmError_7 : decode cX11_filmError 7 = .ok (.ldc 60, 2) := by decide +kernel
theorem dX11_filmError_9 : decode cX11_filmError 9 = .ok (.ireturn, 1) := by decide +kernel
theorem dX11_filmError_10 : decode cX11_filmError 10 = .ok (.aload_n 0, 1) := by decide +kernel
theorem dX11_filmError_11 : decode cX11_filmError 11 = .ok (.iload_n 1, 1) := by decide +kernel
theorem dX11_filmError_12 : decode cX11_filmError 12 = .ok (.invokevirtual 293, 3) := by decide +kernel
theorem dX11_filmError_15 : decode cX11_filmError 15 = .ok (.ifCond .ne 13, 3) := by decide +kernel
theorem dX11_filmError_18 : decode cX11_filmError 18 = .ok (.aload_n 0, 1) := by decide +kernel
theorem dX11_filmError_19 : decode cX11_filmError 19 = .ok (.getfield 12, 3) := by decide +kernel
theorem dX11_filmError_22 : decode cX11_filmError 22 = .ok (.getfield 244, 3) := by decide +kernel
theorem dX11_filmError_25 : decode cX11_filmError 25 = .ok (.ifCond .ne 8, 3) := by decide +kernel
theorem dX11_filmError_28 : decode cX11_filmError 28 = .ok (.ldc 210, 2) := by decide +kernel
theorem dX11_filmError_30 : decode cX11_filmError 30 = .ok (.goto 4, 3) := by decide +kernel
theorem dX11_filmError_33 : decode cX11_filmError 33 = .ok (.iconst 0, 1) := by decide +kernel
theorem dX11_filmError_34 : decode cX11_filmError 34 = .ok (.ireturn, 1) := by decide +kernel
theorem dX11_offBy_0 : decode cX11_offBy 0 = .ok (.aload_n 0, 1) := by decide +kernel
theorem dX11_offBy_1 : decode cX11_offBy 1 = .ok (.getfield 16, 3) := by decide +kernel
theorem dX11_offBy_4 : decode cX11_offBy 4 = .ok (.getfield 78, 3) := by decide +kernel
theorem dX11_offBy_7 : decode cX11_offBy 7 = .ok (.iconst 0, 1) := by decide +kernel
theorem dX11_offBy_8 : decode cX11_offBy 8 = .ok (.aaload, 1) := by decide +kernel
theorem dX11_offBy_9 : decode cX11_offBy 9 = .ok (.astore_n 3, 1) := by decide +kernel
theorem dX11_offBy_10 : decode cX11_offBy 10 = .ok (.iconst 0, 1) := by decide +kernel
theorem dX11_offBy_11 : decode cX11_offBy 11 = .ok (.istore 4, 2) := by decide +kernel
theorem dX11_offBy_13 : decode cX11_offBy 13 = .ok (.iconst 0, 1) := by decide +kernel
theorem dX11_offBy_14 : decode cX11_offBy 14 = .ok (.istore 5, 2) := by decide +kernel
theorem dX11_offBy_16 : decode cX11_offBy 16 = .ok (.iload 5, 2) := by decide +kernel
theorem dX11_offBy_18 : decode cX11_offBy 18 = .ok (.aload_n 1, 1) := by decide +kernel
theorem dX11_offBy_19 : decode cX11_offBy 19 = .ok (.getfield 174, 3) := by decide +kernel
theorem dX11_offBy_22 : decode cX11_offBy 22 = .ok (.if_icmp .ge 69, 3) := by decide +kernel
theorem dX11_offBy_25 : decode cX11_offBy 25 = .ok (.aload_n 3, 1) := by decide +kernel
theorem dX11_offBy_26 : decode cX11_offBy 26 = .ok (.getfield 87, 3) := by decide +kernel
theorem dX11_offBy_29 : decode cX11_offBy 29 = .ok (.ifCond .eq 62, 3) := by decide +kernel
theorem dX11_offBy_32 : decode cX11_offBy 32 = .ok (.iload 4, 2) := by decide +kernel
theorem dX11_offBy_34 : decode cX11_offBy 34 = .ok (.iload_n 2, 1) := by decide +kernel
theorem dX11_offBy_35 : decode cX11_offBy 35 = .ok (.if_icmp .ge 56, 3) := by decide +kernel
theorem dX11_offBy_38 : decode cX11_offBy 38 = .ok (.aload_n 0, 1) := by decide +kernel
theorem dX11_offBy_39 : decode cX11_offBy 39 = .ok (.getfield 16, 3) := by decide +kernel
theorem dX11_offBy_42 : decode cX11_offBy 42 = .ok (.invokevirtual 241, 3) := by decide +kernel
theorem dX11_offBy_45 : decode cX11_offBy 45 = .ok (.aload_n 3, 1) := by decide +kernel
theorem dX11_offBy_46 : decode cX11_offBy 46 = .ok (.getfield 87, 3) := by decide +kernel
theorem dX11_offBy_49 : decode cX11_offBy 49 = .ok (.ifCond .eq 36, 3) := by decide +kernel
theorem dX11_offBy_52 : decode cX11_offBy 52 = .ok (.aload_n 3, 1) := by decide +kernel
theorem dX11_offBy_53 : decode cX11_offBy 53 = .ok (.getfield 229, 3) := by decide +kernel
theorem dX11_offBy_56 : decode cX11_offBy 56 = .ok (.i2l, 1) := by decide +kernel
theorem dX11_offBy_57 : decode cX11_offBy 57 = .ok (.aload_n 1, 1) := by decide +kernel
theorem dX11_offBy_58 : decode cX11_offBy 58 = .ok (.getfield 282, 3) := by decide +kernel
theorem dX11_offBy_61 : decode cX11_offBy 61 = .ok (.iload 5, 2) := by decide +kernel
theorem dX11_offBy_63 : decode cX11_offBy 63 = .ok (.iaload, 1) := by decide +kernel
theorem dX11_offBy_64 : decode cX11_offBy 64 = .ok (.i2l, 1) := by decide +kernel
theorem dX11_offBy_65 : decode cX11_offBy 65 = .ok (.lsub, 1) := by decide +kernel
theorem dX11_offBy_66 : decode cX11_offBy 66 = .ok (.invokestatic 326, 3) := by decide +kernel
theorem dX11_offBy_69 : decode cX11_offBy 69 = .ok (.lstore 6, 2) := by decide +kernel
theorem dX11_offBy_71 : decode cX11_offBy 71 = .ok (.iload 4, 2) := by decide +kernel
theorem dX11_offBy_73 : decode cX11_offBy 73 = .ok (.lload 6, 2) := by decide +kernel
theorem dX11_offBy_75 : decode cX11_offBy 75 = .ok (.ldc2_w 330, 3) := by decide +kernel
theorem dX11_offBy_78 : decode cX11_offBy 78 = .ok (.invokestatic 332, 3) := by decide +kernel
theorem dX11_offBy_81 : decode cX11_offBy 81 = .ok (.l2i, 1) := by decide +kernel
theorem dX11_offBy_82 : decode cX11_offBy 82 = .ok (.iadd, 1) := by decide +kernel
theorem dX11_offBy_83 : decode cX11_offBy 83 = .ok (.istore 4, 2) := by decide +kernel
theorem dX11_offBy_85 : decode cX11_offBy 85 = .ok (.iinc 5 1, 3) := by decide +kernel
theorem dX11_offBy_88 : decode cX11_offBy 88 = .ok (.goto (-72), 3) := by decide +kernel
theorem dX11_offBy_91 : decode cX11_offBy 91 = .ok (.iload 4, 2) := by decide +kernel
theorem dX11_offBy_93 : decode cX11_offBy 93 = .ok (.ireturn, 1) := by decide +kernel
theorem dX11_isMissing_0 : decode cX11_isMissing 0 = .ok (.aload_n 0, 1) := by decide +kernel
theorem dX11_isMissing_1 : decode cX11_isMissing 1 = .ok (.getfield 31, 3) := by decide +kernel
theorem dX11_isMissing_4 : decode cX11_isMissing 4 = .ok (.iload_n 1, 1) := by decide +kernel
theorem dX11_isMissing_5 : decode cX11_isMissing 5 = .ok (.aaload, 1) := by decide +kernel
theorem dX11_isMissing_6 : decode cX11_isMissing 6 = .ok (.getfield 299, 3) := by decide +kernel
theorem dX11_isMissing_9 : decode cX11_isMissing 9 = .ok (.ifCond .ne 7, 3) := by decide +kernel
theorem dX11_isMissing_12 : decode cX11_isMissing 12 = .ok (.iconst 1, 1) := by decide +kernel
theorem dX11_isMissing_13 : decode cX11_isMissing 13 = .ok (.goto 4, 3) := by decide +kernel
theorem dX11_isMissing_16 : decode cX11_isMissing 16 = .ok (.iconst 0, 1) := by decide +kernel
theorem dX11_isMissing_17 : decode cX11_isMissing 17 = .ok (.ireturn, 1) := by decide +kernel
theorem dX11_isSheet_0 : decode cX11_isSheet 0 = .ok (.iload_n 0, 1) := by decide +kernel
theorem dX11_isSheet_1 : decode cX11_isSheet 1 = .ok (.iconst 0, 1) := by decide +kernel
theorem dX11_isSheet_2 : decode cX11_isSheet 2 = .ok (.iconst 3, 1) := by decide +kernel
theorem dX11_isSheet_3 : decode cX11_isSheet 3 = .ok (.invokestatic 56, 3) := by decide +kernel
theorem dX11_isSheet_6 : decode cX11_isSheet 6 = .ok (.ireturn, 1) := by decide +kernel
theorem dX11_isAhead_0 : decode cX11_isAhead 0 = .ok (.iload_n 0, 1) := by decide +kernel
theorem dX11_isAhead_1 : decode cX11_isAhead 1 = .ok (.iconst 0, 1) := by decide +kernel
theorem dX11_isAhead_2 : decode cX11_isAhead 2 = .ok (.bipush 60, 2) := by decide +kernel
theorem dX11_isAhead_4 : decode cX11_isAhead 4 = .ok (.invokestatic 56, 3) := by decide +kernel
theorem dX11_isAhead_7 : decode cX11_isAhead 7 = .ok (.ireturn, 1) := by decide +kernel
theorem dX11_isHeld_0 : decode cX11_isHeld 0 = .ok (.iload_n 0, 1) := by decide +kernel
theorem dX11_isHeld_1 : decode cX11_isHeld 1 = .ok (.iload_n 1, 1) := by decide +kernel
theorem dX11_isHeld_2 : decode cX11_isHeld 2 = .ok (.if_icmp .lt 12, 3) := by decide +kernel
theorem dX11_isHeld_5 : decode cX11_isHeld 5 = .ok (.iload_n 0, 1) := by decide +kernel
theorem dX11_isHeld_6 : decode cX11_isHeld 6 = .ok (.iload_n 2, 1) := by decide +kernel
theorem dX11_isHeld_7 : decode cX11_isHeld 7 = .ok (.if_icmp .gt 7, 3) := by decide +kernel
theorem dX11_isHeld_10 : decode cX11_isHeld 10 = .ok (.iconst 1, 1) := by decide +kernel
theorem dX11_isHeld_11 : decode cX11_isHeld 11 = .ok (.goto 4, 3) := by decide +kernel
theorem dX11_isHeld_14 : decode cX11_isHeld 14 = .ok (.iconst 0, 1) := by decide +kernel
theorem dX11_isHeld_15 : decode cX11_isHeld 15 = .ok (.ireturn, 1) := by decide +kernel
theorem dX11_held_0 : decode cX11_held 0 = .ok (.iload_n 0, 1) := by decide +kernel
theorem dX11_held_1 : decode cX11_held 1 = .ok (.iload_n 1, 1) := by decide +kernel
theorem dX11_held_2 : decode cX11_held 2 = .ok (.if_icmp .ge 7, 3) := by decide +kernel
theorem dX11_held_5 : decode cX11_held 5 = .ok (.iload_n 1, 1) := by decide +kernel
theorem dX11_held_6 : decode cX11_held 6 = .ok (.goto 13, 3) := by decide +kernel
theorem dX11_held_9 : decode cX11_held 9 = .ok (.iload_n 0, 1) := by decide +kernel
theorem dX11_held_10 : decode cX11_held 10 = .ok (.iload_n 2, 1) := by decide +kernel
theorem dX11_held_11 : decode cX11_held 11 = .ok (.if_icmp .le 7, 3) := by decide +kernel
theorem dX11_held_14 : decode cX11_held 14 = .ok (.iload_n 2, 1) := by decide +kernel
theorem dX11_held_15 : decode cX11_held 15 = .ok (.goto 4, 3) := by decide +kernel
theorem dX11_held_18 : decode cX11_held 18 = .ok (.iload_n 0, 1) := by decide +kernel
theorem dX11_held_19 : decode cX11_held 19 = .ok (.ireturn, 1) := by decide +kernel
theorem dX11_asBit_0 : decode cX11_asBit 0 = .ok (.iload_n 0, 1) := by decide +kernel
theorem dX11_asBit_1 : decode cX11_asBit 1 = .ok (.ifCond .eq 7, 3) := by decide +kernel
theorem dX11_asBit_4 : decode cX11_asBit 4 = .ok (.iconst 1, 1) := by decide +kernel
theorem dX11_asBit_5 : decode cX11_asBit 5 = .ok (.goto 4, 3) := by decide +kernel
theorem dX11_asBit_8 : decode cX11_asBit 8 = .ok (.iconst 0, 1) := by decide +kernel
theorem dX11_asBit_9 : decode cX11_asBit 9 = .ok (.ireturn, 1) := by decide +kernel
theorem dX11_quotient_0 : decode cX11_quotient 0 = .ok (.iload_n 1, 1) := by decide +kernel
theorem dX11_quotient_1 : decode cX11_quotient 1 = .ok (.ifCond .ne 7, 3) := by decide +kernel
theorem dX11_quotient_4 : decode cX11_quotient 4 = .ok (.iconst 0, 1) := by decide +kernel
theorem dX11_quotient_5 : decode cX11_quotient 5 = .ok (.goto 6, 3) := by decide +kernel
theorem dX11_quotient_8 : decode cX11_quotient 8 = .ok (.iload_n 0, 1) := by decide +kernel
theorem dX11_quotient_9 : decode cX11_quotient 9 = .ok (.iload_n 1, 1) := by decide +kernel
theorem dX11_quotient_10 : decode cX11_quotient 10 = .ok (.idiv, 1) := by decide +kernel
theorem dX11_quotient_11 : decode cX11_quotient 11 = .ok (.ireturn, 1) := by decide +kernel
theorem dX11_makeLaw_0 : decode cX11_makeLaw 0 = .ok (.iload_n 0, 1) := by decide +kernel
theorem dX11_makeLaw_1 : decode cX11_makeLaw 1 = .ok (.tableswitch 101 1 6 #[39, 49, 59, 70, 80, 91], 39) := by decide +kernel
theorem dX11_makeLaw_40 : decode cX11_makeLaw 40 = .ok (.new 335, 3) := by decide +kernel
theorem dX11_makeLaw_43 : decode cX11_makeLaw 43 = .ok (.dup, 1) := by decide +kernel
theorem dX11_makeLaw_44 : decode cX11_makeLaw 44 = .ok (.iload_n 1, 1) := by decide +kernel
theorem dX11_makeLaw_45 : decode cX11_makeLaw 45 = .ok (.iload_n 2, 1) := by decide +kernel
theorem dX11_makeLaw_46 : decode cX11_makeLaw 46 = .ok (.invokespecial 337, 3) := by decide +kernel
theorem dX11_makeLaw_49 : decode cX11_makeLaw 49 = .ok (.areturn, 1) := by decide +kernel
theorem dX11_makeLaw_50 : decode cX11_makeLaw 50 = .ok (.new 339, 3) := by decide +kernel
theorem dX11_makeLaw_53 : decode cX11_makeLaw 53 = .ok (.dup, 1) := by decide +kernel
theorem dX11_makeLaw_54 : decode cX11_makeLaw 54 = .ok (.iload_n 1, 1) := by decide +kernel
theorem dX11_makeLaw_55 : decode cX11_makeLaw 55 = .ok (.iload_n 2, 1) := by decide +kernel
theorem dX11_makeLaw_56 : decode cX11_makeLaw 56 = .ok (.invokespecial 341, 3) := by decide +kernel
theorem dX11_makeLaw_59 : decode cX11_makeLaw 59 = .ok (.areturn, 1) := by decide +kernel
theorem dX11_makeLaw_60 : decode cX11_makeLaw 60 = .ok (.new 342, 3) := by decide +kernel
theorem dX11_makeLaw_63 : decode cX11_makeLaw 63 = .ok (.dup, 1) := by decide +kernel
theorem dX11_makeLaw_64 : decode cX11_makeLaw 64 = .ok (.iconst 3, 1) := by decide +kernel
theorem dX11_makeLaw_65 : decode cX11_makeLaw 65 = .ok (.iload_n 1, 1) := by decide +kernel
theorem dX11_makeLaw_66 : decode cX11_makeLaw 66 = .ok (.iload_n 2, 1) := by decide +kernel
theorem dX11_makeLaw_67 : decode cX11_makeLaw 67 = .ok (.invokespecial 344, 3) := by decide +kernel
theorem dX11_makeLaw_70 : decode cX11_makeLaw 70 = .ok (.areturn, 1) := by decide +kernel
theorem dX11_makeLaw_71 : decode cX11_makeLaw 71 = .ok (.new 347, 3) := by decide +kernel
theorem dX11_makeLaw_74 : decode cX11_makeLaw 74 = .ok (.dup, 1) := by decide +kernel
theorem dX11_makeLaw_75 : decode cX11_makeLaw 75 = .ok (.iload_n 1, 1) := by decide +kernel
theorem dX11_makeLaw_76 : decode cX11_makeLaw 76 = .ok (.iload_n 2, 1) := by decide +kernel
theorem dX11_makeLaw_77 : decode cX11_makeLaw 77 = .ok (.invokespecial 349, 3) := by decide +kernel
theorem dX11_makeLaw_80 : decode cX11_makeLaw 80 = .ok (.areturn, 1) := by decide +kernel
theorem dX11_makeLaw_81 : decode cX11_makeLaw 81 = .ok (.new 350, 3) := by decide +kernel
theorem dX11_makeLaw_84 : decode cX11_makeLaw 84 = .ok (.dup, 1) := by decide +kernel
theorem dX11_makeLaw_85 : decode cX11_makeLaw 85 = .ok (.iconst 5, 1) := by decide +kernel
theorem dX11_makeLaw_86 : decode cX11_makeLaw 86 = .ok (.iload_n 1, 1) := by decide +kernel
theorem dX11_makeLaw_87 : decode cX11_makeLaw 87 = .ok (.iload_n 2, 1) := by decide +kernel
theorem dX11_makeLaw_88 : decode cX11_makeLaw 88 = .ok (.invokespecial 352, 3) := by decide +kernel
theorem dX11_makeLaw_91 : decode cX11_makeLaw 91 = .ok (.areturn, 1) := by decide +kernel
theorem dX11_makeLaw_92 : decode cX11_makeLaw 92 = .ok (.new 353, 3) := by decide +kernel
theorem dX11_makeLaw_95 : decode cX11_makeLaw 95 = .ok (.dup, 1) := by decide +kernel
theorem dX11_makeLaw_96 : decode cX11_makeLaw 96 = .ok (.iload_n 1, 1) := by decide +kernel
theorem dX11_makeLaw_97 : decode cX11_makeLaw 97 = .ok (.iload_n 2, 1) := by decide +kernel
theorem dX11_makeLaw_98 : decode cX11_makeLaw 98 = .ok (.invokespecial 355, 3) := by decide +kernel
theorem dX11_makeLaw_101 : decode cX11_makeLaw 101 = .ok (.areturn, 1) := by decide +kernel
theorem dX11_makeLaw_102 : decode cX11_makeLaw 102 = .ok (.new 117, 3) := by decide +kernel
theorem dX11_makeLaw_105 : decode cX11_makeLaw 105 = .ok (.dup, 1) := by decide +kernel
theorem dX11_makeLaw_106 : decode cX11_makeLaw 106 = .ok (.iconst 0, 1) := by decide +kernel
theorem dX11_makeLaw_107 : decode cX11_makeLaw 107 = .ok (.iload_n 1, 1) := by decide +kernel
theorem dX11_makeLaw_108 : decode cX11_makeLaw 108 = .ok (.iload_n 2, 1) := by decide +kernel
theorem dX11_makeLaw_109 : decode cX11_makeLaw 109 = .ok (.invokespecial 356, 3) := by decide +kernel
theorem dX11_makeLaw_112 : decode cX11_makeLaw 112 = .ok (.areturn, 1) := by decide +kernel
theorem dX11_isOfKind_0 : decode cX11_isOfKind 0 = .ok (.iload_n 1, 1) := by decide +kernel
theorem dX11_isOfKind_1 : decode cX11_isOfKind 1 = .ok (.tableswitch 69 1 6 #[39, 44, 49, 54, 59, 64], 39) := by decide +kernel
theorem dX11_isOfKind_40 : decode cX11_isOfKind 40 = .ok (.aload_n 0, 1) := by decide +kernel
theorem dX11_isOfKind_41 : decode cX11_isOfKind 41 = .ok (.instanceof 335, 3) := by decide +kernel
theorem dX11_isOfKind_44 : decode cX11_isOfKind 44 = .ok (.ireturn, 1) := by decide +kernel
theorem dX11_isOfKind_45 : decode cX11_isOfKind 45 = .ok (.aload_n 0, 1) := by decide +kernel
theorem dX11_isOfKind_46 : decode cX11_isOfKind 46 = .ok (.instanceof 339, 3) := by decide +kernel
theorem dX11_isOfKind_49 : decode cX11_isOfKind 49 = .ok (.ireturn, 1) := by decide +kernel
theorem dX11_isOfKind_50 : decode cX11_isOfKind 50 = .ok (.aload_n 0, 1) := by decide +kernel
theorem dX11_isOfKind_51 : decode cX11_isOfKind 51 = .ok (.instanceof 342, 3) := by decide +kernel
theorem dX11_isOfKind_54 : decode cX11_isOfKind 54 = .ok (.ireturn, 1) := by decide +kernel
theorem dX11_isOfKind_55 : decode cX11_isOfKind 55 = .ok (.aload_n 0, 1) := by decide +kernel
theorem dX11_isOfKind_56 : decode cX11_isOfKind 56 = .ok (.instanceof 347, 3) := by decide +kernel
theorem dX11_isOfKind_59 : decode cX11_isOfKind 59 = .ok (.ireturn, 1) := by decide +kernel
theorem dX11_isOfKind_60 : decode cX11_isOfKind 60 = .ok (.aload_n 0, 1) := by decide +kernel
theorem dX11_isOfKind_61 : decode cX11_isOfKind 61 = .ok (.instanceof 350, 3) := by decide +kernel
theorem dX11_isOfKind_64 : decode cX11_isOfKind 64 = .ok (.ireturn, 1) := by decide +kernel
theorem dX11_isOfKind_65 : decode cX11_isOfKind 65 = .ok (.aload_n 0, 1) := by decide +kernel
theorem dX11_isOfKind_66 : decode cX11_isOfKind 66 = .ok (.instanceof 353, 3) := by decide +kernel
theorem dX11_isOfKind_69 : decode cX11_isOfKind 69 = .ok (.ireturn, 1) := by decide +kernel
theorem dX11_isOfKind_70 : decode cX11_isOfKind 70 = .ok (.iconst 1, 1) := by decide +kernel
theorem dX11_isOfKind_71 : decode cX11_isOfKind 71 = .ok (.ireturn, 1) := by decide +kernel
theorem dJ9_abs_0f7a4_0 : decode cJ9_abs_0f7a4 0 = .ok (.iload_n 0, 1) := by decide +kernel
theorem dJ9_abs_0f7a4_1 : decode cJ9_abs_0f7a4 1 = .ok (.ifCond .ge 8, 3) := by decide +kernel
theorem dJ9_abs_0f7a4_4 : decode cJ9_abs_0f7a4 4 = .ok (.iload_n 0, 1) := by decide +kernel
theorem dJ9_abs_0f7a4_5 : decode cJ9_abs_0f7a4 5 = .ok (.ineg, 1) := by decide +kernel
theorem dJ9_abs_0f7a4_6 : decode cJ9_abs_0f7a4 6 = .ok (.goto 4, 3) := by decide +kernel
theorem dJ9_abs_0f7a4_9 : decode cJ9_abs_0f7a4 9 = .ok (.iload_n 0, 1) := by decide +kernel
theorem dJ9_abs_0f7a4_10 : decode cJ9_abs_0f7a4 10 = .ok (.ireturn, 1) := by decide +kernel
theorem dJ9_abs_067f4_0 : decode cJ9_abs_067f4 0 = .ok (.lload_n 0, 1) := by decide +kernel
theorem dJ9_abs_067f4_1 : decode cJ9_abs_067f4 1 = .ok (.lconst 0, 1) := by decide +kernel
theorem dJ9_abs_067f4_2 : decode cJ9_abs_067f4 2 = .ok (.lcmp, 1) := by decide +kernel
theorem dJ9_abs_067f4_3 : decode cJ9_abs_067f4 3 = .ok (.ifCond .ge 8, 3) := by decide +kernel
theorem dJ9_abs_067f4_6 : decode cJ9_abs_067f4 6 = .ok (.lload_n 0, 1) := by decide +kernel
theorem dJ9_abs_067f4_7 : decode cJ9_abs_067f4 7 = .ok (.lneg, 1) := by decide +kernel
theorem dJ9_abs_067f4_8 : decode cJ9_abs_067f4 8 = .ok (.goto 4, 3) := by decide +kernel
theorem dJ9_abs_067f4_11 : decode cJ9_abs_067f4 11 = .ok (.lload_n 0, 1) := by decide +kernel
theorem dJ9_abs_067f4_12 : decode cJ9_abs_067f4 12 = .ok (.lreturn, 1) := by decide +kernel
theorem dJ9_max_7cf53_0 : decode cJ9_max_7cf53 0 = .ok (.iload_n 0, 1) := by decide +kernel
theorem dJ9_max_7cf53_1 : decode cJ9_max_7cf53 1 = .ok (.iload_n 1, 1) := by decide +kernel
theorem dJ9_max_7cf53_2 : decode cJ9_max_7cf53 2 = .ok (.if_icmp .lt 7, 3) := by decide +kernel
theorem dJ9_max_7cf53_5 : decode cJ9_max_7cf53 5 = .ok (.iload_n 0, 1) := by decide +kernel
theorem dJ9_max_7cf53_6 : decode cJ9_max_7cf53 6 = .ok (.goto 4, 3) := by decide +kernel
theorem dJ9_max_7cf53_9 : decode cJ9_max_7cf53 9 = .ok (.iload_n 1, 1) := by decide +kernel
theorem dJ9_max_7cf53_10 : decode cJ9_max_7cf53 10 = .ok (.ireturn, 1) := by decide +kernel
theorem dJ9_min_7cf53_0 : decode cJ9_min_7cf53 0 = .ok (.iload_n 0, 1) := by decide +kernel
theorem dJ9_min_7cf53_1 : decode cJ9_min_7cf53 1 = .ok (.iload_n 1, 1) := by decide +kernel
theorem dJ9_min_7cf53_2 : decode cJ9_min_7cf53 2 = .ok (.if_icmp .gt 7, 3) := by decide +kernel
theorem dJ9_min_7cf53_5 : decode cJ9_min_7cf53 5 = .ok (.iload_n 0, 1) := by decide +kernel
theorem dJ9_min_7cf53_6 : decode cJ9_min_7cf53 6 = .ok (.goto 4, 3) := by decide +kernel
theorem dJ9_min_7cf53_9 : decode cJ9_min_7cf53 9 = .ok (.iload_n 1, 1) := by decide +kernel
theorem dJ9_min_7cf53_10 : decode cJ9_min_7cf53 10 = .ok (.ireturn, 1) := by decide +kernel
theorem dJ9_min_f86c9_0 : decode cJ9_min_f86c9 0 = .ok (.lload_n 0, 1) := by decide +kernel
theorem dJ9_min_f86c9_1 : decode cJ9_min_f86c9 1 = .ok (.lload_n 2, 1) := by decide +kernel
theorem dJ9_min_f86c9_2 : decode cJ9_min_f86c9 2 = .ok (.lcmp, 1) := by decide +kernel
theorem dJ9_min_f86c9_3 : decode cJ9_min_f86c9 3 = .ok (.ifCond .gt 7, 3) := by decide +kernel
theorem dJ9_min_f86c9_6 : decode cJ9_min_f86c9 6 = .ok (.lload_n 0, 1) := by decide +kernel
theorem dJ9_min_f86c9_7 : decode cJ9_min_f86c9 7 = .ok (.goto 4, 3) := by decide +kernel
theorem dJ9_min_f86c9_10 : decode cJ9_min_f86c9 10 = .ok (.lload_n 2, 1) := by decide +kernel
theorem dJ9_min_f86c9_11 : decode cJ9_min_f86c9 11 = .ok (.lreturn, 1) := by decide +kernel
theorem dJ0_length_8abf5_0 : decode cJ0_length_8abf5 0 = .ok (.aload_n 0, 1) := by decide +kernel
theorem dJ0_length_8abf5_1 : decode cJ0_length_8abf5 1 = .ok (.getfield 9, 3) := by decide +kernel
theorem dJ0_length_8abf5_4 : decode cJ0_length_8abf5 4 = .ok (.arraylength, 1) := by decide +kernel
theorem dJ0_length_8abf5_5 : decode cJ0_length_8abf5 5 = .ok (.aload_n 0, 1) := by decide +kernel
theorem dJ0_length_8abf5_6 : decode cJ0_length_8abf5 6 = .ok (.invokevirtual 335, 3) := by decide +kernel
theorem dJ0_length_8abf5_9 : decode cJ0_length_8abf5 9 = .ok (.ishr, 1) := by decide +kernel
theorem dJ0_length_8abf5_10 : decode cJ0_length_8abf5 10 = .ok (.ireturn, 1) := by decide +kernel
theorem dJ0_indexOf_0f7a4_0 : decode cJ0_indexOf_0f7a4 0 = .ok (.aload_n 0, 1) := by decide +kernel
theorem dJ0_indexOf_0f7a4_1 : decode cJ0_indexOf_0f7a4 1 = .ok (.iload_n 1, 1) := by decide +kernel
theorem dJ0_indexOf_0f7a4_2 : decode cJ0_indexOf_0f7a4 2 = .ok (.iconst 0, 1) := by decide +kernel
theorem dJ0_indexOf_0f7a4_3 : decode cJ0_indexOf_0f7a4 3 = .ok (.invokevirtual 633, 3) := by decide +kernel
theorem dJ0_indexOf_0f7a4_6 : decode cJ0_indexOf_0f7a4 6 = .ok (.ireturn, 1) := by decide +kernel
theorem dJ0_indexOf_7cf53_0 : decode cJ0_indexOf_7cf53 0 = .ok (.aload_n 0, 1) := by decide +kernel
theorem dJ0_indexOf_7cf53_1 : decode cJ0_indexOf_7cf53 1 = .ok (.invokevirtual 492, 3) := by decide +kernel
theorem dJ0_indexOf_7cf53_4 : decode cJ0_indexOf_7cf53 4 = .ok (.ifCond .eq 19, 3) := by decide +kernel
theorem dJ0_indexOf_7cf53_7 : decode cJ0_indexOf_7cf53 7 = .ok (.aload_n 0, 1) := by decide +kernel
theorem dJ0_indexOf_7cf53_8 : decode cJ0_indexOf_7cf53 8 = .ok (.getfield 9, 3) := by decide +kernel
theorem dJ0_indexOf_7cf53_11 : decode cJ0_indexOf_7cf53 11 = .ok (.iload_n 1, 1) := by decide +kernel
theorem dJ0_indexOf_7cf53_12 : decode cJ0_indexOf_7cf53 12 = .ok (.iload_n 2, 1) := by decide +kernel
theorem dJ0_indexOf_7cf53_13 : decode cJ0_indexOf_7cf53 13 = .ok (.aload_n 0, 1) := by decide +kernel
theorem dJ0_indexOf_7cf53_14 : decode cJ0_indexOf_7cf53 14 = .ok (.invokevirtual 505, 3) := by decide +kernel
theorem dJ0_indexOf_7cf53_17 : decode cJ0_indexOf_7cf53 17 = .ok (.invokestatic 637, 3) := by decide +kernel
theorem dJ0_indexOf_7cf53_20 : decode cJ0_indexOf_7cf53 20 = .ok (.goto 16, 3) := by decide +kernel
theorem dJ0_indexOf_7cf53_23 : decode cJ0_indexOf_7cf53 23 = .ok (.aload_n 0, 1) := by decide +kernel
theorem dJ0_indexOf_7cf53_24 : decode cJ0_indexOf_7cf53 24 = .ok (.getfield 9, 3) := by decide +kernel
theorem dJ0_indexOf_7cf53_27 : decode cJ0_indexOf_7cf53 27 = .ok (.iload_n 1, 1) := by decide +kernel
theorem dJ0_indexOf_7cf53_28 : decode cJ0_indexOf_7cf53 28 = .ok (.iload_n 2, 1) := by decide +kernel
theorem dJ0_indexOf_7cf53_29 : decode cJ0_indexOf_7cf53 29 = .ok (.aload_n 0, 1) := by decide +kernel
theorem dJ0_indexOf_7cf53_30 : decode cJ0_indexOf_7cf53 30 = .ok (.invokevirtual 505, 3) := by decide +kernel
theorem dJ0_indexOf_7cf53_33 : decode cJ0_indexOf_7cf53 33 = .ok (.invokestatic 640, 3) := by decide +kernel
theorem dJ0_indexOf_7cf53_36 : decode cJ0_indexOf_7cf53 36 = .ok (.ireturn, 1) := by decide +kernel
theorem dJ0_coder_7d493_0 : decode cJ0_coder_7d493 0 = .ok (.getstatic 38, 3) := by decide +kernel
theorem dJ0_coder_7d493_3 : decode cJ0_coder_7d493 3 = .ok (.ifCond .eq 10, 3) := by decide +kernel
theorem dJ0_coder_7d493_6 : decode cJ0_coder_7d493 6 = .ok (.aload_n 0, 1) := by decide +kernel
theorem dJ0_coder_7d493_7 : decode cJ0_coder_7d493 7 = .ok (.getfield 15, 3) := by decide +kernel
theorem dJ0_coder_7d493_10 : decode cJ0_coder_7d493 10 = .ok (.goto 4, 3) := by decide +kernel
theorem dJ0_coder_7d493_13 : decode cJ0_coder_7d493 13 = .ok (.iconst 1, 1) := by decide +kernel
theorem dJ0_coder_7d493_14 : decode cJ0_coder_7d493 14 = .ok (.ireturn, 1) := by decide +kernel
theorem dJ0_isLatin1_aae02_0 : decode cJ0_isLatin1_aae02 0 = .ok (.getstatic 38, 3) := by decide +kernel
theorem dJ0_isLatin1_aae02_3 : decode cJ0_isLatin1_aae02 3 = .ok (.ifCond .eq 14, 3) := by decide +kernel
theorem dJ0_isLatin1_aae02_6 : decode cJ0_isLatin1_aae02 6 = .ok (.aload_n 0, 1) := by decide +kernel
theorem dJ0_isLatin1_aae02_7 : decode cJ0_isLatin1_aae02 7 = .ok (.getfield 15, 3) := by decide +kernel
theorem dJ0_isLatin1_aae02_10 : decode cJ0_isLatin1_aae02 10 = .ok (.ifCond .ne 7, 3) := by decide +kernel
theorem dJ0_isLatin1_aae02_13 : decode cJ0_isLatin1_aae02 13 = .ok (.iconst 1, 1) := by decide +kernel
theorem dJ0_isLatin1_aae02_14 : decode cJ0_isLatin1_aae02 14 = .ok (.goto 4, 3) := by decide +kernel
theorem dJ0_isLatin1_aae02_17 : decode cJ0_isLatin1_aae02 17 = .ok (.iconst 0, 1) := by decide +kernel
theorem dJ0_isLatin1_aae02_18 : decode cJ0_isLatin1_aae02 18 = .ok (.ireturn, 1) := by decide +kernel
theorem dJ0_checkBoundsBeginEnd_23922_0 : decode cJ0_checkBoundsBeginEnd_23922 0 = .ok (.iload_n 0, 1) := by decide +kernel
theorem dJ0_checkBoundsBeginEnd_23922_1 : decode cJ0_checkBoundsBeginEnd_23922 1 = .ok (.iload_n 1, 1) := by decide +kernel
theorem dJ0_checkBoundsBeginEnd_23922_2 : decode cJ0_checkBoundsBeginEnd_23922 2 = .ok (.iload_n 2, 1) := by decide +kernel
theorem dJ0_checkBoundsBeginEnd_23922_3 : decode cJ0_checkBoundsBeginEnd_23922 3 = .ok (.getstatic 1053, 3) := by decide +kernel
theorem dJ0_checkBoundsBeginEnd_23922_6 : decode cJ0_checkBoundsBeginEnd_23922 6 = .ok (.invokestatic 1062, 3) := by decide +kernel
theorem dJ0_checkBoundsBeginEnd_23922_9 : decode cJ0_checkBoundsBeginEnd_23922 9 = .ok (.pop, 1) := by decide +kernel
theorem dJ0_checkBoundsBeginEnd_23922_10 : decode cJ0_checkBoundsBeginEnd_23922 10 = .ok (.return_, 1) := by decide +kernel
theorem dJ1_canEncode_9a6ad_0 : decode cJ1_canEncode_9a6ad 0 = .ok (.iload_n 0, 1) := by decide +kernel
theorem dJ1_canEncode_9a6ad_1 : decode cJ1_canEncode_9a6ad 1 = .ok (.ifCond .lt 14, 3) := by decide +kernel
theorem dJ1_canEncode_9a6ad_4 : decode cJ1_canEncode_9a6ad 4 = .ok (.iload_n 0, 1) := by decide +kernel
theorem dJ1_canEncode_9a6ad_5 : decode cJ1_canEncode_9a6ad 5 = .ok (.sipush 255, 3) := by decide +kernel
theorem dJ1_canEncode_9a6ad_8 : decode cJ1_canEncode_9a6ad 8 = .ok (.if_icmp .gt 7, 3) := by decide +kernel
theorem dJ1_canEncode_9a6ad_11 : decode cJ1_canEncode_9a6ad 11 = .ok (.iconst 1, 1) := by decide +kernel
theorem dJ1_canEncode_9a6ad_12 : decode cJ1_canEncode_9a6ad 12 = .ok (.goto 4, 3) := by decide +kernel
theorem dJ1_canEncode_9a6ad_15 : decode cJ1_canEncode_9a6ad 15 = .ok (.iconst 0, 1) := by decide +kernel
theorem dJ1_canEncode_9a6ad_16 : decode cJ1_canEncode_9a6ad 16 = .ok (.ireturn, 1) := by decide +kernel
theorem dJ1_indexOf_4cfef_0 : decode cJ1_indexOf_4cfef 0 = .ok (.iload_n 1, 1) := by decide +kernel
theorem dJ1_indexOf_4cfef_1 : decode cJ1_indexOf_4cfef 1 = .ok (.invokestatic 88, 3) := by decide +kernel
theorem dJ1_indexOf_4cfef_4 : decode cJ1_indexOf_4cfef 4 = .ok (.ifCond .ne 5, 3) := by decide +kernel
theorem dJ1_indexOf_4cfef_7 : decode cJ1_indexOf_4cfef 7 = .ok (.iconst (-1), 1) := by decide +kernel
theorem dJ1_indexOf_4cfef_8 : decode cJ1_indexOf_4cfef 8 = .ok (.ireturn, 1) := by decide +kernel
theorem dJ1_indexOf_4cfef_9 : decode cJ1_indexOf_4cfef 9 = .ok (.iload_n 2, 1) := by decide +kernel
theorem dJ1_indexOf_4cfef_10 : decode cJ1_indexOf_4cfef 10 = .ok (.iconst 0, 1) := by decide +kernel
theorem dJ1_indexOf_4cfef_11 : decode cJ1_indexOf_4cfef 11 = .ok (.invokestatic 92, 3) := by decide +kernel
theorem dJ1_indexOf_4cfef_14 : decode cJ1_indexOf_4cfef 14 = .ok (.istore_n 2, 1) := by decide +kernel
theorem dJ1_indexOf_4cfef_15 : decode cJ1_indexOf_4cfef 15 = .ok (.iload_n 3, 1) := by decide +kernel
theorem dJ1_indexOf_4cfef_16 : decode cJ1_indexOf_4cfef 16 = .ok (.aload_n 0, 1) := by decide +kernel
theorem dJ1_indexOf_4cfef_17 : decode cJ1_indexOf_4cfef 17 = .ok (.arraylength, 1) := by decide +kernel
theorem dJ1_indexOf_4cfef_18 : decode cJ1_indexOf_4cfef 18 = .ok (.invokestatic 38, 3) := by decide +kernel
theorem dJ1_indexOf_4cfef_21 : decode cJ1_indexOf_4cfef 21 = .ok (.istore_n 3, 1) := by decide +kernel
theorem dJ1_indexOf_4cfef_22 : decode cJ1_indexOf_4cfef 22 = .ok (.iload_n 2, 1) := by decide +kernel
theorem dJ1_indexOf_4cfef_23 : decode cJ1_indexOf_4cfef 23 = .ok (.iload_n 3, 1) := by decide +kernel
theorem dJ1_indexOf_4cfef_24 : decode cJ1_indexOf_4cfef 24 = .ok (.if_icmp .lt 5, 3) := by decide +kernel
theorem dJ1_indexOf_4cfef_27 : decode cJ1_indexOf_4cfef 27 = .ok (.iconst (-1), 1) := by decide +kernel
theorem dJ1_indexOf_4cfef_28 : decode cJ1_indexOf_4cfef 28 = .ok (.ireturn, 1) := by decide +kernel
theorem dJ1_indexOf_4cfef_29 : decode cJ1_indexOf_4cfef 29 = .ok (.aload_n 0, 1) := by decide +kernel
theorem dJ1_indexOf_4cfef_30 : decode cJ1_indexOf_4cfef 30 = .ok (.iload_n 1, 1) := by decide +kernel
theorem dJ1_indexOf_4cfef_31 : decode cJ1_indexOf_4cfef 31 = .ok (.iload_n 2, 1) := by decide +kernel
theorem dJ1_indexOf_4cfef_32 : decode cJ1_indexOf_4cfef 32 = .ok (.iload_n 3, 1) := by decide +kernel
theorem dJ1_indexOf_4cfef_33 : decode cJ1_indexOf_4cfef 33 = .ok (.invokestatic 95, 3) := by decide +kernel
theorem dJ1_indexOf_4cfef_36 : decode cJ1_indexOf_4cfef 36 = .ok (.ireturn, 1) := by decide +kernel
theorem dJ1_indexOfChar_4cfef_0 : decode cJ1_indexOfChar_4cfef 0 = .ok (.iload_n 1, 1) := by decide +kernel
theorem dJ1_indexOfChar_4cfef_1 : decode cJ1_indexOfChar_4cfef 1 = .ok (.i2b, 1) := by decide +kernel
theorem dJ1_indexOfChar_4cfef_2 : decode cJ1_indexOfChar_4cfef 2 = .ok (.istore 4, 2) := by decide +kernel
theorem dJ1_indexOfChar_4cfef_4 : decode cJ1_indexOfChar_4cfef 4 = .ok (.iload_n 2, 1) := by decide +kernel
theorem dJ1_indexOfChar_4cfef_5 : decode cJ1_indexOfChar_4cfef 5 = .ok (.istore 5, 2) := by decide +kernel
theorem dJ1_indexOfChar_4cfef_7 : decode cJ1_indexOfChar_4cfef 7 = .ok (.iload 5, 2) := by decide +kernel
theorem dJ1_indexOfChar_4cfef_9 : decode cJ1_indexOfChar_4cfef 9 = .ok (.iload_n 3, 1) := by decide +kernel
theorem dJ1_indexOfChar_4cfef_10 : decode cJ1_indexOfChar_4cfef 10 = .ok (.if_icmp .ge 21, 3) := by decide +kernel
theorem dJ1_indexOfChar_4cfef_13 : decode cJ1_indexOfChar_4cfef 13 = .ok (.aload_n 0, 1) := by decide +kernel
theorem dJ1_indexOfChar_4cfef_14 : decode cJ1_indexOfChar_4cfef 14 = .ok (.iload 5, 2) := by decide +kernel
theorem dJ1_indexOfChar_4cfef_16 : decode cJ1_indexOfChar_4cfef 16 = .ok (.baload, 1) := by decide +kernel
theorem dJ1_indexOfChar_4cfef_17 : decode cJ1_indexOfChar_4cfef 17 = .ok (.iload 4, 2) := by decide +kernel
theorem dJ1_indexOfChar_4cfef_19 : decode cJ1_indexOfChar_4cfef 19 = .ok (.if_icmp .ne 6, 3) := by decide +kernel
theorem dJ1_indexOfChar_4cfef_22 : decode cJ1_indexOfChar_4cfef 22 = .ok (.iload 5, 2) := by decide +kernel
theorem dJ1_indexOfChar_4cfef_24 : decode cJ1_indexOfChar_4cfef 24 = .ok (.ireturn, 1) := by decide +kernel
theorem dJ1_indexOfChar_4cfef_25 : decode cJ1_indexOfChar_4cfef 25 = .ok (.iinc 5 1, 3) := by decide +kernel
theorem dJ1_indexOfChar_4cfef_28 : decode cJ1_indexOfChar_4cfef 28 = .ok (.goto (-21), 3) := by decide +kernel
theorem dJ1_indexOfChar_4cfef_31 : decode cJ1_indexOfChar_4cfef 31 = .ok (.iconst (-1), 1) := by decide +kernel
theorem dJ1_indexOfChar_4cfef_32 : decode cJ1_indexOfChar_4cfef 32 = .ok (.ireturn, 1) := by decide +kernel
theorem dJ7_fill_53178_0 : decode cJ7_fill_53178 0 = .ok (.iconst 0, 1) := by decide +kernel
theorem dJ7_fill_53178_1 : decode cJ7_fill_53178 1 = .ok (.istore_n 2, 1) := by decide +kernel
theorem dJ7_fill_53178_2 : decode cJ7_fill_53178 2 = .ok (.aload_n 0, 1) := by decide +kernel
theorem dJ7_fill_53178_3 : decode cJ7_fill_53178 3 = .ok (.arraylength, 1) := by decide +kernel
theorem dJ7_fill_53178_4 : decode cJ7_fill_53178 4 = .ok (.istore_n 3, 1) := by decide +kernel
theorem dJ7_fill_53178_5 : decode cJ7_fill_53178 5 = .ok (.iload_n 2, 1) := by decide +kernel
theorem dJ7_fill_53178_6 : decode cJ7_fill_53178 6 = .ok (.iload_n 3, 1) := by decide +kernel
theorem dJ7_fill_53178_7 : decode cJ7_fill_53178 7 = .ok (.if_icmp .ge 13, 3) := by decide +kernel
theorem dJ7_fill_53178_10 : decode cJ7_fill_53178 10 = .ok (.aload_n 0, 1) := by decide +kernel
theorem dJ7_fill_53178_11 : decode cJ7_fill_53178 11 = .ok (.iload_n 2, 1) := by decide +kernel
theorem dJ7_fill_53178_12 : decode cJ7_fill_53178 12 = .ok (.iload_n 1, 1) := by decide +kernel
theorem dJ7_fill_53178_13 : decode cJ7_fill_53178 13 = .ok (.iastore, 1) := by decide +kernel
theorem dJ7_fill_53178_14 : decode cJ7_fill_53178 14 = .ok (.iinc 2 1, 3) := by decide +kernel
theorem dJ7_fill_53178_17 : decode cJ7_fill_53178 17 = .ok (.goto (-12), 3) := by decide +kernel
theorem dJ7_fill_53178_20 : decode cJ7_fill_53178 20 = .ok (.return_, 1) := by decide +kernel
