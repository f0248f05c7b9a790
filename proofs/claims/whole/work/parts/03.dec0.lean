theorem dX0_init_0 : decode cX0_init 0 = .ok (.aload_n 0, 1) := by decide +kernel
theorem dX0_init_1 : decode cX0_init 1 = .ok (.invokespecial 3, 3) := by decide +kernel
theorem dX0_init_4 : decode cX0_init 4 = .ok (.aload_n 0, 1) := by decide +kernel
theorem dX0_init_5 : decode cX0_init 5 = .ok (.bipush 21, 2) := by decide +kernel
theorem dX0_init_7 : decode cX0_init 7 = .ok (.newarray .int, 2) := by decide +kernel
theorem dX0_init_9 : decode cX0_init 9 = .ok (.putfield 9, 3) := by decide +kernel
theorem dX0_init_12 : decode cX0_init 12 = .ok (.return_, 1) := by decide +kernel
theorem dX0_read_0 : decode cX0_read 0 = .ok (.iload_n 1, 1) := by decide +kernel
theorem dX0_read_1 : decode cX0_read 1 = .ok (.ifCond .lt 21, 3) := by decide +kernel
theorem dX0_read_4 : decode cX0_read 4 = .ok (.iload_n 1, 1) := by decide +kernel
theorem dX0_read_5 : decode cX0_read 5 = .ok (.aload_n 0, 1) := by decide +kernel
theorem dX0_read_6 : decode cX0_read 6 = .ok (.getfield 9, 3) := by decide +kernel
theorem dX0_read_9 : decode cX0_read 9 = .ok (.arraylength, 1) := by decide +kernel
theorem dX0_read_10 : decode cX0_read 10 = .ok (.if_icmp .ge 12, 3) := by decide +kernel
theorem dX0_read_13 : decode cX0_read 13 = .ok (.aload_n 0, 1) := by decide +kernel
theorem dX0_read_14 : decode cX0_read 14 = .ok (.getfield 9, 3) := by decide +kernel
theorem dX0_read_17 : decode cX0_read 17 = .ok (.iload_n 1, 1) := by decide +kernel
theorem dX0_read_18 : decode cX0_read 18 = .ok (.iaload, 1) := by decide +kernel
theorem dX0_read_19 : decode cX0_read 19 = .ok (.goto 4, 3) := by decide +kernel
theorem dX0_read_22 : decode cX0_read 22 = .ok (.iconst 0, 1) := by decide +kernel
theorem dX0_read_23 : decode cX0_read 23 = .ok (.ireturn, 1) := by decide +kernel
theorem dX0_write_0 : decode cX0_write 0 = .ok (.iload_n 1, 1) := by decide +kernel
theorem dX0_write_1 : decode cX0_write 1 = .ok (.ifCond .lt 19, 3) := by decide +kernel
theorem dX0_write_4 : decode cX0_write 4 = .ok (.iload_n 1, 1) := by decide +kernel
theorem dX0_write_5 : decode cX0_write 5 = .ok (.aload_n 0, 1) := by decide +kernel
theorem dX0_write_6 : decode cX0_write 6 = .ok (.getfield 9, 3) := by decide +kernel
theorem dX0_write_9 : decode cX0_write 9 = .ok (.arraylength, 1) := by decide +kernel
theorem dX0_write_10 : decode cX0_write 10 = .ok (.if_icmp .ge 10, 3) := by decide +kernel
theorem dX0_write_13 : decode cX0_write 13 = .ok (.aload_n 0, 1) := by decide +kernel
theorem dX0_write_14 : decode cX0_write 14 = .ok (.getfield 9, 3) := by decide +kernel
theorem dX0_write_17 : decode cX0_write 17 = .ok (.iload_n 1, 1) := by decide +kernel
theorem dX0_write_18 : decode cX0_write 18 = .ok (.iload_n 2, 1) := by decide +kernel
theorem dX0_write_19 : decode cX0_write 19 = .ok (.iastore, 1) := by decide +kernel
theorem dX0_write_20 : decode cX0_write 20 = .ok (.return_, 1) := by decide +kernel
theorem dX0_isWhole_0 : decode cX0_isWhole 0 = .ok (.iconst 0, 1) := by decide +kernel
theorem dX0_isWhole_1 : decode cX0_isWhole 1 = .ok (.istore_n 1, 1) := by decide +kernel
theorem dX0_isWhole_2 : decode cX0_isWhole 2 = .ok (.iconst 0, 1) := by decide +kernel
theorem dX0_isWhole_3 : decode cX0_isWhole 3 = .ok (.istore_n 2, 1) := by decide +kernel
theorem dX0_isWhole_4 : decode cX0_isWhole 4 = .ok (.iload_n 2, 1) := by decide +kernel
theorem dX0_isWhole_5 : decode cX0_isWhole 5 = .ok (.aload_n 0, 1) := by decide +kernel
theorem dX0_isWhole_6 : decode cX0_isWhole 6 = .ok (.getfield 9, 3) := by decide +kernel
theorem dX0_isWhole_9 : decode cX0_isWhole 9 = .ok (.arraylength, 1) := by decide +kernel
theorem dX0_isWhole_10 : decode cX0_isWhole 10 = .ok (.if_icmp .ge 18, 3) := by decide +kernel
theorem dX0_isWhole_13 : decode cX0_isWhole 13 = .ok (.iload_n 1, 1) := by decide +kernel
theorem dX0_isWhole_14 : decode cX0_isWhole 14 = .ok (.aload_n 0, 1) := by decide +kernel
theorem dX0_isWhole_15 : decode cX0_isWhole 15 = .ok (.getfield 9, 3) := by decide +kernel
theorem dX0_isWhole_18 : decode cX0_isWhole 18 = .ok (.iload_n 2, 1) := by decide +kernel
theorem dX0_isWhole_19 : decode cX0_isWhole 19 = .ok (.iaload, 1) := by decide +kernel
theorem dX0_isWhole_20 : decode cX0_isWhole 20 = .ok (.iadd, 1) := by decide +kernel
theorem dX0_isWhole_21 : decode cX0_isWhole 21 = .ok (.istore_n 1, 1) := by decide +kernel
theorem dX0_isWhole_22 : decode cX0_isWhole 22 = .ok (.iinc 2 1, 3) := by decide +kernel
theorem dX0_isWhole_25 : decode cX0_isWhole 25 = .ok (.goto (-21), 3) := by decide +kernel
theorem dX0_isWhole_28 : decode cX0_isWhole 28 = .ok (.iload_n 1, 1) := by decide +kernel
theorem dX0_isWhole_29 : decode cX0_isWhole 29 = .ok (.sipush 1000, 3) := by decide +kernel
theorem dX0_isWhole_32 : decode cX0_isWhole 32 = .ok (.if_icmp .ne 7, 3) := by decide +kernel
theorem dX0_isWhole_35 : decode cX0_isWhole 35 = .ok (.iconst 1, 1) := by decide +kernel
theorem dX0_isWhole_36 : decode cX0_isWhole 36 = .ok (.goto 4, 3) := by decide +kernel
theorem dX0_isWhole_39 : decode cX0_isWhole 39 = .ok (.iconst 0, 1) := by decide +kernel
theorem dX0_isWhole_40 : decode cX0_isWhole 40 = .ok (.ireturn, 1) := by decide +kernel
theorem dX0_mean_0 : decode cX0_mean 0 = .ok (.aload_n 0, 1) := by decide +kernel
theorem dX0_mean_1 : decode cX0_mean 1 = .ok (.iconst 0, 1) := by decide +kernel
theorem dX0_mean_2 : decode cX0_mean 2 = .ok (.invokevirtual 15, 3) := by decide +kernel
theorem dX0_mean_5 : decode cX0_mean 5 = .ok (.ireturn, 1) := by decide +kernel
theorem dX0_stopAbove_0 : decode cX0_stopAbove 0 = .ok (.iconst 0, 1) := by decide +kernel
theorem dX0_stopAbove_1 : decode cX0_stopAbove 1 = .ok (.istore_n 2, 1) := by decide +kernel
theorem dX0_stopAbove_2 : decode cX0_stopAbove 2 = .ok (.iconst 0, 1) := by decide +kernel
theorem dX0_stopAbove_3 : decode cX0_stopAbove 3 = .ok (.istore_n 3, 1) := by decide +kernel
theorem dX0_stopAbove_4 : decode cX0_stopAbove 4 = .ok (.iload_n 3, 1) := by decide +kernel
theorem dX0_stopAbove_5 : decode cX0_stopAbove 5 = .ok (.aload_n 0, 1) := by decide +kernel
theorem dX0_stopAbove_6 : decode cX0_stopAbove 6 = .ok (.getfield 9, 3) := by decide +kernel
theorem dX0_stopAbove_9 : decode cX0_stopAbove 9 = .ok (.arraylength, 1) := by decide +kernel
theorem dX0_stopAbove_10 : decode cX0_stopAbove 10 = .ok (.if_icmp .ge 26, 3) := by decide +kernel
theorem dX0_stopAbove_13 : decode cX0_stopAbove 13 = .ok (.iload_n 2, 1) := by decide +kernel
theorem dX0_stopAbove_14 : decode cX0_stopAbove 14 = .ok (.iload_n 3, 1) := by decide +kernel
theorem dX0_stopAbove_15 : decode cX0_stopAbove 15 = .ok (.iload_n 1, 1) := by decide +kernel
theorem dX0_stopAbove_16 : decode cX0_stopAbove 16 = .ok (.isub, 1) := by decide +kernel
theorem dX0_stopAbove_17 : decode cX0_stopAbove 17 = .ok (.iconst 0, 1) := by decide +kernel
theorem dX0_stopAbove_18 : decode cX0_stopAbove 18 = .ok (.invokestatic 19, 3) := by decide +kernel
theorem dX0_stopAbove_21 : decode cX0_stopAbove 21 = .ok (.aload_n 0, 1) := by decide +kernel
theorem dX0_stopAbove_22 : decode cX0_stopAbove 22 = .ok (.getfield 9, 3) := by decide +kernel
theorem dX0_stopAbove_25 : decode cX0_stopAbove 25 = .ok (.iload_n 3, 1) := by decide +kernel
theorem dX0_stopAbove_26 : decode cX0_stopAbove 26 = .ok (.iaload, 1) := by decide +kernel
theorem dX0_stopAbove_27 : decode cX0_stopAbove 27 = .ok (.imul, 1) := by decide +kernel
theorem dX0_stopAbove_28 : decode cX0_stopAbove 28 = .ok (.iadd, 1) := by decide +kernel
theorem dX0_stopAbove_29 : decode cX0_stopAbove 29 = .ok (.istore_n 2, 1) := by decide +kernel
theorem dX0_stopAbove_30 : decode cX0_stopAbove 30 = .ok (.iinc 3 1, 3) := by decide +kernel
theorem dX0_stopAbove_33 : decode cX0_stopAbove 33 = .ok (.goto (-29), 3) := by decide +kernel
theorem dX0_stopAbove_36 : decode cX0_stopAbove 36 = .ok (.iload_n 2, 1) := by decide +kernel
theorem dX0_stopAbove_37 : decode cX0_stopAbove 37 = .ok (.ireturn, 1) := by decide +kernel
theorem dX0_spread_0 : decode cX0_spread 0 = .ok (.iconst 0, 1) := by decide +kernel
theorem dX0_spread_1 : decode cX0_spread 1 = .ok (.istore_n 1, 1) := by decide +kernel
theorem dX0_spread_2 : decode cX0_spread 2 = .ok (.iconst 0, 1) := by decide +kernel
theorem dX0_spread_3 : decode cX0_spread 3 = .ok (.istore_n 2, 1) := by decide +kernel
theorem dX0_spread_4 : decode cX0_spread 4 = .ok (.iload_n 2, 1) := by decide +kernel
theorem dX0_spread_5 : decode cX0_spread 5 = .ok (.aload_n 0, 1) := by decide +kernel
theorem dX0_spread_6 : decode cX0_spread 6 = .ok (.getfield 9, 3) := by decide +kernel
theorem dX0_spread_9 : decode cX0_spread 9 = .ok (.arraylength, 1) := by decide +kernel
theorem dX0_spread_10 : decode cX0_spread 10 = .ok (.if_icmp .ge 22, 3) := by decide +kernel
theorem dX0_spread_13 : decode cX0_spread 13 = .ok (.iload_n 1, 1) := by decide +kernel
theorem dX0_spread_14 : decode cX0_spread 14 = .ok (.iload_n 2, 1) := by decide +kernel
theorem dX0_spread_15 : decode cX0_spread 15 = .ok (.iload_n 2, 1) := by decide +kernel
theorem dX0_spread_16 : decode cX0_spread 16 = .ok (.imul, 1) := by decide +kernel
theorem dX0_spread_17 : decode cX0_spread 17 = .ok (.aload_n 0, 1) := by decide +kernel
theorem dX0_spread_18 : decode cX0_spread 18 = .ok (.getfield 9, 3) := by decide +kernel
theorem dX0_spread_21 : decode cX0_spread 21 = .ok (.iload_n 2, 1) := by decide +kernel
theorem dX0_spread_22 : decode cX0_spread 22 = .ok (.iaload, 1) := by decide +kernel
theorem dX0_spread_23 : decode cX0_spread 23 = .ok (.imul, 1) := by decide +kernel
theorem dX0_spread_24 : decode cX0_spread 24 = .ok (.iadd, 1) := by decide +kernel
theorem dX0_spread_25 : decode cX0_spread 25 = .ok (.istore_n 1, 1) := by decide +kernel
theorem dX0_spread_26 : decode cX0_spread 26 = .ok (.iinc 2 1, 3) := by decide +kernel
theorem dX0_spread_29 : decode cX0_spread 29 = .ok (.goto (-25), 3) := by decide +kernel
theorem dX0_spread_32 : decode cX0_spread 32 = .ok (.sipush 1000, 3) := by decide +kernel
theorem dX0_spread_35 : decode cX0_spread 35 = .ok (.iload_n 1, 1) := by decide +kernel
theorem dX0_spread_36 : decode cX0_spread 36 = .ok (.imul, 1) := by decide +kernel
theorem dX0_spread_37 : decode cX0_spread 37 = .ok (.aload_n 0, 1) := by decide +kernel
theorem dX0_spread_38 : decode cX0_spread 38 = .ok (.invokevirtual 25, 3) := by decide +kernel
theorem dX0_spread_41 : decode cX0_spread 41 = .ok (.aload_n 0, 1) := by decide +kernel
theorem dX0_spread_42 : decode cX0_spread 42 = .ok (.invokevirtual 25, 3) := by decide +kernel
theorem dX0_spread_45 : decode cX0_spread 45 = .ok (.imul, 1) := by decide +kernel
theorem dX0_spread_46 : decode cX0_spread 46 = .ok (.isub, 1) := by decide +kernel
theorem dX0_spread_47 : decode cX0_spread 47 = .ok (.ireturn, 1) := by decide +kernel
theorem dX1_init_0 : decode cX1_init 0 = .ok (.aload_n 0, 1) := by decide +kernel
theorem dX1_init_1 : decode cX1_init 1 = .ok (.invokespecial 3, 3) := by decide +kernel
theorem dX1_init_4 : decode cX1_init 4 = .ok (.aload_n 0, 1) := by decide +kernel
theorem dX1_init_5 : decode cX1_init 5 = .ok (.bipush 41, 2) := by decide +kernel
theorem dX1_init_7 : decode cX1_init 7 = .ok (.newarray .long, 2) := by decide +kernel
theorem dX1_init_9 : decode cX1_init 9 = .ok (.putfield 9, 3) := by decide +kernel
theorem dX1_init_12 : decode cX1_init 12 = .ok (.aload_n 0, 1) := by decide +kernel
theorem dX1_init_13 : decode cX1_init 13 = .ok (.iconst 0, 1) := by decide +kernel
theorem dX1_init_14 : decode cX1_init 14 = .ok (.putfield 15, 3) := by decide +kernel
theorem dX1_init_17 : decode cX1_init 17 = .ok (.aload_n 0, 1) := by decide +kernel
theorem dX1_init_18 : decode cX1_init 18 = .ok (.ldc2_w 19, 3) := by decide +kernel
theorem dX1_init_21 : decode cX1_init 21 = .ok (.putfield 21, 3) := by decide +kernel
theorem dX1_init_24 : decode cX1_init 24 = .ok (.aload_n 0, 1) := by decide +kernel
theorem dX1_init_25 : decode cX1_init 25 = .ok (.iconst 3, 1) := by decide +kernel
theorem dX1_init_26 : decode cX1_init 26 = .ok (.putfield 25, 3) := by decide +kernel
theorem dX1_init_29 : decode cX1_init 29 = .ok (.return_, 1) := by decide +kernel
theorem dX1_loadOne_0 : decode cX1_loadOne 0 = .ok (.aload_n 0, 1) := by decide +kernel
theorem dX1_loadOne_1 : decode cX1_loadOne 1 = .ok (.ldc2_w 19, 3) := by decide +kernel
theorem dX1_loadOne_4 : decode cX1_loadOne 4 = .ok (.iconst 3, 1) := by decide +kernel
theorem dX1_loadOne_5 : decode cX1_loadOne 5 = .ok (.invokevirtual 28, 3) := by decide +kernel
theorem dX1_loadOne_8 : decode cX1_loadOne 8 = .ok (.iconst 0, 1) := by decide +kernel
theorem dX1_loadOne_9 : decode cX1_loadOne 9 = .ok (.istore_n 3, 1) := by decide +kernel
theorem dX1_loadOne_10 : decode cX1_loadOne 10 = .ok (.iload_n 3, 1) := by decide +kernel
theorem dX1_loadOne_11 : decode cX1_loadOne 11 = .ok (.bipush 20, 2) := by decide +kernel
theorem dX1_loadOne_13 : decode cX1_loadOne 13 = .ok (.if_icmp .gt 23, 3) := by decide +kernel
theorem dX1_loadOne_16 : decode cX1_loadOne 16 = .ok (.aload_n 0, 1) := by decide +kernel
theorem dX1_loadOne_17 : decode cX1_loadOne 17 = .ok (.iload_n 3, 1) := by decide +kernel
theorem dX1_loadOne_18 : decode cX1_loadOne 18 = .ok (.iload_n 2, 1) := by decide +kernel
theorem dX1_loadOne_19 : decode cX1_loadOne 19 = .ok (.i2l, 1) := by decide +kernel
theorem dX1_loadOne_20 : decode cX1_loadOne 20 = .ok (.aload_n 1, 1) := by decide +kernel
theorem dX1_loadOne_21 : decode cX1_loadOne 21 = .ok (.iload_n 3, 1) := by decide +kernel
theorem dX1_loadOne_22 : decode cX1_loadOne 22 = .ok (.invokevirtual 32, 3) := by decide +kernel
theorem dX1_loadOne_25 : decode cX1_loadOne 25 = .ok (.i2l, 1) := by decide +kernel
theorem dX1_loadOne_26 : decode cX1_loadOne 26 = .ok (.lmul, 1) := by decide +kernel
theorem dX1_loadOne_27 : decode cX1_loadOne 27 = .ok (.invokevirtual 38, 3) := by decide +kernel
theorem dX1_loadOne_30 : decode cX1_loadOne 30 = .ok (.iinc 3 1, 3) := by decide +kernel
theorem dX1_loadOne_33 : decode cX1_loadOne 33 = .ok (.goto (-23), 3) := by decide +kernel
theorem dX1_loadOne_36 : decode cX1_loadOne 36 = .ok (.return_, 1) := by decide +kernel
theorem dX1_loadBoth_0 : decode cX1_loadBoth 0 = .ok (.aload_n 0, 1) := by decide +kernel
theorem dX1_loadBoth_1 : decode cX1_loadBoth 1 = .ok (.ldc2_w 42, 3) := by decide +kernel
theorem dX1_loadBoth_4 : decode cX1_loadBoth 4 = .ok (.bipush 6, 2) := by decide +kernel
theorem dX1_loadBoth_6 : decode cX1_loadBoth 6 = .ok (.invokevirtual 28, 3) := by decide +kernel
theorem dX1_loadBoth_9 : decode cX1_loadBoth 9 = .ok (.iconst 0, 1) := by decide +kernel
theorem dX1_loadBoth_10 : decode cX1_loadBoth 10 = .ok (.istore_n 3, 1) := by decide +kernel
theorem dX1_loadBoth_11 : decode cX1_loadBoth 11 = .ok (.iload_n 3, 1) := by decide +kernel
theorem dX1_loadBoth_12 : decode cX1_loadBoth 12 = .ok (.bipush 20, 2) := by decide +kernel
theorem dX1_loadBoth_14 : decode cX1_loadBoth 14 = .ok (.if_icmp .gt 47, 3) := by decide +kernel
theorem dX1_loadBoth_17 : decode cX1_loadBoth 17 = .ok (.iconst 0, 1) := by decide +kernel
theorem dX1_loadBoth_18 : decode cX1_loadBoth 18 = .ok (.istore 4, 2) := by decide +kernel
theorem dX1_loadBoth_20 : decode cX1_loadBoth 20 = .ok (.iload 4, 2) := by decide +kernel
theorem dX1_loadBoth_22 : decode cX1_loadBoth 22 = .ok (.bipush 20, 2) := by decide +kernel
theorem dX1_loadBoth_24 : decode cX1_loadBoth 24 = .ok (.if_icmp .gt 31, 3) := by decide +kernel
theorem dX1_loadBoth_27 : decode cX1_loadBoth 27 = .ok (.aload_n 0, 1) := by decide +kernel
theorem dX1_loadBoth_28 : decode cX1_loadBoth 28 = .ok (.iload_n 3, 1) := by decide +kernel
theorem dX1_loadBoth_29 : decode cX1_loadBoth 29 = .ok (.iload 4, 2) := by decide +kernel
theorem dX1_loadBoth_31 : decode cX1_loadBoth 31 = .ok (.iadd, 1) := by decide +kernel
theorem dX1_loadBoth_32 : decode cX1_loadBoth 32 = .ok (.aload_n 1, 1) := by decide +kernel
theorem dX1_loadBoth_33 : decode cX1_loadBoth 33 = .ok (.iload_n 3, 1) := by decide +kernel
theorem dX1_loadBoth_34 : decode cX1_loadBoth 34 = .ok (.invokevirtual 32, 3) := by decide +kernel
theorem dX1_loadBoth_37 : decode cX1_loadBoth 37 = .ok (.i2l, 1) := by decide +kernel
theorem dX1_loadBoth_38 : decode cX1_loadBoth 38 = .ok (.aload_n 2, 1) := by decide +kernel
theorem dX1_loadBoth_39 : decode cX1_loadBoth 39 = .ok (.iload 4, 2) := by decide +kernel
theorem dX1_loadBoth_41 : decode cX1_loadBoth 41 = .ok (.invokevirtual 32, 3) := by decide +kernel
theorem dX1_loadBoth_44 : decode cX1_loadBoth 44 = .ok (.i2l, 1) := by decide +kernel
theorem dX1_loadBoth_45 : decode cX1_loadBoth 45 = .ok (.lmul, 1) := by decide +kernel
theorem dX1_loadBoth_46 : decode cX1_loadBoth 46 = .ok (.invokevirtual 38, 3) := by decide +kernel
theorem dX1_loadBoth_49 : decode cX1_loadBoth 49 = .ok (.iinc 4 1, 3) := by decide +kernel
theorem dX1_loadBoth_52 : decode cX1_loadBoth 52 = .ok (.goto (-32), 3) := by decide +kernel
theorem dX1_loadBoth_55 : decode cX1_loadBoth 55 = .ok (.iinc 3 1, 3) := by decide +kernel
theorem dX1_loadBoth_58 : decode cX1_loadBoth 58 = .ok (.goto (-47), 3) := by decide +kernel
theorem dX1_loadBoth_61 : decode cX1_loadBoth 61 = .ok (.return_, 1) := by decide +kernel
theorem dX1_empty_0 : decode cX1_empty 0 = .ok (.aload_n 0, 1) := by decide +kernel
theorem dX1_empty_1 : decode cX1_empty 1 = .ok (.getfield 9, 3) := by decide +kernel
theorem dX1_empty_4 : decode cX1_empty 4 = .ok (.lconst 0, 1) := by decide +kernel
theorem dX1_empty_5 : decode cX1_empty 5 = .ok (.invokestatic 44, 3) := by decide +kernel
theorem dX1_empty_8 : decode cX1_empty 8 = .ok (.aload_n 0, 1) := by decide +kernel
theorem dX1_empty_9 : decode cX1_empty 9 = .ok (.iconst 0, 1) := by decide +kernel
theorem dX1_empty_10 : decode cX1_empty 10 = .ok (.putfield 15, 3) := by decide +kernel
theorem dX1_empty_13 : decode cX1_empty 13 = .ok (.aload_n 0, 1) := by decide +kernel
theorem dX1_empty_14 : decode cX1_empty 14 = .ok (.lload_n 1, 1) := by decide +kernel
theorem dX1_empty_15 : decode cX1_empty 15 = .ok (.putfield 21, 3) := by decide +kernel
theorem dX1_empty_18 : decode cX1_empty 18 = .ok (.aload_n 0, 1) := by decide +kernel
theorem dX1_empty_19 : decode cX1_empty 19 = .ok (.iload_n 3, 1) := by decide +kernel
theorem dX1_empty_20 : decode cX1_empty 20 = .ok (.putfield 25, 3) := by decide +kernel
theorem dX1_empty_23 : decode cX1_empty 23 = .ok (.return_, 1) := by decide +kernel
theorem dX1_add_0 : decode cX1_add 0 = .ok (.lload_n 2, 1) := by decide +kernel
theorem dX1_add_1 : decode cX1_add 1 = .ok (.lconst 0, 1) := by decide +kernel
theorem dX1_add_2 : decode cX1_add 2 = .ok (.lcmp, 1) := by decide +kernel
theorem dX1_add_3 : decode cX1_add 3 = .ok (.ifCond .le 38, 3) := by decide +kernel
theorem dX1_add_6 : decode cX1_add 6 = .ok (.iload_n 1, 1) := by decide +kernel
theorem dX1_add_7 : decode cX1_add 7 = .ok (.ifCond .lt 34, 3) := by decide +kernel
theorem dX1_add_10 : decode cX1_add 10 = .ok (.iload_n 1, 1) := by decide +kernel
theorem dX1_add_11 : decode cX1_add 11 = .ok (.aload_n 0, 1) := by decide +kernel
theorem dX1_add_12 : decode cX1_add 12 = .ok (.getfield 9, 3) := by decide +kernel
theorem dX1_add_15 : decode cX1_add 15 = .ok (.arraylength, 1) := by decide +kernel
theorem dX1_add_16 : decode cX1_add 16 = .ok (.if_icmp .ge 25, 3) := by decide +kernel
theorem dX1_add_19 : decode cX1_add 19 = .ok (.aload_n 0, 1) := by decide +kernel
theorem dX1_add_20 : decode cX1_add 20 = .ok (.getfield 9, 3) := by decide +kernel
theorem dX1_add_23 : decode cX1_add 23 = .ok (.iload_n 1, 1) := by decide +kernel
theorem dX1_add_24 : decode cX1_add 24 = .ok (.dup2, 1) := by decide +kernel
theorem dX1_add_25 : decode cX1_add 25 = .ok (.laload, 1) := by decide +kernel
theorem dX1_add_26 : decode cX1_add 26 = .ok (.lload_n 2, 1) := by decide +kernel
theorem dX1_add_27 : decode cX1_add 27 = .ok (.ladd, 1) := by decide +kernel
theorem dX1_add_28 : decode cX1_add 28 = .ok (.lastore, 1) := by decide +kernel
theorem dX1_add_29 : decode cX1_add 29 = .ok (.aload_n 0, 1) := by decide +kernel
theorem dX1_add_30 : decode cX1_add 30 = .ok (.aload_n 0, 1) := by decide +kernel
theorem dX1_add_31 : decode cX1_add 31 = .ok (.getfield 15, 3) := by decide +kernel
theorem dX1_add_34 : decode cX1_add 34 = .ok (.iload_n 1, 1) := by decide +kernel
theorem dX1_add_35 : decode cX1_add 35 = .ok (.invokestatic 50, 3) := by decide +kernel
theorem dX1_add_38 : decode cX1_add 38 = .ok (.putfield 15, 3) := by decide +kernel
theorem dX1_add_41 : decode cX1_add 41 = .ok (.return_, 1) := by decide +kernel
theorem dX1_weight_0 : decode cX1_weight 0 = .ok (.iload_n 1, 1) := by decide +kernel
theorem dX1_weight_1 : decode cX1_weight 1 = .ok (.ifCond .lt 21, 3) := by decide +kernel
theorem dX1_weight_4 : decode cX1_weight 4 = .ok (.iload_n 1, 1) := by decide +kernel
theorem dX1_weight_5 : decode cX1_weight 5 = .ok (.aload_n 0, 1) := by decide +kernel
theorem dX1_weight_6 : decode cX1_weight 6 = .ok (.getfield 9, 3) := by decide +kernel
theorem dX1_weight_9 : decode cX1_weight 9 = .ok (.arraylength, 1) := by decide +kernel
theorem dX1_weight_10 : decode cX1_weight 10 = .ok (.if_icmp .ge 12, 3) := by decide +kernel
theorem dX1_weight_13 : decode cX1_weight 13 = .ok (.aload_n 0, 1) := by decide +kernel
theorem dX1_weight_14 : decode cX1_weight 14 = .ok (.getfield 9, 3) := by decide +kernel
theorem dX1_weight_17 : decode cX1_weight 17 = .ok (.iload_n 1, 1) := by decide +kernel
theorem dX1_weight_18 : decode cX1_weight 18 = .ok (.laload, 1) := by decide +kernel
theorem dX1_weight_19 : decode cX1_weight 19 = .ok (.goto 4, 3) := by decide +kernel
theorem dX1_weight_22 : decode cX1_weight 22 = .ok (.lconst 0, 1) := by decide +kernel
theorem dX1_weight_23 : decode cX1_weight 23 = .ok (.lreturn, 1) := by decide +kernel
theorem dX2_init_0 : decode cX2_init 0 = .ok (.aload_n 0, 1) := by decide +kernel
theorem dX2_init_1 : decode cX2_init 1 = .ok (.invokespecial 3, 3) := by decide +kernel
theorem dX2_init_4 : decode cX2_init 4 = .ok (.aload_n 0, 1) := by decide +kernel
theorem dX2_init_5 : decode cX2_init 5 = .ok (.new 9, 3) := by decide +kernel
theorem dX2_init_8 : decode cX2_init 8 = .ok (.dup, 1) := by decide +kernel
theorem dX2_init_9 : decode cX2_init 9 = .ok (.bipush 61, 2) := by decide +kernel
theorem dX2_init_11 : decode cX2_init 11 = .ok (.bipush 16, 2) := by decide +kernel
theorem dX2_init_13 : decode cX2_init 13 = .ok (.invokespecial 11, 3) := by decide +kernel
theorem dX2_init_16 : decode cX2_init 16 = .ok (.putfield 14, 3) := by decide +kernel
theorem dX2_init_19 : decode cX2_init 19 = .ok (.aload_n 0, 1) := by decide +kernel
theorem dX2_init_20 : decode cX2_init 20 = .ok (.new 9, 3) := by decide +kernel
theorem dX2_init_23 : decode cX2_init 23 = .ok (.dup, 1) := by decide +kernel
theorem dX2_init_24 : decode cX2_init 24 = .ok (.iconst 1, 1) := by decide +kernel
theorem dX2_init_25 : decode cX2_init 25 = .ok (.bipush 16, 2) := by decide +kernel
theorem dX2_init_27 : decode cX2_init 27 = .ok (.invokespecial 11, 3) := by decide +kernel
theorem dX2_init_30 : decode cX2_init 30 = .ok (.putfield 20, 3) := by decide +kernel
theorem dX2_init_33 : decode cX2_init 33 = .ok (.aload_n 0, 1) := by decide +kernel
theorem dX2_init_34 : decode cX2_init 34 = .ok (.new 9, 3) := by decide +kernel
theorem dX2_init_37 : decode cX2_init 37 = .ok (.dup, 1) := by decide +kernel
theorem dX2_init_38 : decode cX2_init 38 = .ok (.iconst 1, 1) := by decide +kernel
theorem dX2_init_39 : decode cX2_init 39 = .ok (.bipush 16, 2) := by decide +kernel
theorem dX2_init_41 : decode cX2_init 41 = .ok (.invokespecial 11, 3) := by decide +kernel
theorem dX2_init_44 : decode cX2_init 44 = .ok (.putfield 23, 3) := by decide +kernel
theorem dX2_init_47 : decode cX2_init 47 = .ok (.aload_n 0, 1) := by decide +kernel
theorem dX2_init_48 : decode cX2_init 48 = .ok (.new 9, 3) := by decide +kernel
theorem dX2_init_51 : decode cX2_init 51 = .ok (.dup, 1) := by decide +kernel
theorem dX2_init_52 : decode cX2_init 52 = .ok (.iconst 1, 1) := by decide +kernel
theorem dX2_init_53 : decode cX2_init 53 = .ok (.bipush 16, 2) := by decide +kernel
theorem dX2_init_55 : decode cX2_init 55 = .ok (.invokespecial 11, 3) := by decide +kernel
theorem dX2_init_58 : decode cX2_init 58 = .ok (.putfield 26, 3) := by decide +kernel
theorem dX2_init_61 : decode cX2_init 61 = .ok (.return_, 1) := by decide +kernel
theorem dX2_work_0 : decode cX2_work 0 = .ok (.aload_n 0, 1) := by decide +kernel
theorem dX2_work_1 : decode cX2_work 1 = .ok (.getfield 14, 3) := by decide +kernel
theorem dX2_work_4 : decode cX2_work 4 = .ok (.iconst 0, 1) := by decide +kernel
theorem dX2_work_5 : decode cX2_work 5 = .ok (.sipush 1000, 3) := by decide +kernel
theorem dX2_work_8 : decode cX2_work 8 = .ok (.aload_n 1, 1) := by decide +kernel
theorem dX2_work_9 : decode cX2_work 9 = .ok (.invokevirtual 29, 3) := by decide +kernel
theorem dX2_work_12 : decode cX2_work 12 = .ok (.isub, 1) := by decide +kernel
theorem dX2_work_13 : decode cX2_work 13 = .ok (.i2l, 1) := by decide +kernel
theorem dX2_work_14 : decode cX2_work 14 = .ok (.invokevirtual 35, 3) := by decide +kernel
theorem dX2_work_17 : decode cX2_work 17 = .ok (.aload_n 0, 1) := by decide +kernel
theorem dX2_work_18 : decode cX2_work 18 = .ok (.getfield 23, 3) := by decide +kernel
theorem dX2_work_21 : decode cX2_work 21 = .ok (.iconst 0, 1) := by decide +kernel
theorem dX2_work_22 : decode cX2_work 22 = .ok (.aload_n 1, 1) := by decide +kernel
theorem dX2_work_23 : decode cX2_work 23 = .ok (.iconst 0, 1) := by decide +kernel
theorem dX2_work_24 : decode cX2_work 24 = .ok (.invokevirtual 39, 3) := by decide +kernel
theorem dX2_work_27 : decode cX2_work 27 = .ok (.i2l, 1) := by decide +kernel
theorem dX2_work_28 : decode cX2_work 28 = .ok (.invokevirtual 35, 3) := by decide +kernel
theorem dX2_work_31 : decode cX2_work 31 = .ok (.iconst 1, 1) := by decide +kernel
theorem dX2_work_32 : decode cX2_work 32 = .ok (.istore_n 3, 1) := by decide +kernel
theorem dX2_work_33 : decode cX2_work 33 = .ok (.iload_n 3, 1) := by decide +kernel
theorem dX2_work_34 : decode cX2_work 34 = .ok (.iload_n 2, 1) := by decide +kernel
theorem dX2_work_35 : decode cX2_work 35 = .ok (.if_icmp .gt 75, 3) := by decide +kernel
theorem dX2_work_38 : decode cX2_work 38 = .ok (.aload_n 0, 1) := by decide +kernel
theorem dX2_work_39 : decode cX2_work 39 = .ok (.aload_n 1, 1) := by decide +kernel
theorem dX2_work_40 : decode cX2_work 40 = .ok (.iload_n 3, 1) := by decide +kernel
theorem dX2_work_41 : decode cX2_work 41 = .ok (.invokevirtual 43, 3) := by decide +kernel
theorem dX2_work_44 : decode cX2_work 44 = .ok (.aload_n 0, 1) := by decide +kernel
theorem dX2_work_45 : decode cX2_work 45 = .ok (.getfield 14, 3) := by decide +kernel
theorem dX2_work_48 : decode cX2_work 48 = .ok (.iload_n 3, 1) := by decide +kernel
theorem dX2_work_49 : decode cX2_work 49 = .ok (.lconst 0, 1) := by decide +kernel
theorem dX2_work_50 : decode cX2_work 50 = .ok (.invokevirtual 35, 3) := by decide +kernel
theorem dX2_work_53 : decode cX2_work 53 = .ok (.aload_n 0, 1) := by decide +kernel
theorem dX2_work_54 : decode cX2_work 54 = .ok (.getfield 14, 3) := by decide +kernel
theorem dX2_work_57 : decode cX2_work 57 = .ok (.iload_n 3, 1) := by decide +kernel
theorem dX2_work_58 : decode cX2_work 58 = .ok (.lconst 1, 1) := by decide +kernel
theorem dX2_work_59 : decode cX2_work 59 = .ok (.aload_n 0, 1) := by decide +kernel
theorem dX2_work_60 : decode cX2_work 60 = .ok (.getfield 14, 3) := by decide +kernel
theorem dX2_work_63 : decode cX2_work 63 = .ok (.iload_n 3, 1) := by decide +kernel
theorem dX2_work_64 : decode cX2_work 64 = .ok (.iconst 1, 1) := by decide +kernel
theorem dX2_work_65 : decode cX2_work 65 = .ok (.isub, 1) := by decide +kernel
theorem dX2_work_66 : decode cX2_work 66 = .ok (.ldc2_w 47, 3) := by decide +kernel
theorem dX2_work_69 : decode cX2_work 69 = .ok (.invokevirtual 49, 3) := by decide +kernel
theorem dX2_work_72 : decode cX2_work 72 = .ok (.aload_n 0, 1) := by decide +kernel
theorem dX2_work_73 : decode cX2_work 73 = .ok (.getfield 14, 3) := by decide +kernel
theorem dX2_work_76 : decode cX2_work 76 = .ok (.iload_n 3, 1) := by decide +kernel
theorem dX2_work_77 : decode cX2_work 77 = .ok (.lconst 1, 1) := by decide +kernel
theorem dX2_work_78 : decode cX2_work 78 = .ok (.aload_n 0, 1) := by decide +kernel
theorem dX2_work_79 : decode cX2_work 79 = .ok (.getfield 20, 3) := by decide +kernel
theorem dX2_work_82 : decode cX2_work 82 = .ok (.iconst 0, 1) := by decide +kernel
theorem dX2_work_83 : decode cX2_work 83 = .ok (.ldc2_w 53, 3) := by decide +kernel
theorem dX2_work_86 : decode cX2_work 86 = .ok (.invokevirtual 49, 3) := by decide +kernel
theorem dX2_work_89 : decode cX2_work 89 = .ok (.aload_n 0, 1) := by decide +kernel
theorem dX2_work_90 : decode cX2_work 90 = .ok (.getfield 23, 3) := by decide +kernel
theorem dX2_work_93 : decode cX2_work 93 = .ok (.iconst 0, 1) := by decide +kernel
theorem dX2_work_94 : decode cX2_work 94 = .ok (.aload_n 1, 1) := by decide +kernel
theorem dX2_work_95 : decode cX2_work 95 = .ok (.iconst 0, 1) := by decide +kernel
theorem dX2_work_96 : decode cX2_work 96 = .ok (.invokevirtual 39, 3) := by decide +kernel
theorem dX2_work_99 : decode cX2_work 99 = .ok (.i2l, 1) := by decide +kernel
theorem dX2_work_100 : decode cX2_work 100 = .ok (.lconst 0, 1) := by decide +kernel
theorem dX2_work_101 : decode cX2_work 101 = .ok (.invokevirtual 55, 3) := by decide +kernel
theorem dX2_work_104 : decode cX2_work 104 = .ok (.iinc 3 1, 3) := by decide +kernel
theorem dX2_work_107 : decode cX2_work 107 = .ok (.goto (-74), 3) := by decide +kernel
theorem dX2_work_110 : decode cX2_work 110 = .ok (.aload_n 0, 1) := by decide +kernel
theorem dX2_work_111 : decode cX2_work 111 = .ok (.getfield 26, 3) := by decide +kernel
theorem dX2_work_114 : decode cX2_work 114 = .ok (.iconst 0, 1) := by decide +kernel
theorem dX2_work_115 : decode cX2_work 115 = .ok (.aload_n 0, 1) := by decide +kernel
theorem dX2_work_116 : decode cX2_work 116 = .ok (.getfield 23, 3) := by decide +kernel
theorem dX2_work_119 : decode cX2_work 119 = .ok (.iconst 0, 1) := by decide +kernel
theorem dX2_work_120 : decode cX2_work 120 = .ok (.invokevirtual 59, 3) := by decide +kernel
theorem dX2_work_123 : decode cX2_work 123 = .ok (.aload_n 0, 1) := by decide +kernel
theorem dX2_work_124 : decode cX2_work 124 = .ok (.getfield 26, 3) := by decide +kernel
theorem dX2_work_127 : decode cX2_work 127 = .ok (.iconst 0, 1) := by decide +kernel
theorem dX2_work_128 : decode cX2_work 128 = .ok (.lconst 1, 1) := by decide +kernel
theorem dX2_work_129 : decode cX2_work 129 = .ok (.aload_n 0, 1) := by decide +kernel
theorem dX2_work_130 : decode cX2_work 130 = .ok (.getfield 14, 3) := by decide +kernel
theorem dX2_work_133 : decode cX2_work 133 = .ok (.iload_n 2, 1) := by decide +kernel
theorem dX2_work_134 : decode cX2_work 134 = .ok (.ldc2_w 53, 3) := by decide +kernel
theorem dX2_work_137 : decode cX2_work 137 = .ok (.invokevirtual 49, 3) := by decide +kernel
theorem dX2_work_140 : decode cX2_work 140 = .ok (.return_, 1) := by decide +kernel
theorem dX2_sumUp_0 : decode cX2_sumUp 0 = .ok (.aload_n 0, 1) := by decide +kernel
theorem dX2_sumUp_1 : decode cX2_sumUp 1 = .ok (.getfield 20, 3) := by decide +kernel
theorem dX2_sumUp_4 : decode cX2_sumUp 4 = .ok (.iconst 0, 1) := by decide +kernel
theorem dX2_sumUp_5 : decode cX2_sumUp 5 = .ok (.lconst 0, 1) := by decide +kernel
theorem dX2_sumUp_6 : decode cX2_sumUp 6 = .ok (.invokevirtual 35, 3) := by decide +kernel
theorem dX2_sumUp_9 : decode cX2_sumUp 9 = .ok (.iload_n 2, 1) := by decide +kernel
theorem dX2_sumUp_10 : decode cX2_sumUp 10 = .ok (.bipush 20, 2) := by decide +kernel
theorem dX2_sumUp_12 : decode cX2_sumUp 12 = .ok (.invokestatic 63, 3) := by decide +kernel
theorem dX2_sumUp_15 : decode cX2_sumUp 15 = .ok (.istore_n 3, 1) := by decide +kernel
theorem dX2_sumUp_16 : decode cX2_sumUp 16 = .ok (.iload_n 3, 1) := by decide +kernel
theorem dX2_sumUp_17 : decode cX2_sumUp 17 = .ok (.iconst 1, 1) := by decide +kernel
theorem dX2_sumUp_18 : decode cX2_sumUp 18 = .ok (.if_icmp .lt 36, 3) := by decide +kernel
theorem dX2_sumUp_21 : decode cX2_sumUp 21 = .ok (.aload_n 0, 1) := by decide +kernel
theorem dX2_sumUp_22 : decode cX2_sumUp 22 = .ok (.getfield 20, 3) := by decide +kernel
theorem dX2_sumUp_25 : decode cX2_sumUp 25 = .ok (.iconst 0, 1) := by decide +kernel
theorem dX2_sumUp_26 : decode cX2_sumUp 26 = .ok (.aload_n 1, 1) := by decide +kernel
theorem dX2_sumUp_27 : decode cX2_sumUp 27 = .ok (.iconst 0, 1) := by decide +kernel
theorem dX2_sumUp_28 : decode cX2_sumUp 28 = .ok (.invokevirtual 39, 3) := by decide +kernel
theorem dX2_sumUp_31 : decode cX2_sumUp 31 = .ok (.i2l, 1) := by decide +kernel
theorem dX2_sumUp_32 : decode cX2_sumUp 32 = .ok (.aload_n 0, 1) := by decide +kernel
theorem dX2_sumUp_33 : decode cX2_sumUp 33 = .ok (.getfield 14, 3) := by decide +kernel
theorem dX2_sumUp_36 : decode cX2_sumUp 36 = .ok (.iload_n 2, 1) := by decide +kernel
theorem dX2_sumUp_37 : decode cX2_sumUp 37 = .ok (.iload_n 3, 1) := by decide +kernel
theorem dX2_sumUp_38 : decode cX2_sumUp 38 = .ok (.isub, 1) := by decide +kernel
theorem dX2_sumUp_39 : decode cX2_sumUp 39 = .ok (.aload_n 1, 1) := by decide +kernel
theorem dX2_sumUp_40 : decode cX2_sumUp 40 = .ok (.iload_n 3, 1) := by decide +kernel
theorem dX2_sumUp_41 : decode cX2_sumUp 41 = .ok (.invokevirtual 39, 3) := by decide +kernel
theorem dX2_sumUp_44 : decode cX2_sumUp 44 = .ok (.i2l, 1) := by decide +kernel
theorem dX2_sumUp_45 : decode cX2_sumUp 45 = .ok (.invokevirtual 49, 3) := by decide +kernel
theorem dX2_sumUp_48 : decode cX2_sumUp 48 = .ok (.iinc 3 (-1), 3) := by decide +kernel
theorem dX2_sumUp_51 : decode cX2_sumUp 51 = .ok (.goto (-35), 3) := by decide +kernel
theorem dX2_sumUp_54 : decode cX2_sumUp 54 = .ok (.return_, 1) := by decide +kernel
theorem dX2_nextFigure_0 : decode cX2_nextFigure 0 = .ok (.aload_n 0, 1) := by decide +kernel
theorem dX2_nextFigure_1 : decode cX2_nextFigure 1 = .ok (.getfield 26, 3) := by decide +kernel
theorem dX2_nextFigure_4 : decode cX2_nextFigure 4 = .ok (.iconst 0, 1) := by decide +kernel
theorem dX2_nextFigure_5 : decode cX2_nextFigure 5 = .ok (.ldc2_w 69, 3) := by decide +kernel
theorem dX2_nextFigure_8 : decode cX2_nextFigure 8 = .ok (.lconst 0, 1) := by decide +kernel
theorem dX2_nextFigure_9 : decode cX2_nextFigure 9 = .ok (.invokevirtual 55, 3) := by decide +kernel
theorem dX2_nextFigure_12 : decode cX2_nextFigure 12 = .ok (.lconst 0, 1) := by decide +kernel
theorem dX2_nextFigure_13 : decode cX2_nextFigure 13 = .ok (.lstore_n 1, 1) := by decide +kernel
theorem dX2_nextFigure_14 : decode cX2_nextFigure 14 = .ok (.iconst 0, 1) := by decide +kernel
theorem dX2_nextFigure_15 : decode cX2_nextFigure 15 = .ok (.istore_n 3, 1) := by decide +kernel
theorem dX2_nextFigure_16 : decode cX2_nextFigure 16 = .ok (.iload_n 3, 1) := by decide +kernel
theorem dX2_nextFigure_17 : decode cX2_nextFigure 17 = .ok (.bipush 9, 2) := by decide +kernel
theorem dX2_nextFigure_19 : decode cX2_nextFigure 19 = .ok (.if_icmp .ge 46, 3) := by decide +kernel
theorem dX2_nextFigure_22 : decode cX2_nextFigure 22 = .ok (.aload_n 0, 1) := by decide +kernel
theorem dX2_nextFigure_23 : decode cX2_nextFigure 23 = .ok (.getfield 26, 3) := by decide +kernel
theorem dX2_nextFigure_26 : decode cX2_nextFigure 26 = .ok (.iconst 0, 1) := by decide +kernel
theorem dX2_nextFigure_27 : decode cX2_nextFigure 27 = .ok (.aload_n 0, 1) := by decide +kernel
theorem dX2_nextFigure_28 : decode cX2_nextFigure 28 = .ok (.getfield 23, 3) := by decide +kernel
theorem dX2_nextFigure_31 : decode cX2_nextFigure 31 = .ok (.iconst 0, 1) := by decide +kernel
theorem dX2_nextFigure_32 : decode cX2_nextFigure 32 = .ok (.invokevirtual 71, 3) := by decide +kernel
theorem dX2_nextFigure_35 : decode cX2_nextFigure 35 = .ok (.ifCond .lt 30, 3) := by decide +kernel
theorem dX2_nextFigure_38 : decode cX2_nextFigure 38 = .ok (.aload_n 0, 1) := by decide +kernel
theorem dX2_nextFigure_39 : decode cX2_nextFigure 39 = .ok (.getfield 26, 3) := by decide +kernel
theorem dX2_nextFigure_42 : decode cX2_nextFigure 42 = .ok (.iconst 0, 1) := by decide +kernel
theorem dX2_nextFigure_43 : decode cX2_nextFigure 43 = .ok (.lconst 1, 1) := by decide +kernel
theorem dX2_nextFigure_44 : decode cX2_nextFigure 44 = .ok (.aload_n 0, 1) := by decide +kernel
theorem dX2_nextFigure_45 : decode cX2_nextFigure 45 = .ok (.getfield 23, 3) := by decide +kernel
theorem dX2_nextFigure_48 : decode cX2_nextFigure 48 = .ok (.iconst 0, 1) := by decide +kernel
theorem dX2_nextFigure_49 : decode cX2_nextFigure 49 = .ok (.ldc2_w 53, 3) := by decide +kernel
theorem dX2_nextFigure_52 : decode cX2_nextFigure 52 = .ok (.invokevirtual 49, 3) := by decide +kernel
theorem dX2_nextFigure_55 : decode cX2_nextFigure 55 = .ok (.lload_n 1, 1) := by decide +kernel
theorem dX2_nextFigure_56 : decode cX2_nextFigure 56 = .ok (.lconst 1, 1) := by decide +kernel
theorem dX2_nextFigure_57 : decode cX2_nextFigure 57 = .ok (.ladd, 1) := by decide +kernel
theorem dX2_nextFigure_58 : decode cX2_nextFigure 58 = .ok (.lstore_n 1, 1) := by decide +kernel
theorem dX2_nextFigure_59 : decode cX2_nextFigure 59 = .ok (.iinc 3 1, 3) := by decide +kernel
theorem dX2_nextFigure_62 : decode cX2_nextFigure 62 = .ok (.goto (-46), 3) := by decide +kernel
theorem dX2_nextFigure_65 : decode cX2_nextFigure 65 = .ok (.lload_n 1, 1) := by decide +kernel
theorem dX2_nextFigure_66 : decode cX2_nextFigure 66 = .ok (.lreturn, 1) := by decide +kernel
theorem dX3_init_0 : decode cX3_init 0 = .ok (.aload_n 0, 1) := by decide +kernel
theorem dX3_init_1 : decode cX3_init 1 = .ok (.invokespecial 3, 3) := by decide +kernel
theorem dX3_init_4 : decode cX3_init 4 = .ok (.aload_n 0, 1) := by decide +kernel
theorem dX3_init_5 : decode cX3_init 5 = .ok (.new 9, 3) := by decide +kernel
theorem dX3_init_8 : decode cX3_init 8 = .ok (.dup, 1) := by decide +kernel
theorem dX3_init_9 : decode cX3_init 9 = .ok (.invokespecial 11, 3) := by decide +kernel
theorem dX3_init_12 : decode cX3_init 12 = .ok (.putfield 12, 3) := by decide +kernel
theorem dX3_init_15 : decode cX3_init 15 = .ok (.aload_n 0, 1) := by decide +kernel
theorem dX3_init_16 : decode cX3_init 16 = .ok (.new 18, 3) := by decide +kernel
theorem dX3_init_19 : decode cX3_init 19 = .ok (.dup, 1) := by decide +kernel
theorem dX3_init_20 : decode cX3_init 20 = .ok (.iconst 1, 1) := by decide +kernel
theorem dX3_init_21 : decode cX3_init 21 = .ok (.iconst 4, 1) := by decide +kernel
theorem dX3_init_22 : decode cX3_init 22 = .ok (.invokespecial 20, 3) := by decide +kernel
theorem dX3_init_25 : decode cX3_init 25 = .ok (.putfield 23, 3) := by decide +kernel
theorem dX3_init_28 : decode cX3_init 28 = .ok (.aload_n 0, 1) := by decide +kernel
theorem dX3_init_29 : decode cX3_init 29 = .ok (.new 18, 3) := by decide +kernel
theorem dX3_init_32 : decode cX3_init 32 = .ok (.dup, 1) := by decide +kernel
theorem dX3_init_33 : decode cX3_init 33 = .ok (.iconst 1, 1) := by decide +kernel
theorem dX3_init_34 : decode cX3_init 34 = .ok (.iconst 4, 1) := by decide +kernel
theorem dX3_init_35 : decode cX3_init 35 = .ok (.invokespecial 20, 3) := by decide +kernel
theorem dX3_init_38 : decode cX3_init 38 = .ok (.putfield 27, 3) := by decide +kernel
theorem dX3_init_41 : decode cX3_init 41 = .ok (.aload_n 0, 1) := by decide +kernel
theorem dX3_init_42 : decode cX3_init 42 = .ok (.new 18, 3) := by decide +kernel
theorem dX3_init_45 : decode cX3_init 45 = .ok (.dup, 1) := by decide +kernel
theorem dX3_init_46 : decode cX3_init 46 = .ok (.sipush 181, 3) := by decide +kernel
theorem dX3_init_49 : decode cX3_init 49 = .ok (.iconst 4, 1) := by decide +kernel
theorem dX3_init_50 : decode cX3_init 50 = .ok (.invokespecial 20, 3) := by decide +kernel
theorem dX3_init_53 : decode cX3_init 53 = .ok (.putfield 30, 3) := by decide +kernel
theorem dX3_init_56 : decode cX3_init 56 = .ok (.aload_n 0, 1) := by decide +kernel
theorem dX3_init_57 : decode cX3_init 57 = .ok (.new 18, 3) := by decide +kernel
theorem dX3_init_60 : decode cX3_init 60 = .ok (.dup, 1) := by decide +kernel
theorem dX3_init_61 : decode cX3_init 61 = .ok (.sipush 181, 3) := by decide +kernel
theorem dX3_init_64 : decode cX3_init 64 = .ok (.iconst 4, 1) := by decide +kernel
theorem dX3_init_65 : decode cX3_init 65 = .ok (.invokespecial 20, 3) := by decide +kernel
theorem dX3_init_68 : decode cX3_init 68 = .ok (.putfield 33, 3) := by decide +kernel
theorem dX3_init_71 : decode cX3_init 71 = .ok (.return_, 1) := by decide +kernel
theorem dX3_work_0 : decode cX3_work 0 = .ok (.iload_n 1, 1) := by decide +kernel
theorem dX3_work_1 : decode cX3_work 1 = .ok (.istore 4, 2) := by decide +kernel
theorem dX3_work_3 : decode cX3_work 3 = .ok (.aload_n 0, 1) := by decide +kernel
theorem dX3_work_4 : decode cX3_work 4 = .ok (.getfield 23, 3) := by decide +kernel
theorem dX3_work_7 : decode cX3_work 7 = .ok (.iconst 0, 1) := by decide +kernel
theorem dX3_work_8 : decode cX3_work 8 = .ok (.lconst 1, 1) := by decide +kernel
theorem dX3_work_9 : decode cX3_work 9 = .ok (.invokevirtual 36, 3) := by decide +kernel
theorem dX3_work_12 : decode cX3_work 12 = .ok (.aload_n 0, 1) := by decide +kernel
theorem dX3_work_13 : decode cX3_work 13 = .ok (.getfield 30, 3) := by decide +kernel
theorem dX3_work_16 : decode cX3_work 16 = .ok (.iload_n 1, 1) := by decide +kernel
theorem dX3_work_17 : decode cX3_work 17 = .ok (.iload_n 3, 1) := by decide +kernel
theorem dX3_work_18 : decode cX3_work 18 = .ok (.iload_n 2, 1) := by decide +kernel
theorem dX3_work_19 : decode cX3_work 19 = .ok (.imul, 1) := by decide +kernel
theorem dX3_work_20 : decode cX3_work 20 = .ok (.iadd, 1) := by decide +kernel
theorem dX3_work_21 : decode cX3_work 21 = .ok (.iconst 1, 1) := by decide +kernel
theorem dX3_work_22 : decode cX3_work 22 = .ok (.iadd, 1) := by decide +kernel
theorem dX3_work_23 : decode cX3_work 23 = .ok (.invokevirtual 40, 3) := by decide +kernel
theorem dX3_work_26 : decode cX3_work 26 = .ok (.iconst 0, 1) := by decide +kernel
theorem dX3_work_27 : decode cX3_work 27 = .ok (.istore 5, 2) := by decide +kernel
theorem dX3_work_29 : decode cX3_work 29 = .ok (.iload 5, 2) := by decide +kernel
theorem dX3_work_31 : decode cX3_work 31 = .ok (.aload_n 0, 1) := by decide +kernel
theorem dX3_work_32 : decode cX3_work 32 = .ok (.getfield 30, 3) := by decide +kernel
theorem dX3_work_35 : decode cX3_work 35 = .ok (.getfield 44, 3) := by decide +kernel
theorem dX3_work_38 : decode cX3_work 38 = .ok (.if_icmp .ge 21, 3) := by decide +kernel
theorem dX3_work_41 : decode cX3_work 41 = .ok (.aload_n 0, 1) := by decide +kernel
theorem dX3_work_42 : decode cX3_work 42 = .ok (.getfield 30, 3) := by decide +kernel
theorem dX3_work_45 : decode cX3_work 45 = .ok (.iload 5, 2) := by decide +kernel
theorem dX3_work_47 : decode cX3_work 47 = .ok (.iload 5, 2) := by decide +kernel
theorem dX3_work_49 : decode cX3_work 49 = .ok (.i2l, 1) := by decide +kernel
theorem dX3_work_50 : decode cX3_work 50 = .ok (.invokevirtual 36, 3) := by decide +kernel
theorem dX3_work_53 : decode cX3_work 53 = .ok (.iinc 5 1, 3) := by decide +kernel
theorem dX3_work_56 : decode cX3_work 56 = .ok (.goto (-27), 3) := by decide +kernel
theorem dX3_work_59 : decode cX3_work 59 = .ok (.iconst 1, 1) := by decide +kernel
theorem dX3_work_60 : decode cX3_work 60 = .ok (.istore 5, 2) := by decide +kernel
theorem dX3_work_62 : decode cX3_work 62 = .ok (.iload 5, 2) := by decide +kernel
theorem dX3_work_64 : decode cX3_work 64 = .ok (.iload_n 3, 1) := by decide +kernel
theorem dX3_work_65 : decode cX3_work 65 = .ok (.if_icmp .gt 36, 3) := by decide +kernel
theorem dX3_work_68 : decode cX3_work 68 = .ok (.aload_n 0, 1) := by decide +kernel
theorem dX3_work_69 : decode cX3_work 69 = .ok (.getfield 23, 3) := by decide +kernel
theorem dX3_work_72 : decode cX3_work 72 = .ok (.iconst 0, 1) := by decide +kernel
theorem dX3_work_73 : decode cX3_work 73 = .ok (.ldc2_w 48, 3) := by decide +kernel
theorem dX3_work_76 : decode cX3_work 76 = .ok (.lconst 0, 1) := by decide +kernel
theorem dX3_work_77 : decode cX3_work 77 = .ok (.invokevirtual 50, 3) := by decide +kernel
theorem dX3_work_80 : decode cX3_work 80 = .ok (.aload_n 0, 1) := by decide +kernel
theorem dX3_work_81 : decode cX3_work 81 = .ok (.iload_n 1, 1) := by decide +kernel
theorem dX3_work_82 : decode cX3_work 82 = .ok (.iload_n 3, 1) := by decide +kernel
theorem dX3_work_83 : decode cX3_work 83 = .ok (.iload 5, 2) := by decide +kernel
theorem dX3_work_85 : decode cX3_work 85 = .ok (.isub, 1) := by decide +kernel
theorem dX3_work_86 : decode cX3_work 86 = .ok (.iload_n 2, 1) := by decide +kernel
theorem dX3_work_87 : decode cX3_work 87 = .ok (.imul, 1) := by decide +kernel
theorem dX3_work_88 : decode cX3_work 88 = .ok (.iadd, 1) := by decide +kernel
theorem dX3_work_89 : decode cX3_work 89 = .ok (.iload_n 2, 1) := by decide +kernel
theorem dX3_work_90 : decode cX3_work 90 = .ok (.invokevirtual 54, 3) := by decide +kernel
theorem dX3_work_93 : decode cX3_work 93 = .ok (.istore 4, 2) := by decide +kernel
theorem dX3_work_95 : decode cX3_work 95 = .ok (.iinc 5 1, 3) := by decide +kernel
theorem dX3_work_98 : decode cX3_work 98 = .ok (.goto (-36), 3) := by decide +kernel
theorem dX3_work_101 : decode cX3_work 101 = .ok (.iload 4, 2) := by decide +kernel
theorem dX3_work_103 : decode cX3_work 103 = .ok (.ireturn, 1) := by decide +kernel
theorem dX3_goBack_0 : decode cX3_goBack 0 = .ok (.iconst 0, 1) := by decide +kernel
theorem dX3_goBack_1 : decode cX3_goBack 1 = .ok (.istore_n 3, 1) := by decide +kernel
theorem dX3_goBack_2 : decode cX3_goBack 2 = .ok (.aload_n 0, 1) := by decide +kernel
theorem dX3_goBack_3 : decode cX3_goBack 3 = .ok (.getfield 33, 3) := by decide +kernel
theorem dX3_goBack_6 : decode cX3_goBack 6 = .ok (.iload_n 1, 1) := by decide +kernel
theorem dX3_goBack_7 : decode cX3_goBack 7 = .ok (.iconst 1, 1) := by decide +kernel
theorem dX3_goBack_8 : decode cX3_goBack 8 = .ok (.iadd, 1) := by decide +kernel
theorem dX3_goBack_9 : decode cX3_goBack 9 = .ok (.invokevirtual 40, 3) := by decide +kernel
theorem dX3_goBack_12 : decode cX3_goBack 12 = .ok (.iconst 0, 1) := by decide +kernel
theorem dX3_goBack_13 : decode cX3_goBack 13 = .ok (.istore 4, 2) := by decide +kernel
theorem dX3_goBack_15 : decode cX3_goBack 15 = .ok (.iload 4, 2) := by decide +kernel
theorem dX3_goBack_17 : decode cX3_goBack 17 = .ok (.iload_n 1, 1) := by decide +kernel
theorem dX3_goBack_18 : decode cX3_goBack 18 = .ok (.if_icmp .gt 54, 3) := by decide +kernel
theorem dX3_goBack_21 : decode cX3_goBack 21 = .ok (.aload_n 0, 1) := by decide +kernel
theorem dX3_goBack_22 : decode cX3_goBack 22 = .ok (.getfield 33, 3) := by decide +kernel
theorem dX3_goBack_25 : decode cX3_goBack 25 = .ok (.iload 4, 2) := by decide +kernel
theorem dX3_goBack_27 : decode cX3_goBack 27 = .ok (.aload_n 0, 1) := by decide +kernel
theorem dX3_goBack_28 : decode cX3_goBack 28 = .ok (.getfield 30, 3) := by decide +kernel
theorem dX3_goBack_31 : decode cX3_goBack 31 = .ok (.iload 4, 2) := by decide +kernel
theorem dX3_goBack_33 : decode cX3_goBack 33 = .ok (.iload_n 2, 1) := by decide +kernel
theorem dX3_goBack_34 : decode cX3_goBack 34 = .ok (.iadd, 1) := by decide +kernel
theorem dX3_goBack_35 : decode cX3_goBack 35 = .ok (.iconst (-1), 1) := by decide +kernel
theorem dX3_goBack_36 : decode cX3_goBack 36 = .ok (.aload_n 0, 1) := by decide +kernel
theorem dX3_goBack_37 : decode cX3_goBack 37 = .ok (.getfield 12, 3) := by decide +kernel
theorem dX3_goBack_40 : decode cX3_goBack 40 = .ok (.iconst 4, 1) := by decide +kernel
theorem dX3_goBack_41 : decode cX3_goBack 41 = .ok (.invokevirtual 58, 3) := by decide +kernel
theorem dX3_goBack_44 : decode cX3_goBack 44 = .ok (.iload 4, 2) := by decide +kernel
theorem dX3_goBack_46 : decode cX3_goBack 46 = .ok (.ifCond .eq 12, 3) := by decide +kernel
theorem dX3_goBack_49 : decode cX3_goBack 49 = .ok (.aload_n 0, 1) := by decide +kernel
theorem dX3_goBack_50 : decode cX3_goBack 50 = .ok (.iload 4, 2) := by decide +kernel
theorem dX3_goBack_52 : decode cX3_goBack 52 = .ok (.invokevirtual 62, 3) := by decide +kernel
theorem dX3_goBack_55 : decode cX3_goBack 55 = .ok (.ifCond .ne 7, 3) := by decide +kernel
theorem dX3_goBack_58 : decode cX3_goBack 58 = .ok (.iconst 0, 1) := by decide +kernel
theorem dX3_goBack_59 : decode cX3_goBack 59 = .ok (.goto 6, 3) := by decide +kernel
theorem dX3_goBack_62 : decode cX3_goBack 62 = .ok (.iload_n 3, 1) := by decide +kernel
theorem dX3_goBack_63 : decode cX3_goBack 63 = .ok (.iconst 1, 1) := by decide +kernel
theorem dX3_goBack_64 : decode cX3_goBack 64 = .ok (.iadd, 1) := by decide +kernel
theorem dX3_goBack_65 : decode cX3_goBack 65 = .ok (.istore_n 3, 1) := by decide +kernel
theorem dX3_goBack_66 : decode cX3_goBack 66 = .ok (.iinc 4 1, 3) := by decide +kernel
theorem dX3_goBack_69 : decode cX3_goBack 69 = .ok (.goto (-54), 3) := by decide +kernel
theorem dX3_goBack_72 : decode cX3_goBack 72 = .ok (.aload_n 0, 1) := by decide +kernel
theorem dX3_goBack_73 : decode cX3_goBack 73 = .ok (.getfield 30, 3) := by decide +kernel
theorem dX3_goBack_76 : decode cX3_goBack 76 = .ok (.astore 4, 2) := by decide +kernel
theorem dX3_goBack_78 : decode cX3_goBack 78 = .ok (.aload_n 0, 1) := by decide +kernel
theorem dX3_goBack_79 : decode cX3_goBack 79 = .ok (.aload_n 0, 1) := by decide +kernel
theorem dX3_goBack_80 : decode cX3_goBack 80 = .ok (.getfield 33, 3) := by decide +kernel
theorem dX3_goBack_83 : decode cX3_goBack 83 = .ok (.putfield 30, 3) := by decide +kernel
theorem dX3_goBack_86 : decode cX3_goBack 86 = .ok (.aload_n 0, 1) := by decide +kernel
theorem dX3_goBack_87 : decode cX3_goBack 87 = .ok (.aload 4, 2) := by decide +kernel
theorem dX3_goBack_89 : decode cX3_goBack 89 = .ok (.putfield 33, 3) := by decide +kernel
theorem dX3_goBack_92 : decode cX3_goBack 92 = .ok (.iload_n 3, 1) := by decide +kernel
theorem dX3_goBack_93 : decode cX3_goBack 93 = .ok (.ireturn, 1) := by decide +kernel
theorem dX3_payOne_0 : decode cX3_payOne 0 = .ok (.aload_n 0, 1) := by decide +kernel
theorem dX3_payOne_1 : decode cX3_payOne 1 = .ok (.getfield 27, 3) := by decide +kernel
theorem dX3_payOne_4 : decode cX3_payOne 4 = .ok (.iconst 0, 1) := by decide +kernel
theorem dX3_payOne_5 : decode cX3_payOne 5 = .ok (.aload_n 0, 1) := by decide +kernel
theorem dX3_payOne_6 : decode cX3_payOne 6 = .ok (.getfield 33, 3) := by decide +kernel
theorem dX3_payOne_9 : decode cX3_payOne 9 = .ok (.iload_n 1, 1) := by decide +kernel
theorem dX3_payOne_10 : decode cX3_payOne 10 = .ok (.iconst 1, 1) := by decide +kernel
theorem dX3_payOne_11 : decode cX3_payOne 11 = .ok (.isub, 1) := by decide +kernel
theorem dX3_payOne_12 : decode cX3_payOne 12 = .ok (.invokevirtual 66, 3) := by decide +kernel
theorem dX3_payOne_15 : decode cX3_payOne 15 = .ok (.aload_n 0, 1) := by decide +kernel
theorem dX3_payOne_16 : decode cX3_payOne 16 = .ok (.getfield 27, 3) := by decide +kernel
theorem dX3_payOne_19 : decode cX3_payOne 19 = .ok (.iconst 0, 1) := by decide +kernel
theorem dX3_payOne_20 : decode cX3_payOne 20 = .ok (.lconst 1, 1) := by decide +kernel
theorem dX3_payOne_21 : decode cX3_payOne 21 = .ok (.aload_n 0, 1) := by decide +kernel
theorem dX3_payOne_22 : decode cX3_payOne 22 = .ok (.getfield 23, 3) := by decide +kernel
theorem dX3_payOne_25 : decode cX3_payOne 25 = .ok (.iconst 0, 1) := by decide +kernel
theorem dX3_payOne_26 : decode cX3_payOne 26 = .ok (.lconst 1, 1) := by decide +kernel
theorem dX3_payOne_27 : decode cX3_payOne 27 = .ok (.invokevirtual 70, 3) := by decide +kernel
theorem dX3_payOne_30 : decode cX3_payOne 30 = .ok (.aload_n 0, 1) := by decide +kernel
theorem dX3_payOne_31 : decode cX3_payOne 31 = .ok (.getfield 33, 3) := by decide +kernel
theorem dX3_payOne_34 : decode cX3_payOne 34 = .ok (.iload_n 1, 1) := by decide +kernel
theorem dX3_payOne_35 : decode cX3_payOne 35 = .ok (.aload_n 0, 1) := by decide +kernel
theorem dX3_payOne_36 : decode cX3_payOne 36 = .ok (.getfield 27, 3) := by decide +kernel
theorem dX3_payOne_39 : decode cX3_payOne 39 = .ok (.iconst 0, 1) := by decide +kernel
theorem dX3_payOne_40 : decode cX3_payOne 40 = .ok (.invokevirtual 74, 3) := by decide +kernel
theorem dX3_payOne_43 : decode cX3_payOne 43 = .ok (.ifCond .lt 5, 3) := by decide +kernel
theorem dX3_payOne_46 : decode cX3_payOne 46 = .ok (.iconst 0, 1) := by decide +kernel
theorem dX3_payOne_47 : decode cX3_payOne 47 = .ok (.ireturn, 1) := by decide +kernel
theorem dX3_payOne_48 : decode cX3_payOne 48 = .ok (.aload_n 0, 1) := by decide +kernel
theorem dX3_payOne_49 : decode cX3_payOne 49 = .ok (.getfield 33, 3) := by decide +kernel
theorem dX3_payOne_52 : decode cX3_payOne 52 = .ok (.iload_n 1, 1) := by decide +kernel
theorem dX3_payOne_53 : decode cX3_payOne 53 = .ok (.aload_n 0, 1) := by decide +kernel
theorem dX3_payOne_54 : decode cX3_payOne 54 = .ok (.getfield 27, 3) := by decide +kernel
theorem dX3_payOne_57 : decode cX3_payOne 57 = .ok (.iconst 0, 1) := by decide +kernel
theorem dX3_payOne_58 : decode cX3_payOne 58 = .ok (.invokevirtual 66, 3) := by decide +kernel
theorem dX3_payOne_61 : decode cX3_payOne 61 = .ok (.iconst 1, 1) := by decide +kernel
theorem dX3_payOne_62 : decode cX3_payOne 62 = .ok (.ireturn, 1) := by decide +kernel
theorem dX4_init_0 : decode cX4_init 0 = .ok (.aload_n 0, 1) := by decide +kernel
theorem dX4_init_1 : decode cX4_init 1 = .ok (.invokespecial 3, 3) := by decide +kernel
theorem dX4_init_4 : decode cX4_init 4 = .ok (.aload_n 0, 1) := by decide +kernel
theorem dX4_init_5 : decode cX4_init 5 = .ok (.iload_n 1, 1) := by decide +kernel
theorem dX4_init_6 : decode cX4_init 6 = .ok (.iconst 1, 1) := by decide +kernel
theorem dX4_init_7 : decode cX4_init 7 = .ok (.invokestatic 9, 3) := by decide +kernel
theorem dX4_init_10 : decode cX4_init 10 = .ok (.putfield 15, 3) := by decide +kernel
theorem dX4_init_13 : decode cX4_init 13 = .ok (.aload_n 0, 1) := by decide +kernel
theorem dX4_init_14 : decode cX4_init 14 = .ok (.iload_n 2, 1) := by decide +kernel
theorem dX4_init_15 : decode cX4_init 15 = .ok (.iconst 1, 1) := by decide +kernel
theorem dX4_init_16 : decode cX4_init 16 = .ok (.invokestatic 9, 3) := by decide +kernel
theorem dX4_init_19 : decode cX4_init 19 = .ok (.putfield 21, 3) := by decide +kernel
theorem dX4_init_22 : decode cX4_init 22 = .ok (.aload_n 0, 1) := by decide +kernel
theorem dX4_init_23 : decode cX4_init 23 = .ok (.aload_n 0, 1) := by decide +kernel
theorem dX4_init_24 : decode cX4_init 24 = .ok (.getfield 15, 3) := by decide +kernel
theorem dX4_init_27 : decode cX4_init 27 = .ok (.aload_n 0, 1) := by decide +kernel
theorem dX4_init_28 : decode cX4_init 28 = .ok (.getfield 21, 3) := by decide +kernel
theorem dX4_init_31 : decode cX4_init 31 = .ok (.imul, 1) := by decide +kernel
theorem dX4_init_32 : decode cX4_init 32 = .ok (.newarray .long, 2) := by decide +kernel
theorem dX4_init_34 : decode cX4_init 34 = .ok (.putfield 24, 3) := by decide +kernel
theorem dX4_init_37 : decode cX4_init 37 = .ok (.aload_n 0, 1) := by decide +kernel
theorem dX4_init_38 : decode cX4_init 38 = .ok (.aload_n 0, 1) := by decide +kernel
theorem dX4_init_39 : decode cX4_init 39 = .ok (.getfield 15, 3) := by decide +kernel
theorem dX4_init_42 : decode cX4_init 42 = .ok (.putfield 28, 3) := by decide +kernel
theorem dX4_init_45 : decode cX4_init 45 = .ok (.return_, 1) := by decide +kernel
theorem dX4_has_0 : decode cX4_has 0 = .ok (.iload_n 1, 1) := by decide +kernel
theorem dX4_has_1 : decode cX4_has 1 = .ok (.ifCond .lt 15, 3) := by decide +kernel
theorem dX4_has_4 : decode cX4_has 4 = .ok (.iload_n 1, 1) := by decide +kernel
theorem dX4_has_5 : decode cX4_has 5 = .ok (.aload_n 0, 1) := by decide +kernel
theorem dX4_has_6 : decode cX4_has 6 = .ok (.getfield 28, 3) := by decide +kernel
theorem dX4_has_9 : decode cX4_has 9 = .ok (.if_icmp .ge 7, 3) := by decide +kernel
theorem dX4_has_12 : decode cX4_has 12 = .ok (.iconst 1, 1) := by decide +kernel
theorem dX4_has_13 : decode cX4_has 13 = .ok (.goto 4, 3) := by decide +kernel
theorem dX4_has_16 : decode cX4_has 16 = .ok (.iconst 0, 1) := by decide +kernel
theorem dX4_has_17 : decode cX4_has 17 = .ok (.ireturn, 1) := by decide +kernel
theorem dX4_open_0 : decode cX4_open 0 = .ok (.aload_n 0, 1) := by decide +kernel
theorem dX4_open_1 : decode cX4_open 1 = .ok (.iload_n 1, 1) := by decide +kernel
theorem dX4_open_2 : decode cX4_open 2 = .ok (.aload_n 0, 1) := by decide +kernel
theorem dX4_open_3 : decode cX4_open 3 = .ok (.getfield 15, 3) := by decide +kernel
theorem dX4_open_6 : decode cX4_open 6 = .ok (.invokestatic 31, 3) := by decide +kernel
theorem dX4_open_9 : decode cX4_open 9 = .ok (.iconst 0, 1) := by decide +kernel
theorem dX4_open_10 : decode cX4_open 10 = .ok (.invokestatic 9, 3) := by decide +kernel
theorem dX4_open_13 : decode cX4_open 13 = .ok (.putfield 28, 3) := by decide +kernel
theorem dX4_open_16 : decode cX4_open 16 = .ok (.return_, 1) := by decide +kernel
theorem dX4_wipe_0 : decode cX4_wipe 0 = .ok (.aload_n 0, 1) := by decide +kernel
theorem dX4_wipe_1 : decode cX4_wipe 1 = .ok (.getfield 24, 3) := by decide +kernel
theorem dX4_wipe_4 : decode cX4_wipe 4 = .ok (.lconst 0, 1) := by decide +kernel
theorem dX4_wipe_5 : decode cX4_wipe 5 = .ok (.invokestatic 34, 3) := by decide +kernel
theorem dX4_wipe_8 : decode cX4_wipe 8 = .ok (.return_, 1) := by decide +kernel
theorem dX4_put_0 : decode cX4_put 0 = .ok (.iconst 0, 1) := by decide +kernel
theorem dX4_put_1 : decode cX4_put 1 = .ok (.istore 4, 2) := by decide +kernel
theorem dX4_put_3 : decode cX4_put 3 = .ok (.iload 4, 2) := by decide +kernel
theorem dX4_put_5 : decode cX4_put 5 = .ok (.aload_n 0, 1) := by decide +kernel
theorem dX4_put_6 : decode cX4_put 6 = .ok (.getfield 21, 3) := by decide +kernel
theorem dX4_put_9 : decode cX4_put 9 = .ok (.if_icmp .ge 26, 3) := by decide +kernel
theorem dX4_put_12 : decode cX4_put 12 = .ok (.aload_n 0, 1) := by decide +kernel
theorem dX4_put_13 : decode cX4_put 13 = .ok (.iload_n 1, 1) := by decide +kernel
theorem dX4_put_14 : decode cX4_put 14 = .ok (.iload 4, 2) := by decide +kernel
theorem dX4_put_16 : decode cX4_put 16 = .ok (.iload 4, 2) := by decide +kernel
theorem dX4_put_18 : decode cX4_put 18 = .ok (.ifCond .ne 7, 3) := by decide +kernel
theorem dX4_put_21 : decode cX4_put 21 = .ok (.lload_n 2, 1) := by decide +kernel
theorem dX4_put_22 : decode cX4_put 22 = .ok (.goto 4, 3) := by decide +kernel
theorem dX4_put_25 : decode cX4_put 25 = .ok (.lconst 0, 1) := by decide +kernel
theorem dX4_put_26 : decode cX4_put 26 = .ok (.invokevirtual 40, 3) := by decide +kernel
theorem dX4_put_29 : decode cX4_put 29 = .ok (.iinc 4 1, 3) := by decide +kernel
theorem dX4_put_32 : decode cX4_put 32 = .ok (.goto (-29), 3) := by decide +kernel
theorem dX4_put_35 : decode cX4_put 35 = .ok (.return_, 1) := by decide +kernel
theorem dX4_copy_0 : decode cX4_copy 0 = .ok (.iconst 0, 1) := by decide +kernel
theorem dX4_copy_1 : decode cX4_copy 1 = .ok (.istore 4, 2) := by decide +kernel
theorem dX4_copy_3 : decode cX4_copy 3 = .ok (.iload 4, 2) := by decide +kernel
theorem dX4_copy_5 : decode cX4_copy 5 = .ok (.aload_n 0, 1) := by decide +kernel
theorem dX4_copy_6 : decode cX4_copy 6 = .ok (.getfield 21, 3) := by decide +kernel
theorem dX4_copy_9 : decode cX4_copy 9 = .ok (.if_icmp .ge 23, 3) := by decide +kernel
theorem dX4_copy_12 : decode cX4_copy 12 = .ok (.aload_n 0, 1) := by decide +kernel
theorem dX4_copy_13 : decode cX4_copy 13 = .ok (.iload_n 1, 1) := by decide +kernel
theorem dX4_copy_14 : decode cX4_copy 14 = .ok (.iload 4, 2) := by decide +kernel
theorem dX4_copy_16 : decode cX4_copy 16 = .ok (.aload_n 2, 1) := by decide +kernel
theorem dX4_copy_17 : decode cX4_copy 17 = .ok (.iload_n 3, 1) := by decide +kernel
theorem dX4_copy_18 : decode cX4_copy 18 = .ok (.iload 4, 2) := by decide +kernel
theorem dX4_copy_20 : decode cX4_copy 20 = .ok (.invokevirtual 44, 3) := by decide +kernel
theorem dX4_copy_23 : decode cX4_copy 23 = .ok (.invokevirtual 40, 3) := by decide +kernel
theorem dX4_copy_26 : decode cX4_copy 26 = .ok (.iinc 4 1, 3) := by decide +kernel
theorem dX4_copy_29 : decode cX4_copy 29 = .ok (.goto (-26), 3) := by decide +kernel
theorem dX4_copy_32 : decode cX4_copy 32 = .ok (.return_, 1) := by decide +kernel
theorem dX4_times_0 : decode cX4_times 0 = .ok (.lload 4, 2) := by decide +kernel
theorem dX4_times_2 : decode cX4_times 2 = .ok (.lstore 6, 2) := by decide +kernel
theorem dX4_times_4 : decode cX4_times 4 = .ok (.iconst 0, 1) := by decide +kernel
theorem dX4_times_5 : decode cX4_times 5 = .ok (.istore 8, 2) := by decide +kernel
theorem dX4_times_7 : decode cX4_times 7 = .ok (.iload 8, 2) := by decide +kernel
theorem dX4_times_9 : decode cX4_times 9 = .ok (.aload_n 0, 1) := by decide +kernel
theorem dX4_times_10 : decode cX4_times 10 = .ok (.getfield 21, 3) := by decide +kernel
theorem dX4_times_13 : decode cX4_times 13 = .ok (.if_icmp .ge 44, 3) := by decide +kernel
theorem dX4_times_16 : decode cX4_times 16 = .ok (.lload 6, 2) := by decide +kernel
theorem dX4_times_18 : decode cX4_times 18 = .ok (.aload_n 0, 1) := by decide +kernel
theorem dX4_times_19 : decode cX4_times 19 = .ok (.iload_n 1, 1) := by decide +kernel
theorem dX4_times_20 : decode cX4_times 20 = .ok (.iload 8, 2) := by decide +kernel
theorem dX4_times_22 : decode cX4_times 22 = .ok (.invokevirtual 44, 3) := by decide +kernel
theorem dX4_times_25 : decode cX4_times 25 = .ok (.lload_n 2, 1) := by decide +kernel
theorem dX4_times_26 : decode cX4_times 26 = .ok (.lmul, 1) := by decide +kernel
theorem dX4_times_27 : decode cX4_times 27 = .ok (.ladd, 1) := by decide +kernel
theorem dX4_times_28 : decode cX4_times 28 = .ok (.lstore 6, 2) := by decide +kernel
theorem dX4_times_30 : decode cX4_times 30 = .ok (.aload_n 0, 1) := by decide +kernel
theorem dX4_times_31 : decode cX4_times 31 = .ok (.iload_n 1, 1) := by decide +kernel
theorem dX4_times_32 : decode cX4_times 32 = .ok (.iload 8, 2) := by decide +kernel
theorem dX4_times_34 : decode cX4_times 34 = .ok (.lload 6, 2) := by decide +kernel
theorem dX4_times_36 : decode cX4_times 36 = .ok (.ldc2_w 48, 3) := by decide +kernel
theorem dX4_times_39 : decode cX4_times 39 = .ok (.lrem, 1) := by decide +kernel
theorem dX4_times_40 : decode cX4_times 40 = .ok (.invokevirtual 40, 3) := by decide +kernel
theorem dX4_times_43 : decode cX4_times 43 = .ok (.lload 6, 2) := by decide +kernel
theorem dX4_times_45 : decode cX4_times 45 = .ok (.ldc2_w 48, 3) := by decide +kernel
theorem dX4_times_48 : decode cX4_times 48 = .ok (.ldiv, 1) := by decide +kernel
theorem dX4_times_49 : decode cX4_times 49 = .ok (.lstore 6, 2) := by decide +kernel
theorem dX4_times_51 : decode cX4_times 51 = .ok (.iinc 8 1, 3) := by decide +kernel
theorem dX4_times_54 : decode cX4_times 54 = .ok (.goto (-47), 3) := by decide +kernel
theorem dX4_times_57 : decode cX4_times 57 = .ok (.return_, 1) := by decide +kernel
theorem dX4_combine_0 : decode cX4_combine 0 = .ok (.lconst 0, 1) := by decide +kernel
theorem dX4_combine_1 : decode cX4_combine 1 = .ok (.lstore 8, 2) := by decide +kernel
theorem dX4_combine_3 : decode cX4_combine 3 = .ok (.iconst 0, 1) := by decide +kernel
theorem dX4_combine_4 : decode cX4_combine 4 = .ok (.istore 10, 2) := by decide +kernel
theorem dX4_combine_6 : decode cX4_combine 6 = .ok (.iload 10, 2) := by decide +kernel
theorem dX4_combine_8 : decode cX4_combine 8 = .ok (.aload_n 0, 1) := by decide +kernel
theorem dX4_combine_9 : decode cX4_combine 9 = .ok (.getfield 21, 3) := by decide +kernel
theorem dX4_combine_12 : decode cX4_combine 12 = .ok (.if_icmp .ge 61, 3) := by decide +kernel
theorem dX4_combine_15 : decode cX4_combine 15 = .ok (.lload 8, 2) := by decide +kernel
theorem dX4_combine_17 : decode cX4_combine 17 = .ok (.aload_n 0, 1) := by decide +kernel
theorem dX4_combine_18 : decode cX4_combine 18 = .ok (.iload_n 1, 1) := by decide +kernel
theorem dX4_combine_19 : decode cX4_combine 19 = .ok (.iload 10, 2) := by decide +kernel
theorem dX4_combine_21 : decode cX4_combine 21 = .ok (.invokevirtual 44, 3) := by decide +kernel
theorem dX4_combine_24 : decode cX4_combine 24 = .ok (.lload_n 2, 1) := by decide +kernel
theorem dX4_combine_25 : decode cX4_combine 25 = .ok (.lmul, 1) := by decide +kernel
theorem dX4_combine_26 : decode cX4_combine 26 = .ok (.aload 4, 2) := by decide +kernel
theorem dX4_combine_28 : decode cX4_combine 28 = .ok (.iload 5, 2) := by decide +kernel
theorem dX4_combine_30 : decode cX4_combine 30 = .ok (.iload 10, 2) := by decide +kernel
theorem dX4_combine_32 : decode cX4_combine 32 = .ok (.invokevirtual 44, 3) := by decide +kernel
theorem dX4_combine_35 : decode cX4_combine 35 = .ok (.lload 6, 2) := by decide +kernel
theorem dX4_combine_37 : decode cX4_combine 37 = .ok (.lmul, 1) := by decide +kernel
theorem dX4_combine_38 : decode cX4_combine 38 = .ok (.ladd, 1) := by decide +kernel
theorem dX4_combine_39 : decode cX4_combine 39 = .ok (.ladd, 1) := by decide +kernel
theorem dX4_combine_40 : decode cX4_combine 40 = .ok (.lstore 8, 2) := by decide +kernel
theorem dX4_combine_42 : decode cX4_combine 42 = .ok (.aload_n 0, 1) := by decide +kernel
theorem dX4_combine_43 : decode cX4_combine 43 = .ok (.iload_n 1, 1) := by decide +kernel
theorem dX4_combine_44 : decode cX4_combine 44 = .ok (.iload 10, 2) := by decide +kernel
theorem dX4_combine_46 : decode cX4_combine 46 = .ok (.lload 8, 2) := by decide +kernel
theorem dX4_combine_48 : decode cX4_combine 48 = .ok (.ldc2_w 48, 3) := by decide +kernel
theorem dX4_combine_51 : decode cX4_combine 51 = .ok (.invokestatic 50, 3) := by decide +kernel
theorem dX4_combine_54 : decode cX4_combine 54 = .ok (.invokevirtual 40, 3) := by decide +kernel
theorem dX4_combine_57 : decode cX4_combine 57 = .ok (.lload 8, 2) := by decide +kernel
theorem dX4_combine_59 : decode cX4_combine 59 = .ok (.ldc2_w 48, 3) := by decide +kernel
theorem dX4_combine_62 : decode cX4_combine 62 = .ok (.invokestatic 54, 3) := by decide +kernel
theorem dX4_combine_65 : decode cX4_combine 65 = .ok (.lstore 8, 2) := by decide +kernel
theorem dX4_combine_67 : decode cX4_combine 67 = .ok (.iinc 10 1, 3) := by decide +kernel
theorem dX4_combine_70 : decode cX4_combine 70 = .ok (.goto (-64), 3) := by decide +kernel
theorem dX4_combine_73 : decode cX4_combine 73 = .ok (.return_, 1) := by decide +kernel
theorem dX4_mix_0 : decode cX4_mix 0 = .ok (.iload 6, 2) := by decide +kernel
theorem dX4_mix_2 : decode cX4_mix 2 = .ok (.aload_n 0, 1) := by decide +kernel
theorem dX4_mix_3 : decode cX4_mix 3 = .ok (.getfield 21, 3) := by decide +kernel
theorem dX4_mix_6 : decode cX4_mix 6 = .ok (.aload_n 2, 1) := by decide +kernel
theorem dX4_mix_7 : decode cX4_mix 7 = .ok (.getfield 21, 3) := by decide +kernel
theorem dX4_mix_10 : decode cX4_mix 10 = .ok (.invokestatic 31, 3) := by decide +kernel
theorem dX4_mix_13 : decode cX4_mix 13 = .ok (.invokestatic 31, 3) := by decide +kernel
theorem dX4_mix_16 : decode cX4_mix 16 = .ok (.istore 7, 2) := by decide +kernel
theorem dX4_mix_18 : decode cX4_mix 18 = .ok (.aload_n 0, 1) := by decide +kernel
theorem dX4_mix_19 : decode cX4_mix 19 = .ok (.iload_n 1, 1) := by decide +kernel
theorem dX4_mix_20 : decode cX4_mix 20 = .ok (.invokevirtual 57, 3) := by decide +kernel
theorem dX4_mix_23 : decode cX4_mix 23 = .ok (.ifCond .eq 9, 3) := by decide +kernel
theorem dX4_mix_26 : decode cX4_mix 26 = .ok (.iload 7, 2) := by decide +kernel
theorem dX4_mix_28 : decode cX4_mix 28 = .ok (.iconst 1, 1) := by decide +kernel
theorem dX4_mix_29 : decode cX4_mix 29 = .ok (.if_icmp .ge 4, 3) := by decide +kernel
theorem dX4_mix_32 : decode cX4_mix 32 = .ok (.return_, 1) := by decide +kernel
theorem dX4_mix_33 : decode cX4_mix 33 = .ok (.iload_n 1, 1) := by decide +kernel
theorem dX4_mix_34 : decode cX4_mix 34 = .ok (.aload_n 0, 1) := by decide +kernel
theorem dX4_mix_35 : decode cX4_mix 35 = .ok (.getfield 21, 3) := by decide +kernel
theorem dX4_mix_38 : decode cX4_mix 38 = .ok (.imul, 1) := by decide +kernel
theorem dX4_mix_39 : decode cX4_mix 39 = .ok (.istore 8, 2) := by decide +kernel
theorem dX4_mix_41 : decode cX4_mix 41 = .ok (.iload 8, 2) := by decide +kernel
theorem dX4_mix_43 : decode cX4_mix 43 = .ok (.iload_n 1, 1) := by decide +kernel
theorem dX4_mix_44 : decode cX4_mix 44 = .ok (.aload_n 0, 1) := by decide +kernel
theorem dX4_mix_45 : decode cX4_mix 45 = .ok (.getfield 21, 3) := by decide +kernel
theorem dX4_mix_48 : decode cX4_mix 48 = .ok (.imul, 1) := by decide +kernel
theorem dX4_mix_49 : decode cX4_mix 49 = .ok (.iload 7, 2) := by decide +kernel
theorem dX4_mix_51 : decode cX4_mix 51 = .ok (.iadd, 1) := by decide +kernel
theorem dX4_mix_52 : decode cX4_mix 52 = .ok (.if_icmp .ge 17, 3) := by decide +kernel
theorem dX4_mix_55 : decode cX4_mix 55 = .ok (.aload_n 0, 1) := by decide +kernel
theorem dX4_mix_56 : decode cX4_mix 56 = .ok (.getfield 24, 3) := by decide +kernel
theorem dX4_mix_59 : decode cX4_mix 59 = .ok (.iload 8, 2) := by decide +kernel
theorem dX4_mix_61 : decode cX4_mix 61 = .ok (.lconst 0, 1) := by decide +kernel
theorem dX4_mix_62 : decode cX4_mix 62 = .ok (.lastore, 1) := by decide +kernel
theorem dX4_mix_63 : decode cX4_mix 63 = .ok (.iinc 8 1, 3) := by decide +kernel
theorem dX4_mix_66 : decode cX4_mix 66 = .ok (.goto (-25), 3) := by decide +kernel
theorem dX4_mix_69 : decode cX4_mix 69 = .ok (.iconst 0, 1) := by decide +kernel
theorem dX4_mix_70 : decode cX4_mix 70 = .ok (.istore 8, 2) := by decide +kernel
theorem dX4_mix_72 : decode cX4_mix 72 = .ok (.iload 8, 2) := by decide +kernel
theorem dX4_mix_74 : decode cX4_mix 74 = .ok (.aload 5, 2) := by decide +kernel
theorem dX4_mix_76 : decode cX4_mix 76 = .ok (.getfield 61, 3) := by decide +kernel
theorem dX4_mix_79 : decode cX4_mix 79 = .ok (.if_icmp .gt 44, 3) := by decide +kernel
theorem dX4_mix_82 : decode cX4_mix 82 = .ok (.iload_n 3, 1) := by decide +kernel
theorem dX4_mix_83 : decode cX4_mix 83 = .ok (.iload 4, 2) := by decide +kernel
theorem dX4_mix_85 : decode cX4_mix 85 = .ok (.iload 8, 2) := by decide +kernel
theorem dX4_mix_87 : decode cX4_mix 87 = .ok (.imul, 1) := by decide +kernel
theorem dX4_mix_88 : decode cX4_mix 88 = .ok (.iadd, 1) := by decide +kernel
theorem dX4_mix_89 : decode cX4_mix 89 = .ok (.istore 9, 2) := by decide +kernel
theorem dX4_mix_91 : decode cX4_mix 91 = .ok (.aload_n 2, 1) := by decide +kernel
theorem dX4_mix_92 : decode cX4_mix 92 = .ok (.iload 9, 2) := by decide +kernel
theorem dX4_mix_94 : decode cX4_mix 94 = .ok (.invokevirtual 57, 3) := by decide +kernel
theorem dX4_mix_97 : decode cX4_mix 97 = .ok (.ifCond .eq 20, 3) := by decide +kernel
theorem dX4_mix_100 : decode cX4_mix 100 = .ok (.aload_n 0, 1) := by decide +kernel
theorem dX4_mix_101 : decode cX4_mix 101 = .ok (.iload_n 1, 1) := by decide +kernel
theorem dX4_mix_102 : decode cX4_mix 102 = .ok (.aload_n 2, 1) := by decide +kernel
theorem dX4_mix_103 : decode cX4_mix 103 = .ok (.iload 9, 2) := by decide +kernel
theorem dX4_mix_105 : decode cX4_mix 105 = .ok (.aload 5, 2) := by decide +kernel
theorem dX4_mix_107 : decode cX4_mix 107 = .ok (.iload 8, 2) := by decide +kernel
theorem dX4_mix_109 : decode cX4_mix 109 = .ok (.invokevirtual 66, 3) := by decide +kernel
theorem dX4_mix_112 : decode cX4_mix 112 = .ok (.iload 7, 2) := by decide +kernel
theorem dX4_mix_114 : decode cX4_mix 114 = .ok (.invokevirtual 70, 3) := by decide +kernel
theorem dX4_mix_117 : decode cX4_mix 117 = .ok (.iinc 8 1, 3) := by decide +kernel
theorem dX4_mix_120 : decode cX4_mix 120 = .ok (.goto (-48), 3) := by decide +kernel
theorem dX4_mix_123 : decode cX4_mix 123 = .ok (.lconst 0, 1) := by decide +kernel
theorem dX4_mix_124 : decode cX4_mix 124 = .ok (.lstore 8, 2) := by decide +kernel
theorem dX4_mix_126 : decode cX4_mix 126 = .ok (.iload_n 1, 1) := by decide +kernel
theorem dX4_mix_127 : decode cX4_mix 127 = .ok (.aload_n 0, 1) := by decide +kernel
theorem dX4_mix_128 : decode cX4_mix 128 = .ok (.getfield 21, 3) := by decide +kernel
theorem dX4_mix_131 : decode cX4_mix 131 = .ok (.imul, 1) := by decide +kernel
theorem dX4_mix_132 : decode cX4_mix 132 = .ok (.istore 10, 2) := by decide +kernel
theorem dX4_mix_134 : decode cX4_mix 134 = .ok (.iload 10, 2) := by decide +kernel
theorem dX4_mix_136 : decode cX4_mix 136 = .ok (.iload_n 1, 1) := by decide +kernel
theorem dX4_mix_137 : decode cX4_mix 137 = .ok (.aload_n 0, 1) := by decide +kernel
theorem dX4_mix_138 : decode cX4_mix 138 = .ok (.getfield 21, 3) := by decide +kernel
theorem dX4_mix_141 : decode cX4_mix 141 = .ok (.imul, 1) := by decide +kernel
theorem dX4_mix_142 : decode cX4_mix 142 = .ok (.iload 7, 2) := by decide +kernel
theorem dX4_mix_144 : decode cX4_mix 144 = .ok (.iadd, 1) := by decide +kernel
theorem dX4_mix_145 : decode cX4_mix 145 = .ok (.if_icmp .ge 42, 3) := by decide +kernel
theorem dX4_mix_148 : decode cX4_mix 148 = .ok (.lload 8, 2) := by decide +kernel
theorem dX4_mix_150 : decode cX4_mix 150 = .ok (.aload_n 0, 1) := by decide +kernel
theorem dX4_mix_151 : decode cX4_mix 151 = .ok (.getfield 24, 3) := by decide +kernel
theorem dX4_mix_154 : decode cX4_mix 154 = .ok (.iload 10, 2) := by decide +kernel
theorem dX4_mix_156 : decode cX4_mix 156 = .ok (.laload, 1) := by decide +kernel
theorem dX4_mix_157 : decode cX4_mix 157 = .ok (.ladd, 1) := by decide +kernel
theorem dX4_mix_158 : decode cX4_mix 158 = .ok (.lstore 8, 2) := by decide +kernel
theorem dX4_mix_160 : decode cX4_mix 160 = .ok (.aload_n 0, 1) := by decide +kernel
theorem dX4_mix_161 : decode cX4_mix 161 = .ok (.getfield 24, 3) := by decide +kernel
theorem dX4_mix_164 : decode cX4_mix 164 = .ok (.iload 10, 2) := by decide +kernel
theorem dX4_mix_166 : decode cX4_mix 166 = .ok (.lload 8, 2) := by decide +kernel
theorem dX4_mix_168 : decode cX4_mix 168 = .ok (.ldc2_w 48, 3) := by decide +kernel
theorem dX4_mix_171 : decode cX4_mix 171 = .ok (.lrem, 1) := by decide +kernel
theorem dX4_mix_172 : decode cX4_mix 172 = .ok (.lastore, 1) := by decide +kernel
theorem dX4_mix_173 : decode cX4_mix 173 = .ok (.lload 8, 2) := by decide +kernel
theorem dX4_mix_175 : decode cX4_mix 175 = .ok (.ldc2_w 48, 3) := by decide +kernel
theorem dX4_mix_178 : decode cX4_mix 178 = .ok (.ldiv, 1) := by decide +kernel
theorem dX4_mix_179 : decode cX4_mix 179 = .ok (.lstore 8, 2) := by decide +kernel
theorem dX4_mix_181 : decode cX4_mix 181 = .ok (.iinc 10 1, 3) := by decide +kernel
theorem dX4_mix_184 : decode cX4_mix 184 = .ok (.goto (-50), 3) := by decide +kernel
theorem dX4_mix_187 : decode cX4_mix 187 = .ok (.return_, 1) := by decide +kernel
theorem dX4_gather_0 : decode cX4_gather 0 = .ok (.lload 4, 2) := by decide +kernel
theorem dX4_gather_2 : decode cX4_gather 2 = .ok (.lconst 0, 1) := by decide +kernel
theorem dX4_gather_3 : decode cX4_gather 3 = .ok (.lcmp, 1) := by decide +kernel
theorem dX4_gather_4 : decode cX4_gather 4 = .ok (.ifCond .ne 4, 3) := by decide +kernel
theorem dX4_gather_7 : decode cX4_gather 7 = .ok (.return_, 1) := by decide +kernel
theorem dX4_gather_8 : decode cX4_gather 8 = .ok (.iload_n 1, 1) := by decide +kernel
theorem dX4_gather_9 : decode cX4_gather 9 = .ok (.aload_n 0, 1) := by decide +kernel
theorem dX4_gather_10 : decode cX4_gather 10 = .ok (.getfield 21, 3) := by decide +kernel
theorem dX4_gather_13 : decode cX4_gather 13 = .ok (.imul, 1) := by decide +kernel
theorem dX4_gather_14 : decode cX4_gather 14 = .ok (.istore 7, 2) := by decide +kernel
theorem dX4_gather_16 : decode cX4_gather 16 = .ok (.iload_n 3, 1) := by decide +kernel
theorem dX4_gather_17 : decode cX4_gather 17 = .ok (.aload_n 2, 1) := by decide +kernel
theorem dX4_gather_18 : decode cX4_gather 18 = .ok (.getfield 21, 3) := by decide +kernel
theorem dX4_gather_21 : decode cX4_gather 21 = .ok (.imul, 1) := by decide +kernel
theorem dX4_gather_22 : decode cX4_gather 22 = .ok (.istore 8, 2) := by decide +kernel
theorem dX4_gather_24 : decode cX4_gather 24 = .ok (.iconst 0, 1) := by decide +kernel
theorem dX4_gather_25 : decode cX4_gather 25 = .ok (.istore 9, 2) := by decide +kernel
theorem dX4_gather_27 : decode cX4_gather 27 = .ok (.iload 9, 2) := by decide +kernel
theorem dX4_gather_29 : decode cX4_gather 29 = .ok (.iload 6, 2) := by decide +kernel
theorem dX4_gather_31 : decode cX4_gather 31 = .ok (.if_icmp .ge 35, 3) := by decide +kernel
theorem dX4_gather_34 : decode cX4_gather 34 = .ok (.aload_n 0, 1) := by decide +kernel
theorem dX4_gather_35 : decode cX4_gather 35 = .ok (.getfield 24, 3) := by decide +kernel
theorem dX4_gather_38 : decode cX4_gather 38 = .ok (.iload 7, 2) := by decide +kernel
theorem dX4_gather_40 : decode cX4_gather 40 = .ok (.iload 9, 2) := by decide +kernel
theorem dX4_gather_42 : decode cX4_gather 42 = .ok (.iadd, 1) := by decide +kernel
theorem dX4_gather_43 : decode cX4_gather 43 = .ok (.dup2, 1) := by decide +kernel
theorem dX4_gather_44 : decode cX4_gather 44 = .ok (.laload, 1) := by decide +kernel
theorem dX4_gather_45 : decode cX4_gather 45 = .ok (.lload 4, 2) := by decide +kernel
theorem dX4_gather_47 : decode cX4_gather 47 = .ok (.aload_n 2, 1) := by decide +kernel
theorem dX4_gather_48 : decode cX4_gather 48 = .ok (.getfield 24, 3) := by decide +kernel
theorem dX4_gather_51 : decode cX4_gather 51 = .ok (.iload 8, 2) := by decide +kernel
theorem dX4_gather_53 : decode cX4_gather 53 = .ok (.iload 9, 2) := by decide +kernel
theorem dX4_gather_55 : decode cX4_gather 55 = .ok (.iadd, 1) := by decide +kernel
theorem dX4_gather_56 : decode cX4_gather 56 = .ok (.laload, 1) := by decide +kernel
theorem dX4_gather_57 : decode cX4_gather 57 = .ok (.lmul, 1) := by decide +kernel
theorem dX4_gather_58 : decode cX4_gather 58 = .ok (.ladd, 1) := by decide +kernel
theorem dX4_gather_59 : decode cX4_gather 59 = .ok (.lastore, 1) := by decide +kernel
theorem dX4_gather_60 : decode cX4_gather 60 = .ok (.iinc 9 1, 3) := by decide +kernel
theorem dX4_gather_63 : decode cX4_gather 63 = .ok (.goto (-36), 3) := by decide +kernel
theorem dX4_gather_66 : decode cX4_gather 66 = .ok (.return_, 1) := by decide +kernel
theorem dX4_order_0 : decode cX4_order 0 = .ok (.aload_n 0, 1) := by decide +kernel
theorem dX4_order_1 : decode cX4_order 1 = .ok (.getfield 21, 3) := by decide +kernel
theorem dX4_order_4 : decode cX4_order 4 = .ok (.aload_n 2, 1) := by decide +kernel
theorem dX4_order_5 : decode cX4_order 5 = .ok (.getfield 21, 3) := by decide +kernel
theorem dX4_order_8 : decode cX4_order 8 = .ok (.invokestatic 9, 3) := by decide +kernel
theorem dX4_order_11 : decode cX4_order 11 = .ok (.iconst 1, 1) := by decide +kernel
theorem dX4_order_12 : decode cX4_order 12 = .ok (.isub, 1) := by decide +kernel
theorem dX4_order_13 : decode cX4_order 13 = .ok (.istore 4, 2) := by decide +kernel
theorem dX4_order_15 : decode cX4_order 15 = .ok (.iload 4, 2) := by decide +kernel
theorem dX4_order_17 : decode cX4_order 17 = .ok (.ifCond .lt 36, 3) := by decide +kernel
theorem dX4_order_20 : decode cX4_order 20 = .ok (.aload_n 0, 1) := by decide +kernel
theorem dX4_order_21 : decode cX4_order 21 = .ok (.iload_n 1, 1) := by decide +kernel
theorem dX4_order_22 : decode cX4_order 22 = .ok (.iload 4, 2) := by decide +kernel
theorem dX4_order_24 : decode cX4_order 24 = .ok (.invokevirtual 44, 3) := by decide +kernel
theorem dX4_order_27 : decode cX4_order 27 = .ok (.aload_n 2, 1) := by decide +kernel
theorem dX4_order_28 : decode cX4_order 28 = .ok (.iload_n 3, 1) := by decide +kernel
theorem dX4_order_29 : decode cX4_order 29 = .ok (.iload 4, 2) := by decide +kernel
theorem dX4_order_31 : decode cX4_order 31 = .ok (.invokevirtual 44, 3) := by decide +kernel
theorem dX4_order_34 : decode cX4_order 34 = .ok (.invokestatic 74, 3) := by decide +kernel
theorem dX4_order_37 : decode cX4_order 37 = .ok (.istore 5, 2) := by decide +kernel
theorem dX4_order_39 : decode cX4_order 39 = .ok (.iload 5, 2) := by decide +kernel
theorem dX4_order_41 : decode cX4_order 41 = .ok (.ifCond .eq 6, 3) := by decide +kernel
theorem dX4_order_44 : decode cX4_order 44 = .ok (.iload 5, 2) := by decide +kernel
theorem dX4_order_46 : decode cX4_order 46 = .ok (.ireturn, 1) := by decide +kernel
theorem dX4_order_47 : decode cX4_order 47 = .ok (.iinc 4 (-1), 3) := by decide +kernel
theorem dX4_order_50 : decode cX4_order 50 = .ok (.goto (-35), 3) := by decide +kernel
theorem dX4_order_53 : decode cX4_order 53 = .ok (.iconst 0, 1) := by decide +kernel
theorem dX4_order_54 : decode cX4_order 54 = .ok (.ireturn, 1) := by decide +kernel
theorem dX4_figure_0 : decode cX4_figure 0 = .ok (.iload_n 2, 1) := by decide +kernel
theorem dX4_figure_1 : decode cX4_figure 1 = .ok (.ifCond .ge 5, 3) := by decide +kernel
theorem dX4_figure_4 : decode cX4_figure 4 = .ok (.iconst 0, 1) := by decide +kernel
theorem dX4_figure_5 : decode cX4_figure 5 = .ok (.ireturn, 1) := by decide +kernel
theorem dX4_figure_6 : decode cX4_figure 6 = .ok (.aload_n 0, 1) := by decide +kernel
theorem dX4_figure_7 : decode cX4_figure 7 = .ok (.iload_n 1, 1) := by decide +kernel
theorem dX4_figure_8 : decode cX4_figure 8 = .ok (.iload_n 2, 1) := by decide +kernel
theorem dX4_figure_9 : decode cX4_figure 9 = .ok (.bipush 12, 2) := by decide +kernel
theorem dX4_figure_11 : decode cX4_figure 11 = .ok (.idiv, 1) := by decide +kernel
theorem dX4_figure_12 : decode cX4_figure 12 = .ok (.invokevirtual 44, 3) := by decide +kernel
theorem dX4_figure_15 : decode cX4_figure 15 = .ok (.lstore_n 3, 1) := by decide +kernel
theorem dX4_figure_16 : decode cX4_figure 16 = .ok (.iload_n 2, 1) := by decide +kernel
theorem dX4_figure_17 : decode cX4_figure 17 = .ok (.bipush 12, 2) := by decide +kernel
theorem dX4_figure_19 : decode cX4_figure 19 = .ok (.irem, 1) := by decide +kernel
theorem dX4_figure_20 : decode cX4_figure 20 = .ok (.istore 5, 2) := by decide +kernel
theorem dX4_figure_22 : decode cX4_figure 22 = .ok (.iload 5, 2) := by decide +kernel
theorem dX4_figure_24 : decode cX4_figure 24 = .ok (.ifCond .le 15, 3) := by decide +kernel
theorem dX4_figure_27 : decode cX4_figure 27 = .ok (.lload_n 3, 1) := by decide +kernel
theorem dX4_figure_28 : decode cX4_figure 28 = .ok (.ldc2_w 80, 3) := by decide +kernel
theorem dX4_figure_31 : decode cX4_figure 31 = .ok (.ldiv, 1) := by decide +kernel
theorem dX4_figure_32 : decode cX4_figure 32 = .ok (.lstore_n 3, 1) := by decide +kernel
theorem dX4_figure_33 : decode cX4_figure 33 = .ok (.iinc 5 (-1), 3) := by decide +kernel
theorem dX4_figure_36 : decode cX4_figure 36 = .ok (.goto (-14), 3) := by decide +kernel
theorem dX4_figure_39 : decode cX4_figure 39 = .ok (.lload_n 3, 1) := by decide +kernel
theorem dX4_figure_40 : decode cX4_figure 40 = .ok (.ldc2_w 80, 3) := by decide +kernel
theorem dX4_figure_43 : decode cX4_figure 43 = .ok (.lrem, 1) := by decide +kernel
theorem dX4_figure_44 : decode cX4_figure 44 = .ok (.l2i, 1) := by decide +kernel
theorem dX4_figure_45 : decode cX4_figure 45 = .ok (.ireturn, 1) := by decide +kernel
theorem dX4_read_0 : decode cX4_read 0 = .ok (.aload_n 0, 1) := by decide +kernel
theorem dX4_read_1 : decode cX4_read 1 = .ok (.iload_n 1, 1) := by decide +kernel
theorem dX4_read_2 : decode cX4_read 2 = .ok (.invokevirtual 57, 3) := by decide +kernel
theorem dX4_read_5 : decode cX4_read 5 = .ok (.ifCond .eq 31, 3) := by decide +kernel
theorem dX4_read_8 : decode cX4_read 8 = .ok (.iload_n 2, 1) := by decide +kernel
theorem dX4_read_9 : decode cX4_read 9 = .ok (.ifCond .lt 27, 3) := by decide +kernel
theorem dX4_read_12 : decode cX4_read 12 = .ok (.iload_n 2, 1) := by decide +kernel
theorem dX4_read_13 : decode cX4_read 13 = .ok (.aload_n 0, 1) := by decide +kernel
theorem dX4_read_14 : decode cX4_read 14 = .ok (.getfield 21, 3) := by decide +kernel
theorem dX4_read_17 : decode cX4_read 17 = .ok (.if_icmp .ge 19, 3) := by decide +kernel
theorem dX4_read_20 : decode cX4_read 20 = .ok (.aload_n 0, 1) := by decide +kernel
theorem dX4_read_21 : decode cX4_read 21 = .ok (.getfield 24, 3) := by decide +kernel
theorem dX4_read_24 : decode cX4_read 24 = .ok (.iload_n 1, 1) := by decide +kernel
theorem dX4_read_25 : decode cX4_read 25 = .ok (.aload_n 0, 1) := by decide +kernel
theorem dX4_read_26 : decode cX4_read 26 = .ok (.getfield 21, 3) := by decide +kernel
theorem dX4_read_29 : decode cX4_read 29 = .ok (.imul, 1) := by decide +kernel
theorem dX4_read_30 : decode cX4_read 30 = .ok (.iload_n 2, 1) := by decide +kernel
theorem dX4_read_31 : decode cX4_read 31 = .ok (.iadd, 1) := by decide +kernel
theorem dX4_read_32 : decode cX4_read 32 = .ok (.laload, 1) := by decide +kernel
theorem dX4_read_33 : decode cX4_read 33 = .ok (.goto 4, 3) := by decide +kernel
theorem dX4_read_36 : decode cX4_read 36 = .ok (.lconst 0, 1) := by decide +kernel
theorem dX4_read_37 : decode cX4_read 37 = .ok (.lreturn, 1) := by decide +kernel
theorem dX4_write_0 : decode cX4_write 0 = .ok (.aload_n 0, 1) := by decide +kernel
theorem dX4_write_1 : decode cX4_write 1 = .ok (.iload_n 1, 1) := by decide +kernel
theorem dX4_write_2 : decode cX4_write 2 = .ok (.invokevirtual 57, 3) := by decide +kernel
theorem dX4_write_5 : decode cX4_write 5 = .ok (.ifCond .eq 29, 3) := by decide +kernel
theorem dX4_write_8 : decode cX4_write 8 = .ok (.iload_n 2, 1) := by decide +kernel
theorem dX4_write_9 : decode cX4_write 9 = .ok (.ifCond .lt 25, 3) := by decide +kernel
theorem dX4_write_12 : decode cX4_write 12 = .ok (.iload_n 2, 1) := by decide +kernel
theorem dX4_write_13 : decode cX4_write 13 = .ok (.aload_n 0, 1) := by decide +kernel
theorem dX4_write_14 : decode cX4_write 14 = .ok (.getfield 21, 3) := by decide +kernel
theorem dX4_write_17 : decode cX4_write 17 = .ok (.if_icmp .ge 17, 3) := by decide +kernel
theorem dX4_write_20 : decode cX4_write 20 = .ok (.aload_n 0, 1) := by decide +kernel
theorem dX4_write_21 : decode cX4_write 21 = .ok (.getfield 24, 3) := by decide +kernel
theorem dX4_write_24 : decode cX4_write 24 = .ok (.iload_n 1, 1) := by decide +kernel
theorem dX4_write_25 : decode cX4_write 25 = .ok (.aload_n 0, 1) := by decide +kernel
theorem dX4_write_26 : decode cX4_write 26 = .ok (.getfield 21, 3) := by decide +kernel
theorem dX4_write_29 : decode cX4_write 29 = .ok (.imul, 1) := by decide +kernel
theorem dX4_write_30 : decode cX4_write 30 = .ok (.iload_n 2, 1) := by decide +kernel
theorem dX4_write_31 : decode cX4_write 31 = .ok (.iadd, 1) := by decide +kernel
theorem dX4_write_32 : decode cX4_write 32 = .ok (.lload_n 3, 1) := by decide +kernel
theorem dX4_write_33 : decode cX4_write 33 = .ok (.lastore, 1) := by decide +kernel
theorem dX4_write_34 : decode cX4_write 34 = .ok (.return_, 1) := by decide +kernel
theorem dX5_init_0 : decode cX5_init 0 = .ok (.aload_n 0, 1) := by decide +kernel
theorem dX5_init_1 : decode cX5_init 1 = .ok (.invokespecial 3, 3) := by decide +kernel
theorem dX5_init_4 : decode cX5_init 4 = .ok (.aload_n 0, 1) := by decide +kernel
theorem dX5_init_5 : decode cX5_init 5 = .ok (.new 9, 3) := by decide +kernel
theorem dX5_init_8 : decode cX5_init 8 = .ok (.dup, 1) := by decide +kernel
theorem dX5_init_9 : decode cX5_init 9 = .ok (.invokespecial 11, 3) := by decide +kernel
theorem dX5_init_12 : decode cX5_init 12 = .ok (.putfield 12, 3) := by decide +kernel
theorem dX5_init_15 : decode cX5_init 15 = .ok (.aload_n 0, 1) := by decide +kernel
theorem dX5_init_16 : decode cX5_init 16 = .ok (.new 18, 3) := by decide +kernel
theorem dX5_init_19 : decode cX5_init 19 = .ok (.dup, 1) := by decide +kernel
theorem dX5_init_20 : decode cX5_init 20 = .ok (.iconst 1, 1) := by decide +kernel
theorem dX5_init_21 : decode cX5_init 21 = .ok (.bipush 11, 2) := by decide +kernel
theorem dX5_init_23 : decode cX5_init 23 = .ok (.invokespecial 20, 3) := by decide +kernel
theorem dX5_init_26 : decode cX5_init 26 = .ok (.putfield 23, 3) := by decide +kernel
theorem dX5_init_29 : decode cX5_init 29 = .ok (.aload_n 0, 1) := by decide +kernel
theorem dX5_init_30 : decode cX5_init 30 = .ok (.new 18, 3) := by decide +kernel
theorem dX5_init_33 : decode cX5_init 33 = .ok (.dup, 1) := by decide +kernel
theorem dX5_init_34 : decode cX5_init 34 = .ok (.iconst 1, 1) := by decide +kernel
theorem dX5_init_35 : decode cX5_init 35 = .ok (.bipush 11, 2) := by decide +kernel
theorem dX5_init_37 : decode cX5_init 37 = .ok (.invokespecial 20, 3) := by decide +kernel
theorem dX5_init_40 : decode cX5_init 40 = .ok (.putfield 27, 3) := by decide +kernel
theorem dX5_init_43 : decode cX5_init 43 = .ok (.aload_n 0, 1) := by decide +kernel
theorem dX5_init_44 : decode cX5_init 44 = .ok (.new 18, 3) := by decide +kernel
theorem dX5_init_47 : decode cX5_init 47 = .ok (.dup, 1) := by decide +kernel
theorem dX5_init_48 : decode cX5_init 48 = .ok (.sipush 256, 3) := by decide +kernel
theorem dX5_init_51 : decode cX5_init 51 = .ok (.bipush 11, 2) := by decide +kernel
theorem dX5_init_53 : decode cX5_init 53 = .ok (.invokespecial 20, 3) := by decide +kernel
theorem dX5_init_56 : decode cX5_init 56 = .ok (.putfield 30, 3) := by decide +kernel
theorem dX5_init_59 : decode cX5_init 59 = .ok (.aload_n 0, 1) := by decide +kernel
theorem dX5_init_60 : decode cX5_init 60 = .ok (.new 18, 3) := by decide +kernel
theorem dX5_init_63 : decode cX5_init 63 = .ok (.dup, 1) := by decide +kernel
theorem dX5_init_64 : decode cX5_init 64 = .ok (.sipush 256, 3) := by decide +kernel
theorem dX5_init_67 : decode cX5_init 67 = .ok (.bipush 11, 2) := by decide +kernel
theorem dX5_init_69 : decode cX5_init 69 = .ok (.invokespecial 20, 3) := by decide +kernel
theorem dX5_init_72 : decode cX5_init 72 = .ok (.putfield 33, 3) := by decide +kernel
theorem dX5_init_75 : decode cX5_init 75 = .ok (.aload_n 0, 1) := by decide +kernel
theorem dX5_init_76 : decode cX5_init 76 = .ok (.iconst 0, 1) := by decide +kernel
theorem dX5_init_77 : decode cX5_init 77 = .ok (.putfield 36, 3) := by decide +kernel
theorem dX5_init_80 : decode cX5_init 80 = .ok (.aload_n 0, 1) := by decide +kernel
theorem dX5_init_81 : decode cX5_init 81 = .ok (.iconst 0, 1) := by decide +kernel
theorem dX5_init_82 : decode cX5_init 82 = .ok (.putfield 40, 3) := by decide +kernel
theorem dX5_init_85 : decode cX5_init 85 = .ok (.aload_n 0, 1) := by decide +kernel
theorem dX5_init_86 : decode cX5_init 86 = .ok (.iconst 0, 1) := by decide +kernel
theorem dX5_init_87 : decode cX5_init 87 = .ok (.putfield 43, 3) := by decide +kernel
theorem dX5_init_90 : decode cX5_init 90 = .ok (.aload_n 0, 1) := by decide +kernel
theorem dX5_init_91 : decode cX5_init 91 = .ok (.iconst 0, 1) := by decide +kernel
theorem dX5_init_92 : decode cX5_init 92 = .ok (.putfield 46, 3) := by decide +kernel
theorem dX5_init_95 : decode cX5_init 95 = .ok (.return_, 1) := by decide +kernel
theorem dX5_begin_0 : decode cX5_begin 0 = .ok (.aload_n 0, 1) := by decide +kernel
theorem dX5_begin_1 : decode cX5_begin 1 = .ok (.iload_n 2, 1) := by decide +kernel
theorem dX5_begin_2 : decode cX5_begin 2 = .ok (.putfield 36, 3) := by decide +kernel
theorem dX5_begin_5 : decode cX5_begin 5 = .ok (.aload_n 0, 1) := by decide +kernel
theorem dX5_begin_6 : decode cX5_begin 6 = .ok (.iload_n 3, 1) := by decide +kernel
theorem dX5_begin_7 : decode cX5_begin 7 = .ok (.putfield 40, 3) := by decide +kernel
theorem dX5_begin_10 : decode cX5_begin 10 = .ok (.aload_n 0, 1) := by decide +kernel
theorem dX5_begin_11 : decode cX5_begin 11 = .ok (.iload_n 1, 1) := by decide +kernel
theorem dX5_begin_12 : decode cX5_begin 12 = .ok (.putfield 43, 3) := by decide +kernel
theorem dX5_begin_15 : decode cX5_begin 15 = .ok (.aload_n 0, 1) := by decide +kernel
theorem dX5_begin_16 : decode cX5_begin 16 = .ok (.iload 5, 2) := by decide +kernel
theorem dX5_begin_18 : decode cX5_begin 18 = .ok (.putfield 46, 3) := by decide +kernel
theorem dX5_begin_21 : decode cX5_begin 21 = .ok (.aload_n 0, 1) := by decide +kernel
theorem dX5_begin_22 : decode cX5_begin 22 = .ok (.getfield 23, 3) := by decide +kernel
theorem dX5_begin_25 : decode cX5_begin 25 = .ok (.invokevirtual 49, 3) := by decide +kernel
theorem dX5_begin_28 : decode cX5_begin 28 = .ok (.aload_n 0, 1) := by decide +kernel
theorem dX5_begin_29 : decode cX5_begin 29 = .ok (.getfield 30, 3) := by decide +kernel
theorem dX5_begin_32 : decode cX5_begin 32 = .ok (.invokevirtual 49, 3) := by decide +kernel
theorem dX5_begin_35 : decode cX5_begin 35 = .ok (.aload_n 0, 1) := by decide +kernel
theorem dX5_begin_36 : decode cX5_begin 36 = .ok (.getfield 33, 3) := by decide +kernel
theorem dX5_begin_39 : decode cX5_begin 39 = .ok (.invokevirtual 49, 3) := by decide +kernel
theorem dX5_begin_42 : decode cX5_begin 42 = .ok (.aload_n 0, 1) := by decide +kernel
theorem dX5_begin_43 : decode cX5_begin 43 = .ok (.getfield 30, 3) := by decide +kernel
theorem dX5_begin_46 : decode cX5_begin 46 = .ok (.aload_n 0, 1) := by decide +kernel
theorem dX5_begin_47 : decode cX5_begin 47 = .ok (.invokevirtual 52, 3) := by decide +kernel
theorem dX5_begin_50 : decode cX5_begin 50 = .ok (.invokevirtual 56, 3) := by decide +kernel
theorem dX5_begin_53 : decode cX5_begin 53 = .ok (.aload_n 0, 1) := by decide +kernel
theorem dX5_begin_54 : decode cX5_begin 54 = .ok (.getfield 30, 3) := by decide +kernel
theorem dX5_begin_57 : decode cX5_begin 57 = .ok (.iload_n 1, 1) := by decide +kernel
theorem dX5_begin_58 : decode cX5_begin 58 = .ok (.aload 4, 2) := by decide +kernel
theorem dX5_begin_60 : decode cX5_begin 60 = .ok (.iconst 0, 1) := by decide +kernel
theorem dX5_begin_61 : decode cX5_begin 61 = .ok (.invokevirtual 60, 3) := by decide +kernel
theorem dX5_begin_64 : decode cX5_begin 64 = .ok (.return_, 1) := by decide +kernel
theorem dX5_fall_0 : decode cX5_fall 0 = .ok (.aload_n 0, 1) := by decide +kernel
theorem dX5_fall_1 : decode cX5_fall 1 = .ok (.getfield 23, 3) := by decide +kernel
theorem dX5_fall_4 : decode cX5_fall 4 = .ok (.iconst 0, 1) := by decide +kernel
theorem dX5_fall_5 : decode cX5_fall 5 = .ok (.aload_n 0, 1) := by decide +kernel
theorem dX5_fall_6 : decode cX5_fall 6 = .ok (.getfield 30, 3) := by decide +kernel
theorem dX5_fall_9 : decode cX5_fall 9 = .ok (.iload_n 1, 1) := by decide +kernel
theorem dX5_fall_10 : decode cX5_fall 10 = .ok (.ineg, 1) := by decide +kernel
theorem dX5_fall_11 : decode cX5_fall 11 = .ok (.aload_n 0, 1) := by decide +kernel
theorem dX5_fall_12 : decode cX5_fall 12 = .ok (.getfield 36, 3) := by decide +kernel
theorem dX5_fall_15 : decode cX5_fall 15 = .ok (.isub, 1) := by decide +kernel
theorem dX5_fall_16 : decode cX5_fall 16 = .ok (.iconst 1, 1) := by decide +kernel
theorem dX5_fall_17 : decode cX5_fall 17 = .ok (.aload_n 0, 1) := by decide +kernel
theorem dX5_fall_18 : decode cX5_fall 18 = .ok (.getfield 12, 3) := by decide +kernel
theorem dX5_fall_21 : decode cX5_fall 21 = .ok (.aload_n 0, 1) := by decide +kernel
theorem dX5_fall_22 : decode cX5_fall 22 = .ok (.invokevirtual 64, 3) := by decide +kernel
theorem dX5_fall_25 : decode cX5_fall 25 = .ok (.invokevirtual 67, 3) := by decide +kernel
theorem dX5_fall_28 : decode cX5_fall 28 = .ok (.return_, 1) := by decide +kernel
theorem dX5_tick_0 : decode cX5_tick 0 = .ok (.aload_n 0, 1) := by decide +kernel
theorem dX5_tick_1 : decode cX5_tick 1 = .ok (.invokevirtual 64, 3) := by decide +kernel
theorem dX5_tick_4 : decode cX5_tick 4 = .ok (.istore_n 1, 1) := by decide +kernel
theorem dX5_tick_5 : decode cX5_tick 5 = .ok (.aload_n 0, 1) := by decide +kernel
theorem dX5_tick_6 : decode cX5_tick 6 = .ok (.dup, 1) := by decide +kernel
theorem dX5_tick_7 : decode cX5_tick 7 = .ok (.getfield 40, 3) := by decide +kernel
theorem dX5_tick_10 : decode cX5_tick 10 = .ok (.iconst 1, 1) := by decide +kernel
theorem dX5_tick_11 : decode cX5_tick 11 = .ok (.isub, 1) := by decide +kernel
theorem dX5_tick_12 : decode cX5_tick 12 = .ok (.putfield 40, 3) := by decide +kernel
theorem dX5_tick_15 : decode cX5_tick 15 = .ok (.aload_n 0, 1) := by decide +kernel
theorem dX5_tick_16 : decode cX5_tick 16 = .ok (.dup, 1) := by decide +kernel
theorem dX5_tick_17 : decode cX5_tick 17 = .ok (.getfield 43, 3) := by decide +kernel
theorem dX5_tick_20 : decode cX5_tick 20 = .ok (.aload_n 0, 1) := by decide +kernel
theorem dX5_tick_21 : decode cX5_tick 21 = .ok (.getfield 36, 3) := by decide +kernel
theorem dX5_tick_24 : decode cX5_tick 24 = .ok (.iadd, 1) := by decide +kernel
theorem dX5_tick_25 : decode cX5_tick 25 = .ok (.putfield 43, 3) := by decide +kernel
theorem dX5_tick_28 : decode cX5_tick 28 = .ok (.aload_n 0, 1) := by decide +kernel
theorem dX5_tick_29 : decode cX5_tick 29 = .ok (.getfield 33, 3) := by decide +kernel
theorem dX5_tick_32 : decode cX5_tick 32 = .ok (.aload_n 0, 1) := by decide +kernel
theorem dX5_tick_33 : decode cX5_tick 33 = .ok (.invokevirtual 52, 3) := by decide +kernel
theorem dX5_tick_36 : decode cX5_tick 36 = .ok (.invokevirtual 56, 3) := by decide +kernel
theorem dX5_tick_39 : decode cX5_tick 39 = .ok (.iconst 0, 1) := by decide +kernel
theorem dX5_tick_40 : decode cX5_tick 40 = .ok (.istore_n 2, 1) := by decide +kernel
theorem dX5_tick_41 : decode cX5_tick 41 = .ok (.iload_n 2, 1) := by decide +kernel
theorem dX5_tick_42 : decode cX5_tick 42 = .ok (.aload_n 0, 1) := by decide +kernel
theorem dX5_tick_43 : decode cX5_tick 43 = .ok (.getfield 33, 3) := by decide +kernel
theorem dX5_tick_46 : decode cX5_tick 46 = .ok (.getfield 71, 3) := by decide +kernel
theorem dX5_tick_49 : decode cX5_tick 49 = .ok (.if_icmp .ge 33, 3) := by decide +kernel
theorem dX5_tick_52 : decode cX5_tick 52 = .ok (.aload_n 0, 1) := by decide +kernel
theorem dX5_tick_53 : decode cX5_tick 53 = .ok (.getfield 33, 3) := by decide +kernel
theorem dX5_tick_56 : decode cX5_tick 56 = .ok (.iload_n 2, 1) := by decide +kernel
theorem dX5_tick_57 : decode cX5_tick 57 = .ok (.aload_n 0, 1) := by decide +kernel
theorem dX5_tick_58 : decode cX5_tick 58 = .ok (.getfield 30, 3) := by decide +kernel
theorem dX5_tick_61 : decode cX5_tick 61 = .ok (.iload_n 2, 1) := by decide +kernel
theorem dX5_tick_62 : decode cX5_tick 62 = .ok (.aload_n 0, 1) := by decide +kernel
theorem dX5_tick_63 : decode cX5_tick 63 = .ok (.getfield 36, 3) := by decide +kernel
theorem dX5_tick_66 : decode cX5_tick 66 = .ok (.isub, 1) := by decide +kernel
theorem dX5_tick_67 : decode cX5_tick 67 = .ok (.iconst 1, 1) := by decide +kernel
theorem dX5_tick_68 : decode cX5_tick 68 = .ok (.aload_n 0, 1) := by decide +kernel
theorem dX5_tick_69 : decode cX5_tick 69 = .ok (.getfield 12, 3) := by decide +kernel
theorem dX5_tick_72 : decode cX5_tick 72 = .ok (.iload_n 1, 1) := by decide +kernel
theorem dX5_tick_73 : decode cX5_tick 73 = .ok (.invokevirtual 67, 3) := by decide +kernel
theorem dX5_tick_76 : decode cX5_tick 76 = .ok (.iinc 2 1, 3) := by decide +kernel
theorem dX5_tick_79 : decode cX5_tick 79 = .ok (.goto (-38), 3) := by decide +kernel
theorem dX5_tick_82 : decode cX5_tick 82 = .ok (.aload_n 0, 1) := by decide +kernel
theorem dX5_tick_83 : decode cX5_tick 83 = .ok (.dup, 1) := by decide +kernel
theorem dX5_tick_84 : decode cX5_tick 84 = .ok (.getfield 46, 3) := by decide +kernel
theorem dX5_tick_87 : decode cX5_tick 87 = .ok (.aload_n 0, 1) := by decide +kernel
theorem dX5_tick_88 : decode cX5_tick 88 = .ok (.getfield 12, 3) := by decide +kernel
theorem dX5_tick_91 : decode cX5_tick 91 = .ok (.getfield 74, 3) := by decide +kernel
theorem dX5_tick_94 : decode cX5_tick 94 = .ok (.iadd, 1) := by decide +kernel
theorem dX5_tick_95 : decode cX5_tick 95 = .ok (.putfield 46, 3) := by decide +kernel
theorem dX5_tick_98 : decode cX5_tick 98 = .ok (.aload_n 0, 1) := by decide +kernel
theorem dX5_tick_99 : decode cX5_tick 99 = .ok (.getfield 30, 3) := by decide +kernel
theorem dX5_tick_102 : decode cX5_tick 102 = .ok (.astore_n 2, 1) := by decide +kernel
theorem dX5_tick_103 : decode cX5_tick 103 = .ok (.aload_n 0, 1) := by decide +kernel
theorem dX5_tick_104 : decode cX5_tick 104 = .ok (.aload_n 0, 1) := by decide +kernel
theorem dX5_tick_105 : decode cX5_tick 105 = .ok (.getfield 33, 3) := by decide +kernel
theorem dX5_tick_108 : decode cX5_tick 108 = .ok (.putfield 30, 3) := by decide +kernel
theorem dX5_tick_111 : decode cX5_tick 111 = .ok (.aload_n 0, 1) := by decide +kernel
theorem dX5_tick_112 : decode cX5_tick 112 = .ok (.aload_n 2, 1) := by decide +kernel
theorem dX5_tick_113 : decode cX5_tick 113 = .ok (.putfield 33, 3) := by decide +kernel
theorem dX5_tick_116 : decode cX5_tick 116 = .ok (.return_, 1) := by decide +kernel
theorem dX5_sumUp_0 : decode cX5_sumUp 0 = .ok (.aload_n 0, 1) := by decide +kernel
theorem dX5_sumUp_1 : decode cX5_sumUp 1 = .ok (.getfield 27, 3) := by decide +kernel
theorem dX5_sumUp_4 : decode cX5_sumUp 4 = .ok (.invokevirtual 49, 3) := by decide +kernel
theorem dX5_sumUp_7 : decode cX5_sumUp 7 = .ok (.aload_n 0, 1) := by decide +kernel
theorem dX5_sumUp_8 : decode cX5_sumUp 8 = .ok (.getfield 40, 3) := by decide +kernel
theorem dX5_sumUp_11 : decode cX5_sumUp 11 = .ok (.istore_n 1, 1) := by decide +kernel
theorem dX5_sumUp_12 : decode cX5_sumUp 12 = .ok (.iconst 0, 1) := by decide +kernel
theorem dX5_sumUp_13 : decode cX5_sumUp 13 = .ok (.istore_n 2, 1) := by decide +kernel
theorem dX5_sumUp_14 : decode cX5_sumUp 14 = .ok (.iload_n 2, 1) := by decide +kernel
theorem dX5_sumUp_15 : decode cX5_sumUp 15 = .ok (.iload_n 1, 1) := by decide +kernel
theorem dX5_sumUp_16 : decode cX5_sumUp 16 = .ok (.if_icmp .ge 73, 3) := by decide +kernel
theorem dX5_sumUp_19 : decode cX5_sumUp 19 = .ok (.aload_n 0, 1) := by decide +kernel
theorem dX5_sumUp_20 : decode cX5_sumUp 20 = .ok (.getfield 27, 3) := by decide +kernel
theorem dX5_sumUp_23 : decode cX5_sumUp 23 = .ok (.iconst 0, 1) := by decide +kernel
theorem dX5_sumUp_24 : decode cX5_sumUp 24 = .ok (.aload_n 0, 1) := by decide +kernel
theorem dX5_sumUp_25 : decode cX5_sumUp 25 = .ok (.getfield 12, 3) := by decide +kernel
theorem dX5_sumUp_28 : decode cX5_sumUp 28 = .ok (.getfield 75, 3) := by decide +kernel
theorem dX5_sumUp_31 : decode cX5_sumUp 31 = .ok (.lconst 0, 1) := by decide +kernel
theorem dX5_sumUp_32 : decode cX5_sumUp 32 = .ok (.invokevirtual 79, 3) := by decide +kernel
theorem dX5_sumUp_35 : decode cX5_sumUp 35 = .ok (.iconst 1, 1) := by decide +kernel
theorem dX5_sumUp_36 : decode cX5_sumUp 36 = .ok (.istore_n 3, 1) := by decide +kernel
theorem dX5_sumUp_37 : decode cX5_sumUp 37 = .ok (.iload_n 3, 1) := by decide +kernel
theorem dX5_sumUp_38 : decode cX5_sumUp 38 = .ok (.aload_n 0, 1) := by decide +kernel
theorem dX5_sumUp_39 : decode cX5_sumUp 39 = .ok (.getfield 12, 3) := by decide +kernel
theorem dX5_sumUp_42 : decode cX5_sumUp 42 = .ok (.getfield 83, 3) := by decide +kernel
theorem dX5_sumUp_45 : decode cX5_sumUp 45 = .ok (.aload_n 0, 1) := by decide +kernel
theorem dX5_sumUp_46 : decode cX5_sumUp 46 = .ok (.getfield 36, 3) := by decide +kernel
theorem dX5_sumUp_49 : decode cX5_sumUp 49 = .ok (.isub, 1) := by decide +kernel
theorem dX5_sumUp_50 : decode cX5_sumUp 50 = .ok (.if_icmp .gt 29, 3) := by decide +kernel
theorem dX5_sumUp_53 : decode cX5_sumUp 53 = .ok (.aload_n 0, 1) := by decide +kernel
theorem dX5_sumUp_54 : decode cX5_sumUp 54 = .ok (.iload_n 3, 1) := by decide +kernel
theorem dX5_sumUp_55 : decode cX5_sumUp 55 = .ok (.invokevirtual 86, 3) := by decide +kernel
theorem dX5_sumUp_58 : decode cX5_sumUp 58 = .ok (.aload_n 0, 1) := by decide +kernel
theorem dX5_sumUp_59 : decode cX5_sumUp 59 = .ok (.getfield 27, 3) := by decide +kernel
theorem dX5_sumUp_62 : decode cX5_sumUp 62 = .ok (.iconst 0, 1) := by decide +kernel
theorem dX5_sumUp_63 : decode cX5_sumUp 63 = .ok (.lconst 1, 1) := by decide +kernel
theorem dX5_sumUp_64 : decode cX5_sumUp 64 = .ok (.aload_n 0, 1) := by decide +kernel
theorem dX5_sumUp_65 : decode cX5_sumUp 65 = .ok (.getfield 23, 3) := by decide +kernel
theorem dX5_sumUp_68 : decode cX5_sumUp 68 = .ok (.iconst 0, 1) := by decide +kernel
theorem dX5_sumUp_69 : decode cX5_sumUp 69 = .ok (.lconst 1, 1) := by decide +kernel
theorem dX5_sumUp_70 : decode cX5_sumUp 70 = .ok (.invokevirtual 89, 3) := by decide +kernel
theorem dX5_sumUp_73 : decode cX5_sumUp 73 = .ok (.iinc 3 1, 3) := by decide +kernel
theorem dX5_sumUp_76 : decode cX5_sumUp 76 = .ok (.goto (-39), 3) := by decide +kernel
theorem dX5_sumUp_79 : decode cX5_sumUp 79 = .ok (.aload_n 0, 1) := by decide +kernel
theorem dX5_sumUp_80 : decode cX5_sumUp 80 = .ok (.invokevirtual 93, 3) := by decide +kernel
theorem dX5_sumUp_83 : decode cX5_sumUp 83 = .ok (.iinc 2 1, 3) := by decide +kernel
theorem dX5_sumUp_86 : decode cX5_sumUp 86 = .ok (.goto (-72), 3) := by decide +kernel
theorem dX5_sumUp_89 : decode cX5_sumUp 89 = .ok (.return_, 1) := by decide +kernel
theorem dX5_liveRows_0 : decode cX5_liveRows 0 = .ok (.aload_n 0, 1) := by decide +kernel
theorem dX5_liveRows_1 : decode cX5_liveRows 1 = .ok (.getfield 43, 3) := by decide +kernel
theorem dX5_liveRows_4 : decode cX5_liveRows 4 = .ok (.iconst 1, 1) := by decide +kernel
theorem dX5_liveRows_5 : decode cX5_liveRows 5 = .ok (.iadd, 1) := by decide +kernel
theorem dX5_liveRows_6 : decode cX5_liveRows 6 = .ok (.aload_n 0, 1) := by decide +kernel
theorem dX5_liveRows_7 : decode cX5_liveRows 7 = .ok (.getfield 40, 3) := by decide +kernel
theorem dX5_liveRows_10 : decode cX5_liveRows 10 = .ok (.aload_n 0, 1) := by decide +kernel
theorem dX5_liveRows_11 : decode cX5_liveRows 11 = .ok (.getfield 12, 3) := by decide +kernel
theorem dX5_liveRows_14 : decode cX5_liveRows 14 = .ok (.getfield 83, 3) := by decide +kernel
theorem dX5_liveRows_17 : decode cX5_liveRows 17 = .ok (.aload_n 0, 1) := by decide +kernel
theorem dX5_liveRows_18 : decode cX5_liveRows 18 = .ok (.getfield 36, 3) := by decide +kernel
theorem dX5_liveRows_21 : decode cX5_liveRows 21 = .ok (.isub, 1) := by decide +kernel
theorem dX5_liveRows_22 : decode cX5_liveRows 22 = .ok (.imul, 1) := by decide +kernel
theorem dX5_liveRows_23 : decode cX5_liveRows 23 = .ok (.invokestatic 96, 3) := by decide +kernel
theorem dX5_liveRows_26 : decode cX5_liveRows 26 = .ok (.ireturn, 1) := by decide +kernel
theorem dX5_nextLimbs_0 : decode cX5_nextLimbs 0 = .ok (.aload_n 0, 1) := by decide +kernel
theorem dX5_nextLimbs_1 : decode cX5_nextLimbs 1 = .ok (.getfield 46, 3) := by decide +kernel
theorem dX5_nextLimbs_4 : decode cX5_nextLimbs 4 = .ok (.aload_n 0, 1) := by decide +kernel
theorem dX5_nextLimbs_5 : decode cX5_nextLimbs 5 = .ok (.getfield 12, 3) := by decide +kernel
theorem dX5_nextLimbs_8 : decode cX5_nextLimbs 8 = .ok (.getfield 74, 3) := by decide +kernel
theorem dX5_nextLimbs_11 : decode cX5_nextLimbs 11 = .ok (.iadd, 1) := by decide +kernel
theorem dX5_nextLimbs_12 : decode cX5_nextLimbs 12 = .ok (.bipush 12, 2) := by decide +kernel
theorem dX5_nextLimbs_14 : decode cX5_nextLimbs 14 = .ok (.idiv, 1) := by decide +kernel
theorem dX5_nextLimbs_15 : decode cX5_nextLimbs 15 = .ok (.iconst 1, 1) := by decide +kernel
theorem dX5_nextLimbs_16 : decode cX5_nextLimbs 16 = .ok (.iadd, 1) := by decide +kernel
theorem dX5_nextLimbs_17 : decode cX5_nextLimbs 17 = .ok (.ireturn, 1) := by decide +kernel
theorem dX6_init_0 : decode cX6_init 0 = .ok (.aload_n 0, 1) := by decide +kernel
theorem dX6_init_1 : decode cX6_init 1 = .ok (.invokespecial 1, 3) := by decide +kernel
theorem dX6_init_4 : decode cX6_init 4 = .ok (.aload_n 0, 1) := by decide +kernel
theorem dX6_init_5 : decode cX6_init 5 = .ok (.bipush 8, 2) := by decide +kernel
theorem dX6_init_7 : decode cX6_init 7 = .ok (.anewarray 9, 3) := by decide +kernel
theorem dX6_init_10 : decode cX6_init 10 = .ok (.putfield 11, 3) := by decide +kernel
theorem dX6_init_13 : decode cX6_init 13 = .ok (.aload_n 0, 1) := by decide +kernel
theorem dX6_init_14 : decode cX6_init 14 = .ok (.bipush 21, 2) := by decide +kernel
theorem dX6_init_16 : decode cX6_init 16 = .ok (.newarray .int, 2) := by decide +kernel
theorem dX6_init_18 : decode cX6_init 18 = .ok (.putfield 15, 3) := by decide +kernel
theorem dX6_init_21 : decode cX6_init 21 = .ok (.aload_n 0, 1) := by decide +kernel
theorem dX6_init_22 : decode cX6_init 22 = .ok (.new 19, 3) := by decide +kernel
theorem dX6_init_25 : decode cX6_init 25 = .ok (.dup, 1) := by decide +kernel
theorem dX6_init_26 : decode cX6_init 26 = .ok (.invokespecial 21, 3) := by decide +kernel
theorem dX6_init_29 : decode cX6_init 29 = .ok (.putfield 22, 3) := by decide +kernel
theorem dX6_init_32 : decode cX6_init 32 = .ok (.aload_n 0, 1) := by decide +kernel
theorem dX6_init_33 : decode cX6_init 33 = .ok (.new 26, 3) := by decide +kernel
