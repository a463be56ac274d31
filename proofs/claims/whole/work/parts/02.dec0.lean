theorem dX0_init_0 : decode cX0_init 0 = .ok (.aload_n 0, 1) := by decide +kernel
theorem dX0_init_1 : decode cX0_init 1 = .ok (.invokespecial 3, 3) := by decide +kernel
theorem dX0_init_4 : decode cX0_init 4 = .ok (.aload_n 0, 1) := by decide +kernel
theorem dX0_init_5 : decode cX0_init 5 = .ok (.bipush 8, 2) := by decide +kernel
theorem dX0_init_7 : decode cX0_init 7 = .ok (.newarray .int, 2) := by decide +kernel
theorem dX0_init_9 : decode cX0_init 9 = .ok (.putfield 9, 3) := by decide +kernel
theorem dX0_init_12 : decode cX0_init 12 = .ok (.aload_n 0, 1) := by decide +kernel
theorem dX0_init_13 : decode cX0_init 13 = .ok (.bipush 8, 2) := by decide +kernel
theorem dX0_init_15 : decode cX0_init 15 = .ok (.newarray .int, 2) := by decide +kernel
theorem dX0_init_17 : decode cX0_init 17 = .ok (.putfield 15, 3) := by decide +kernel
theorem dX0_init_20 : decode cX0_init 20 = .ok (.return_, 1) := by decide +kernel
theorem dX0_layAsAtFirst_0 : decode cX0_layAsAtFirst 0 = .ok (.iconst 0, 1) := by decide +kernel
theorem dX0_layAsAtFirst_1 : decode cX0_layAsAtFirst 1 = .ok (.istore_n 1, 1) := by decide +kernel
theorem dX0_layAsAtFirst_2 : decode cX0_layAsAtFirst 2 = .ok (.iload_n 1, 1) := by decide +kernel
theorem dX0_layAsAtFirst_3 : decode cX0_layAsAtFirst 3 = .ok (.aload_n 0, 1) := by decide +kernel
theorem dX0_layAsAtFirst_4 : decode cX0_layAsAtFirst 4 = .ok (.getfield 9, 3) := by decide +kernel
theorem dX0_layAsAtFirst_7 : decode cX0_layAsAtFirst 7 = .ok (.arraylength, 1) := by decide +kernel
theorem dX0_layAsAtFirst_8 : decode cX0_layAsAtFirst 8 = .ok (.if_icmp .ge 16, 3) := by decide +kernel
theorem dX0_layAsAtFirst_11 : decode cX0_layAsAtFirst 11 = .ok (.aload_n 0, 1) := by decide +kernel
theorem dX0_layAsAtFirst_12 : decode cX0_layAsAtFirst 12 = .ok (.getfield 9, 3) := by decide +kernel
theorem dX0_layAsAtFirst_15 : decode cX0_layAsAtFirst 15 = .ok (.iload_n 1, 1) := by decide +kernel
theorem dX0_layAsAtFirst_16 : decode cX0_layAsAtFirst 16 = .ok (.iload_n 1, 1) := by decide +kernel
theorem dX0_layAsAtFirst_17 : decode cX0_layAsAtFirst 17 = .ok (.iastore, 1) := by decide +kernel
theorem dX0_layAsAtFirst_18 : decode cX0_layAsAtFirst 18 = .ok (.iinc 1 1, 3) := by decide +kernel
theorem dX0_layAsAtFirst_21 : decode cX0_layAsAtFirst 21 = .ok (.goto (-19), 3) := by decide +kernel
theorem dX0_layAsAtFirst_24 : decode cX0_layAsAtFirst 24 = .ok (.return_, 1) := by decide +kernel
theorem dX0_layBehind_0 : decode cX0_layBehind 0 = .ok (.aload_n 0, 1) := by decide +kernel
theorem dX0_layBehind_1 : decode cX0_layBehind 1 = .ok (.invokevirtual 18, 3) := by decide +kernel
theorem dX0_layBehind_4 : decode cX0_layBehind 4 = .ok (.iconst 0, 1) := by decide +kernel
theorem dX0_layBehind_5 : decode cX0_layBehind 5 = .ok (.istore_n 2, 1) := by decide +kernel
theorem dX0_layBehind_6 : decode cX0_layBehind 6 = .ok (.iload_n 2, 1) := by decide +kernel
theorem dX0_layBehind_7 : decode cX0_layBehind 7 = .ok (.aload_n 1, 1) := by decide +kernel
theorem dX0_layBehind_8 : decode cX0_layBehind 8 = .ok (.invokevirtual 21, 3) := by decide +kernel
theorem dX0_layBehind_11 : decode cX0_layBehind 11 = .ok (.if_icmp .ge 18, 3) := by decide +kernel
theorem dX0_layBehind_14 : decode cX0_layBehind 14 = .ok (.aload_n 0, 1) := by decide +kernel
theorem dX0_layBehind_15 : decode cX0_layBehind 15 = .ok (.aload_n 1, 1) := by decide +kernel
theorem dX0_layBehind_16 : decode cX0_layBehind 16 = .ok (.iload_n 2, 1) := by decide +kernel
theorem dX0_layBehind_17 : decode cX0_layBehind 17 = .ok (.invokevirtual 27, 3) := by decide +kernel
theorem dX0_layBehind_20 : decode cX0_layBehind 20 = .ok (.invokevirtual 31, 3) := by decide +kernel
theorem dX0_layBehind_23 : decode cX0_layBehind 23 = .ok (.iinc 2 1, 3) := by decide +kernel
theorem dX0_layBehind_26 : decode cX0_layBehind 26 = .ok (.goto (-20), 3) := by decide +kernel
theorem dX0_layBehind_29 : decode cX0_layBehind 29 = .ok (.return_, 1) := by decide +kernel
theorem dX0_bobbinAt_0 : decode cX0_bobbinAt 0 = .ok (.iload_n 1, 1) := by decide +kernel
theorem dX0_bobbinAt_1 : decode cX0_bobbinAt 1 = .ok (.ifCond .lt 21, 3) := by decide +kernel
theorem dX0_bobbinAt_4 : decode cX0_bobbinAt 4 = .ok (.iload_n 1, 1) := by decide +kernel
theorem dX0_bobbinAt_5 : decode cX0_bobbinAt 5 = .ok (.aload_n 0, 1) := by decide +kernel
theorem dX0_bobbinAt_6 : decode cX0_bobbinAt 6 = .ok (.getfield 9, 3) := by decide +kernel
theorem dX0_bobbinAt_9 : decode cX0_bobbinAt 9 = .ok (.arraylength, 1) := by decide +kernel
theorem dX0_bobbinAt_10 : decode cX0_bobbinAt 10 = .ok (.if_icmp .ge 12, 3) := by decide +kernel
theorem dX0_bobbinAt_13 : decode cX0_bobbinAt 13 = .ok (.aload_n 0, 1) := by decide +kernel
theorem dX0_bobbinAt_14 : decode cX0_bobbinAt 14 = .ok (.getfield 9, 3) := by decide +kernel
theorem dX0_bobbinAt_17 : decode cX0_bobbinAt 17 = .ok (.iload_n 1, 1) := by decide +kernel
theorem dX0_bobbinAt_18 : decode cX0_bobbinAt 18 = .ok (.iaload, 1) := by decide +kernel
theorem dX0_bobbinAt_19 : decode cX0_bobbinAt 19 = .ok (.goto 5, 3) := by decide +kernel
theorem dX0_bobbinAt_22 : decode cX0_bobbinAt 22 = .ok (.bipush (-6), 2) := by decide +kernel
theorem dX0_bobbinAt_24 : decode cX0_bobbinAt 24 = .ok (.ireturn, 1) := by decide +kernel
theorem dX0_upper_0 : decode cX0_upper 0 = .ok (.aload_n 0, 1) := by decide +kernel
theorem dX0_upper_1 : decode cX0_upper 1 = .ok (.iload_n 1, 1) := by decide +kernel
theorem dX0_upper_2 : decode cX0_upper 2 = .ok (.invokestatic 35, 3) := by decide +kernel
theorem dX0_upper_5 : decode cX0_upper 5 = .ok (.iload_n 1, 1) := by decide +kernel
theorem dX0_upper_6 : decode cX0_upper 6 = .ok (.invokestatic 38, 3) := by decide +kernel
theorem dX0_upper_9 : decode cX0_upper 9 = .ok (.ifCond .eq 7, 3) := by decide +kernel
theorem dX0_upper_12 : decode cX0_upper 12 = .ok (.iconst 1, 1) := by decide +kernel
theorem dX0_upper_13 : decode cX0_upper 13 = .ok (.goto 4, 3) := by decide +kernel
theorem dX0_upper_16 : decode cX0_upper 16 = .ok (.iconst 0, 1) := by decide +kernel
theorem dX0_upper_17 : decode cX0_upper 17 = .ok (.iadd, 1) := by decide +kernel
theorem dX0_upper_18 : decode cX0_upper 18 = .ok (.invokevirtual 42, 3) := by decide +kernel
theorem dX0_upper_21 : decode cX0_upper 21 = .ok (.ireturn, 1) := by decide +kernel
theorem dX0_lower_0 : decode cX0_lower 0 = .ok (.aload_n 0, 1) := by decide +kernel
theorem dX0_lower_1 : decode cX0_lower 1 = .ok (.iload_n 1, 1) := by decide +kernel
theorem dX0_lower_2 : decode cX0_lower 2 = .ok (.invokestatic 35, 3) := by decide +kernel
theorem dX0_lower_5 : decode cX0_lower 5 = .ok (.iload_n 1, 1) := by decide +kernel
theorem dX0_lower_6 : decode cX0_lower 6 = .ok (.invokestatic 38, 3) := by decide +kernel
theorem dX0_lower_9 : decode cX0_lower 9 = .ok (.ifCond .eq 7, 3) := by decide +kernel
theorem dX0_lower_12 : decode cX0_lower 12 = .ok (.iconst 0, 1) := by decide +kernel
theorem dX0_lower_13 : decode cX0_lower 13 = .ok (.goto 4, 3) := by decide +kernel
theorem dX0_lower_16 : decode cX0_lower 16 = .ok (.iconst 1, 1) := by decide +kernel
theorem dX0_lower_17 : decode cX0_lower 17 = .ok (.iadd, 1) := by decide +kernel
theorem dX0_lower_18 : decode cX0_lower 18 = .ok (.invokevirtual 42, 3) := by decide +kernel
theorem dX0_lower_21 : decode cX0_lower 21 = .ok (.ireturn, 1) := by decide +kernel
theorem dX0_swap_0 : decode cX0_swap 0 = .ok (.iload_n 1, 1) := by decide +kernel
theorem dX0_swap_1 : decode cX0_swap 1 = .ok (.invokestatic 35, 3) := by decide +kernel
theorem dX0_swap_4 : decode cX0_swap 4 = .ok (.istore_n 2, 1) := by decide +kernel
theorem dX0_swap_5 : decode cX0_swap 5 = .ok (.iload_n 2, 1) := by decide +kernel
theorem dX0_swap_6 : decode cX0_swap 6 = .ok (.ifCond .lt 44, 3) := by decide +kernel
theorem dX0_swap_9 : decode cX0_swap 9 = .ok (.iload_n 2, 1) := by decide +kernel
theorem dX0_swap_10 : decode cX0_swap 10 = .ok (.aload_n 0, 1) := by decide +kernel
theorem dX0_swap_11 : decode cX0_swap 11 = .ok (.getfield 9, 3) := by decide +kernel
theorem dX0_swap_14 : decode cX0_swap 14 = .ok (.arraylength, 1) := by decide +kernel
theorem dX0_swap_15 : decode cX0_swap 15 = .ok (.iconst 1, 1) := by decide +kernel
theorem dX0_swap_16 : decode cX0_swap 16 = .ok (.isub, 1) := by decide +kernel
theorem dX0_swap_17 : decode cX0_swap 17 = .ok (.if_icmp .ge 33, 3) := by decide +kernel
theorem dX0_swap_20 : decode cX0_swap 20 = .ok (.aload_n 0, 1) := by decide +kernel
theorem dX0_swap_21 : decode cX0_swap 21 = .ok (.getfield 9, 3) := by decide +kernel
theorem dX0_swap_24 : decode cX0_swap 24 = .ok (.iload_n 2, 1) := by decide +kernel
theorem dX0_swap_25 : decode cX0_swap 25 = .ok (.iaload, 1) := by decide +kernel
theorem dX0_swap_26 : decode cX0_swap 26 = .ok (.istore_n 3, 1) := by decide +kernel
theorem dX0_swap_27 : decode cX0_swap 27 = .ok (.aload_n 0, 1) := by decide +kernel
theorem dX0_swap_28 : decode cX0_swap 28 = .ok (.getfield 9, 3) := by decide +kernel
theorem dX0_swap_31 : decode cX0_swap 31 = .ok (.iload_n 2, 1) := by decide +kernel
theorem dX0_swap_32 : decode cX0_swap 32 = .ok (.aload_n 0, 1) := by decide +kernel
theorem dX0_swap_33 : decode cX0_swap 33 = .ok (.getfield 9, 3) := by decide +kernel
theorem dX0_swap_36 : decode cX0_swap 36 = .ok (.iload_n 2, 1) := by decide +kernel
theorem dX0_swap_37 : decode cX0_swap 37 = .ok (.iconst 1, 1) := by decide +kernel
theorem dX0_swap_38 : decode cX0_swap 38 = .ok (.iadd, 1) := by decide +kernel
theorem dX0_swap_39 : decode cX0_swap 39 = .ok (.iaload, 1) := by decide +kernel
theorem dX0_swap_40 : decode cX0_swap 40 = .ok (.iastore, 1) := by decide +kernel
theorem dX0_swap_41 : decode cX0_swap 41 = .ok (.aload_n 0, 1) := by decide +kernel
theorem dX0_swap_42 : decode cX0_swap 42 = .ok (.getfield 9, 3) := by decide +kernel
theorem dX0_swap_45 : decode cX0_swap 45 = .ok (.iload_n 2, 1) := by decide +kernel
theorem dX0_swap_46 : decode cX0_swap 46 = .ok (.iconst 1, 1) := by decide +kernel
theorem dX0_swap_47 : decode cX0_swap 47 = .ok (.iadd, 1) := by decide +kernel
theorem dX0_swap_48 : decode cX0_swap 48 = .ok (.iload_n 3, 1) := by decide +kernel
theorem dX0_swap_49 : decode cX0_swap 49 = .ok (.iastore, 1) := by decide +kernel
theorem dX0_swap_50 : decode cX0_swap 50 = .ok (.return_, 1) := by decide +kernel
theorem dX0_lyingAsAtFirst_0 : decode cX0_lyingAsAtFirst 0 = .ok (.iconst 0, 1) := by decide +kernel
theorem dX0_lyingAsAtFirst_1 : decode cX0_lyingAsAtFirst 1 = .ok (.istore_n 1, 1) := by decide +kernel
theorem dX0_lyingAsAtFirst_2 : decode cX0_lyingAsAtFirst 2 = .ok (.iconst 0, 1) := by decide +kernel
theorem dX0_lyingAsAtFirst_3 : decode cX0_lyingAsAtFirst 3 = .ok (.istore_n 2, 1) := by decide +kernel
theorem dX0_lyingAsAtFirst_4 : decode cX0_lyingAsAtFirst 4 = .ok (.iload_n 2, 1) := by decide +kernel
theorem dX0_lyingAsAtFirst_5 : decode cX0_lyingAsAtFirst 5 = .ok (.aload_n 0, 1) := by decide +kernel
theorem dX0_lyingAsAtFirst_6 : decode cX0_lyingAsAtFirst 6 = .ok (.getfield 9, 3) := by decide +kernel
theorem dX0_lyingAsAtFirst_9 : decode cX0_lyingAsAtFirst 9 = .ok (.arraylength, 1) := by decide +kernel
theorem dX0_lyingAsAtFirst_10 : decode cX0_lyingAsAtFirst 10 = .ok (.if_icmp .ge 27, 3) := by decide +kernel
theorem dX0_lyingAsAtFirst_13 : decode cX0_lyingAsAtFirst 13 = .ok (.iload_n 1, 1) := by decide +kernel
theorem dX0_lyingAsAtFirst_14 : decode cX0_lyingAsAtFirst 14 = .ok (.aload_n 0, 1) := by decide +kernel
theorem dX0_lyingAsAtFirst_15 : decode cX0_lyingAsAtFirst 15 = .ok (.getfield 9, 3) := by decide +kernel
theorem dX0_lyingAsAtFirst_18 : decode cX0_lyingAsAtFirst 18 = .ok (.iload_n 2, 1) := by decide +kernel
theorem dX0_lyingAsAtFirst_19 : decode cX0_lyingAsAtFirst 19 = .ok (.iaload, 1) := by decide +kernel
theorem dX0_lyingAsAtFirst_20 : decode cX0_lyingAsAtFirst 20 = .ok (.iload_n 2, 1) := by decide +kernel
theorem dX0_lyingAsAtFirst_21 : decode cX0_lyingAsAtFirst 21 = .ok (.if_icmp .ne 7, 3) := by decide +kernel
theorem dX0_lyingAsAtFirst_24 : decode cX0_lyingAsAtFirst 24 = .ok (.iconst 1, 1) := by decide +kernel
theorem dX0_lyingAsAtFirst_25 : decode cX0_lyingAsAtFirst 25 = .ok (.goto 4, 3) := by decide +kernel
theorem dX0_lyingAsAtFirst_28 : decode cX0_lyingAsAtFirst 28 = .ok (.iconst 0, 1) := by decide +kernel
theorem dX0_lyingAsAtFirst_29 : decode cX0_lyingAsAtFirst 29 = .ok (.iadd, 1) := by decide +kernel
theorem dX0_lyingAsAtFirst_30 : decode cX0_lyingAsAtFirst 30 = .ok (.istore_n 1, 1) := by decide +kernel
theorem dX0_lyingAsAtFirst_31 : decode cX0_lyingAsAtFirst 31 = .ok (.iinc 2 1, 3) := by decide +kernel
theorem dX0_lyingAsAtFirst_34 : decode cX0_lyingAsAtFirst 34 = .ok (.goto (-30), 3) := by decide +kernel
theorem dX0_lyingAsAtFirst_37 : decode cX0_lyingAsAtFirst 37 = .ok (.iload_n 1, 1) := by decide +kernel
theorem dX0_lyingAsAtFirst_38 : decode cX0_lyingAsAtFirst 38 = .ok (.ireturn, 1) := by decide +kernel
theorem dX0_turnsTillAsAtFirst_0 : decode cX0_turnsTillAsAtFirst 0 = .ok (.iconst 0, 1) := by decide +kernel
theorem dX0_turnsTillAsAtFirst_1 : decode cX0_turnsTillAsAtFirst 1 = .ok (.istore_n 1, 1) := by decide +kernel
theorem dX0_turnsTillAsAtFirst_2 : decode cX0_turnsTillAsAtFirst 2 = .ok (.iload_n 1, 1) := by decide +kernel
theorem dX0_turnsTillAsAtFirst_3 : decode cX0_turnsTillAsAtFirst 3 = .ok (.aload_n 0, 1) := by decide +kernel
theorem dX0_turnsTillAsAtFirst_4 : decode cX0_turnsTillAsAtFirst 4 = .ok (.getfield 15, 3) := by decide +kernel
theorem dX0_turnsTillAsAtFirst_7 : decode cX0_turnsTillAsAtFirst 7 = .ok (.arraylength, 1) := by decide +kernel
theorem dX0_turnsTillAsAtFirst_8 : decode cX0_turnsTillAsAtFirst 8 = .ok (.if_icmp .ge 16, 3) := by decide +kernel
theorem dX0_turnsTillAsAtFirst_11 : decode cX0_turnsTillAsAtFirst 11 = .ok (.aload_n 0, 1) := by decide +kernel
theorem dX0_turnsTillAsAtFirst_12 : decode cX0_turnsTillAsAtFirst 12 = .ok (.getfield 15, 3) := by decide +kernel
theorem dX0_turnsTillAsAtFirst_15 : decode cX0_turnsTillAsAtFirst 15 = .ok (.iload_n 1, 1) := by decide +kernel
theorem dX0_turnsTillAsAtFirst_16 : decode cX0_turnsTillAsAtFirst 16 = .ok (.iload_n 1, 1) := by decide +kernel
theorem dX0_turnsTillAsAtFirst_17 : decode cX0_turnsTillAsAtFirst 17 = .ok (.iastore, 1) := by decide +kernel
theorem dX0_turnsTillAsAtFirst_18 : decode cX0_turnsTillAsAtFirst 18 = .ok (.iinc 1 1, 3) := by decide +kernel
theorem dX0_turnsTillAsAtFirst_21 : decode cX0_turnsTillAsAtFirst 21 = .ok (.goto (-19), 3) := by decide +kernel
theorem dX0_turnsTillAsAtFirst_24 : decode cX0_turnsTillAsAtFirst 24 = .ok (.iconst 1, 1) := by decide +kernel
theorem dX0_turnsTillAsAtFirst_25 : decode cX0_turnsTillAsAtFirst 25 = .ok (.istore_n 1, 1) := by decide +kernel
theorem dX0_turnsTillAsAtFirst_26 : decode cX0_turnsTillAsAtFirst 26 = .ok (.iload_n 1, 1) := by decide +kernel
theorem dX0_turnsTillAsAtFirst_27 : decode cX0_turnsTillAsAtFirst 27 = .ok (.bipush 15, 2) := by decide +kernel
theorem dX0_turnsTillAsAtFirst_29 : decode cX0_turnsTillAsAtFirst 29 = .ok (.if_icmp .ge 18, 3) := by decide +kernel
theorem dX0_turnsTillAsAtFirst_32 : decode cX0_turnsTillAsAtFirst 32 = .ok (.aload_n 0, 1) := by decide +kernel
theorem dX0_turnsTillAsAtFirst_33 : decode cX0_turnsTillAsAtFirst 33 = .ok (.invokevirtual 45, 3) := by decide +kernel
theorem dX0_turnsTillAsAtFirst_36 : decode cX0_turnsTillAsAtFirst 36 = .ok (.ifCond .eq 5, 3) := by decide +kernel
theorem dX0_turnsTillAsAtFirst_39 : decode cX0_turnsTillAsAtFirst 39 = .ok (.iload_n 1, 1) := by decide +kernel
theorem dX0_turnsTillAsAtFirst_40 : decode cX0_turnsTillAsAtFirst 40 = .ok (.ireturn, 1) := by decide +kernel
theorem dX0_turnsTillAsAtFirst_41 : decode cX0_turnsTillAsAtFirst 41 = .ok (.iinc 1 1, 3) := by decide +kernel
theorem dX0_turnsTillAsAtFirst_44 : decode cX0_turnsTillAsAtFirst 44 = .ok (.goto (-18), 3) := by decide +kernel
theorem dX0_turnsTillAsAtFirst_47 : decode cX0_turnsTillAsAtFirst 47 = .ok (.bipush 15, 2) := by decide +kernel
theorem dX0_turnsTillAsAtFirst_49 : decode cX0_turnsTillAsAtFirst 49 = .ok (.ireturn, 1) := by decide +kernel
theorem dX0_turnOnce_0 : decode cX0_turnOnce 0 = .ok (.iconst 1, 1) := by decide +kernel
theorem dX0_turnOnce_1 : decode cX0_turnOnce 1 = .ok (.istore_n 1, 1) := by decide +kernel
theorem dX0_turnOnce_2 : decode cX0_turnOnce 2 = .ok (.iconst 0, 1) := by decide +kernel
theorem dX0_turnOnce_3 : decode cX0_turnOnce 3 = .ok (.istore_n 2, 1) := by decide +kernel
theorem dX0_turnOnce_4 : decode cX0_turnOnce 4 = .ok (.iload_n 2, 1) := by decide +kernel
theorem dX0_turnOnce_5 : decode cX0_turnOnce 5 = .ok (.aload_n 0, 1) := by decide +kernel
theorem dX0_turnOnce_6 : decode cX0_turnOnce 6 = .ok (.getfield 15, 3) := by decide +kernel
theorem dX0_turnOnce_9 : decode cX0_turnOnce 9 = .ok (.arraylength, 1) := by decide +kernel
theorem dX0_turnOnce_10 : decode cX0_turnOnce 10 = .ok (.if_icmp .ge 45, 3) := by decide +kernel
theorem dX0_turnOnce_13 : decode cX0_turnOnce 13 = .ok (.aload_n 0, 1) := by decide +kernel
theorem dX0_turnOnce_14 : decode cX0_turnOnce 14 = .ok (.getfield 15, 3) := by decide +kernel
theorem dX0_turnOnce_17 : decode cX0_turnOnce 17 = .ok (.iload_n 2, 1) := by decide +kernel
theorem dX0_turnOnce_18 : decode cX0_turnOnce 18 = .ok (.aload_n 0, 1) := by decide +kernel
theorem dX0_turnOnce_19 : decode cX0_turnOnce 19 = .ok (.aload_n 0, 1) := by decide +kernel
theorem dX0_turnOnce_20 : decode cX0_turnOnce 20 = .ok (.getfield 15, 3) := by decide +kernel
theorem dX0_turnOnce_23 : decode cX0_turnOnce 23 = .ok (.iload_n 2, 1) := by decide +kernel
theorem dX0_turnOnce_24 : decode cX0_turnOnce 24 = .ok (.iaload, 1) := by decide +kernel
theorem dX0_turnOnce_25 : decode cX0_turnOnce 25 = .ok (.invokevirtual 42, 3) := by decide +kernel
theorem dX0_turnOnce_28 : decode cX0_turnOnce 28 = .ok (.iastore, 1) := by decide +kernel
theorem dX0_turnOnce_29 : decode cX0_turnOnce 29 = .ok (.iload_n 1, 1) := by decide +kernel
theorem dX0_turnOnce_30 : decode cX0_turnOnce 30 = .ok (.ifCond .eq 17, 3) := by decide +kernel
theorem dX0_turnOnce_33 : decode cX0_turnOnce 33 = .ok (.aload_n 0, 1) := by decide +kernel
theorem dX0_turnOnce_34 : decode cX0_turnOnce 34 = .ok (.getfield 15, 3) := by decide +kernel
theorem dX0_turnOnce_37 : decode cX0_turnOnce 37 = .ok (.iload_n 2, 1) := by decide +kernel
theorem dX0_turnOnce_38 : decode cX0_turnOnce 38 = .ok (.iaload, 1) := by decide +kernel
theorem dX0_turnOnce_39 : decode cX0_turnOnce 39 = .ok (.iload_n 2, 1) := by decide +kernel
theorem dX0_turnOnce_40 : decode cX0_turnOnce 40 = .ok (.if_icmp .ne 7, 3) := by decide +kernel
theorem dX0_turnOnce_43 : decode cX0_turnOnce 43 = .ok (.iconst 1, 1) := by decide +kernel
theorem dX0_turnOnce_44 : decode cX0_turnOnce 44 = .ok (.goto 4, 3) := by decide +kernel
theorem dX0_turnOnce_47 : decode cX0_turnOnce 47 = .ok (.iconst 0, 1) := by decide +kernel
theorem dX0_turnOnce_48 : decode cX0_turnOnce 48 = .ok (.istore_n 1, 1) := by decide +kernel
theorem dX0_turnOnce_49 : decode cX0_turnOnce 49 = .ok (.iinc 2 1, 3) := by decide +kernel
theorem dX0_turnOnce_52 : decode cX0_turnOnce 52 = .ok (.goto (-48), 3) := by decide +kernel
theorem dX0_turnOnce_55 : decode cX0_turnOnce 55 = .ok (.iload_n 1, 1) := by decide +kernel
theorem dX0_turnOnce_56 : decode cX0_turnOnce 56 = .ok (.ireturn, 1) := by decide +kernel
theorem dX1_init_0 : decode cX1_init 0 = .ok (.aload_n 0, 1) := by decide +kernel
theorem dX1_init_1 : decode cX1_init 1 = .ok (.invokespecial 3, 3) := by decide +kernel
theorem dX1_init_4 : decode cX1_init 4 = .ok (.aload_n 0, 1) := by decide +kernel
theorem dX1_init_5 : decode cX1_init 5 = .ok (.iconst 0, 1) := by decide +kernel
theorem dX1_init_6 : decode cX1_init 6 = .ok (.putfield 9, 3) := by decide +kernel
theorem dX1_init_9 : decode cX1_init 9 = .ok (.aload_n 0, 1) := by decide +kernel
theorem dX1_init_10 : decode cX1_init 10 = .ok (.iconst 0, 1) := by decide +kernel
theorem dX1_init_11 : decode cX1_init 11 = .ok (.putfield 15, 3) := by decide +kernel
theorem dX1_init_14 : decode cX1_init 14 = .ok (.return_, 1) := by decide +kernel
theorem dX1_faultPlace_0 : decode cX1_faultPlace 0 = .ok (.iconst 0, 1) := by decide +kernel
theorem dX1_faultPlace_1 : decode cX1_faultPlace 1 = .ok (.istore_n 1, 1) := by decide +kernel
theorem dX1_faultPlace_2 : decode cX1_faultPlace 2 = .ok (.iconst 0, 1) := by decide +kernel
theorem dX1_faultPlace_3 : decode cX1_faultPlace 3 = .ok (.istore_n 2, 1) := by decide +kernel
theorem dX1_faultPlace_4 : decode cX1_faultPlace 4 = .ok (.iconst 0, 1) := by decide +kernel
theorem dX1_faultPlace_5 : decode cX1_faultPlace 5 = .ok (.istore_n 3, 1) := by decide +kernel
theorem dX1_faultPlace_6 : decode cX1_faultPlace 6 = .ok (.iload_n 3, 1) := by decide +kernel
theorem dX1_faultPlace_7 : decode cX1_faultPlace 7 = .ok (.aload_n 0, 1) := by decide +kernel
theorem dX1_faultPlace_8 : decode cX1_faultPlace 8 = .ok (.invokevirtual 19, 3) := by decide +kernel
theorem dX1_faultPlace_11 : decode cX1_faultPlace 11 = .ok (.if_icmp .ge 61, 3) := by decide +kernel
theorem dX1_faultPlace_14 : decode cX1_faultPlace 14 = .ok (.aload_n 0, 1) := by decide +kernel
theorem dX1_faultPlace_15 : decode cX1_faultPlace 15 = .ok (.iload_n 3, 1) := by decide +kernel
theorem dX1_faultPlace_16 : decode cX1_faultPlace 16 = .ok (.invokevirtual 25, 3) := by decide +kernel
theorem dX1_faultPlace_19 : decode cX1_faultPlace 19 = .ok (.istore 4, 2) := by decide +kernel
theorem dX1_faultPlace_21 : decode cX1_faultPlace 21 = .ok (.iload 4, 2) := by decide +kernel
theorem dX1_faultPlace_23 : decode cX1_faultPlace 23 = .ok (.iload_n 1, 1) := by decide +kernel
theorem dX1_faultPlace_24 : decode cX1_faultPlace 24 = .ok (.iload_n 2, 1) := by decide +kernel
theorem dX1_faultPlace_25 : decode cX1_faultPlace 25 = .ok (.invokestatic 29, 3) := by decide +kernel
theorem dX1_faultPlace_28 : decode cX1_faultPlace 28 = .ok (.ifCond .ne 5, 3) := by decide +kernel
theorem dX1_faultPlace_31 : decode cX1_faultPlace 31 = .ok (.iload_n 3, 1) := by decide +kernel
theorem dX1_faultPlace_32 : decode cX1_faultPlace 32 = .ok (.ireturn, 1) := by decide +kernel
theorem dX1_faultPlace_33 : decode cX1_faultPlace 33 = .ok (.iload 4, 2) := by decide +kernel
theorem dX1_faultPlace_35 : decode cX1_faultPlace 35 = .ok (.bipush 41, 2) := by decide +kernel
theorem dX1_faultPlace_37 : decode cX1_faultPlace 37 = .ok (.if_icmp .ne 7, 3) := by decide +kernel
theorem dX1_faultPlace_40 : decode cX1_faultPlace 40 = .ok (.iconst 1, 1) := by decide +kernel
theorem dX1_faultPlace_41 : decode cX1_faultPlace 41 = .ok (.goto 4, 3) := by decide +kernel
theorem dX1_faultPlace_44 : decode cX1_faultPlace 44 = .ok (.iconst 0, 1) := by decide +kernel
theorem dX1_faultPlace_45 : decode cX1_faultPlace 45 = .ok (.istore_n 2, 1) := by decide +kernel
theorem dX1_faultPlace_46 : decode cX1_faultPlace 46 = .ok (.iload 4, 2) := by decide +kernel
theorem dX1_faultPlace_48 : decode cX1_faultPlace 48 = .ok (.bipush 40, 2) := by decide +kernel
theorem dX1_faultPlace_50 : decode cX1_faultPlace 50 = .ok (.if_icmp .ne 9, 3) := by decide +kernel
theorem dX1_faultPlace_53 : decode cX1_faultPlace 53 = .ok (.iinc 1 1, 3) := by decide +kernel
theorem dX1_faultPlace_56 : decode cX1_faultPlace 56 = .ok (.goto 10, 3) := by decide +kernel
theorem dX1_faultPlace_59 : decode cX1_faultPlace 59 = .ok (.iload_n 2, 1) := by decide +kernel
theorem dX1_faultPlace_60 : decode cX1_faultPlace 60 = .ok (.ifCond .eq 6, 3) := by decide +kernel
theorem dX1_faultPlace_63 : decode cX1_faultPlace 63 = .ok (.iinc 1 (-1), 3) := by decide +kernel
theorem dX1_faultPlace_66 : decode cX1_faultPlace 66 = .ok (.iinc 3 1, 3) := by decide +kernel
theorem dX1_faultPlace_69 : decode cX1_faultPlace 69 = .ok (.goto (-63), 3) := by decide +kernel
theorem dX1_faultPlace_72 : decode cX1_faultPlace 72 = .ok (.iload_n 1, 1) := by decide +kernel
theorem dX1_faultPlace_73 : decode cX1_faultPlace 73 = .ok (.ifCond .gt 7, 3) := by decide +kernel
theorem dX1_faultPlace_76 : decode cX1_faultPlace 76 = .ok (.iload_n 2, 1) := by decide +kernel
theorem dX1_faultPlace_77 : decode cX1_faultPlace 77 = .ok (.ifCond .eq 10, 3) := by decide +kernel
theorem dX1_faultPlace_80 : decode cX1_faultPlace 80 = .ok (.aload_n 0, 1) := by decide +kernel
theorem dX1_faultPlace_81 : decode cX1_faultPlace 81 = .ok (.invokevirtual 19, 3) := by decide +kernel
theorem dX1_faultPlace_84 : decode cX1_faultPlace 84 = .ok (.goto 5, 3) := by decide +kernel
theorem dX1_faultPlace_87 : decode cX1_faultPlace 87 = .ok (.bipush (-6), 2) := by decide +kernel
theorem dX1_faultPlace_89 : decode cX1_faultPlace 89 = .ok (.ireturn, 1) := by decide +kernel
theorem dX1_canStand_0 : decode cX1_canStand 0 = .ok (.iload_n 2, 1) := by decide +kernel
theorem dX1_canStand_1 : decode cX1_canStand 1 = .ok (.ifCond .eq 21, 3) := by decide +kernel
theorem dX1_canStand_4 : decode cX1_canStand 4 = .ok (.iload_n 0, 1) := by decide +kernel
theorem dX1_canStand_5 : decode cX1_canStand 5 = .ok (.bipush 49, 2) := by decide +kernel
theorem dX1_canStand_7 : decode cX1_canStand 7 = .ok (.if_icmp .lt 13, 3) := by decide +kernel
theorem dX1_canStand_10 : decode cX1_canStand 10 = .ok (.iload_n 0, 1) := by decide +kernel
theorem dX1_canStand_11 : decode cX1_canStand 11 = .ok (.bipush 57, 2) := by decide +kernel
theorem dX1_canStand_13 : decode cX1_canStand 13 = .ok (.if_icmp .gt 7, 3) := by decide +kernel
theorem dX1_canStand_16 : decode cX1_canStand 16 = .ok (.iconst 1, 1) := by decide +kernel
theorem dX1_canStand_17 : decode cX1_canStand 17 = .ok (.goto 4, 3) := by decide +kernel
theorem dX1_canStand_20 : decode cX1_canStand 20 = .ok (.iconst 0, 1) := by decide +kernel
theorem dX1_canStand_21 : decode cX1_canStand 21 = .ok (.ireturn, 1) := by decide +kernel
theorem dX1_canStand_22 : decode cX1_canStand 22 = .ok (.iload_n 0, 1) := by decide +kernel
theorem dX1_canStand_23 : decode cX1_canStand 23 = .ok (.bipush 40, 2) := by decide +kernel
theorem dX1_canStand_25 : decode cX1_canStand 25 = .ok (.if_icmp .ne 14, 3) := by decide +kernel
theorem dX1_canStand_28 : decode cX1_canStand 28 = .ok (.iload_n 1, 1) := by decide +kernel
theorem dX1_canStand_29 : decode cX1_canStand 29 = .ok (.iconst 3, 1) := by decide +kernel
theorem dX1_canStand_30 : decode cX1_canStand 30 = .ok (.if_icmp .ge 7, 3) := by decide +kernel
theorem dX1_canStand_33 : decode cX1_canStand 33 = .ok (.iconst 1, 1) := by decide +kernel
theorem dX1_canStand_34 : decode cX1_canStand 34 = .ok (.goto 4, 3) := by decide +kernel
theorem dX1_canStand_37 : decode cX1_canStand 37 = .ok (.iconst 0, 1) := by decide +kernel
theorem dX1_canStand_38 : decode cX1_canStand 38 = .ok (.ireturn, 1) := by decide +kernel
theorem dX1_canStand_39 : decode cX1_canStand 39 = .ok (.iload_n 0, 1) := by decide +kernel
theorem dX1_canStand_40 : decode cX1_canStand 40 = .ok (.bipush 41, 2) := by decide +kernel
theorem dX1_canStand_42 : decode cX1_canStand 42 = .ok (.if_icmp .ne 13, 3) := by decide +kernel
theorem dX1_canStand_45 : decode cX1_canStand 45 = .ok (.iload_n 1, 1) := by decide +kernel
theorem dX1_canStand_46 : decode cX1_canStand 46 = .ok (.ifCond .le 7, 3) := by decide +kernel
theorem dX1_canStand_49 : decode cX1_canStand 49 = .ok (.iconst 1, 1) := by decide +kernel
theorem dX1_canStand_50 : decode cX1_canStand 50 = .ok (.goto 4, 3) := by decide +kernel
theorem dX1_canStand_53 : decode cX1_canStand 53 = .ok (.iconst 0, 1) := by decide +kernel
theorem dX1_canStand_54 : decode cX1_canStand 54 = .ok (.ireturn, 1) := by decide +kernel
theorem dX1_canStand_55 : decode cX1_canStand 55 = .ok (.iload_n 0, 1) := by decide +kernel
theorem dX1_canStand_56 : decode cX1_canStand 56 = .ok (.invokestatic 33, 3) := by decide +kernel
theorem dX1_canStand_59 : decode cX1_canStand 59 = .ok (.ifCond .ne 13, 3) := by decide +kernel
theorem dX1_canStand_62 : decode cX1_canStand 62 = .ok (.ldc 37, 2) := by decide +kernel
theorem dX1_canStand_64 : decode cX1_canStand 64 = .ok (.iload_n 0, 1) := by decide +kernel
theorem dX1_canStand_65 : decode cX1_canStand 65 = .ok (.i2c, 1) := by decide +kernel
theorem dX1_canStand_66 : decode cX1_canStand 66 = .ok (.invokevirtual 39, 3) := by decide +kernel
theorem dX1_canStand_69 : decode cX1_canStand 69 = .ok (.ifCond .lt 7, 3) := by decide +kernel
theorem dX1_canStand_72 : decode cX1_canStand 72 = .ok (.iconst 1, 1) := by decide +kernel
theorem dX1_canStand_73 : decode cX1_canStand 73 = .ok (.goto 4, 3) := by decide +kernel
theorem dX1_canStand_76 : decode cX1_canStand 76 = .ok (.iconst 0, 1) := by decide +kernel
theorem dX1_canStand_77 : decode cX1_canStand 77 = .ok (.ireturn, 1) := by decide +kernel
theorem dX1_isSpot_0 : decode cX1_isSpot 0 = .ok (.iload_n 0, 1) := by decide +kernel
theorem dX1_isSpot_1 : decode cX1_isSpot 1 = .ok (.bipush 48, 2) := by decide +kernel
theorem dX1_isSpot_3 : decode cX1_isSpot 3 = .ok (.if_icmp .lt 13, 3) := by decide +kernel
theorem dX1_isSpot_6 : decode cX1_isSpot 6 = .ok (.iload_n 0, 1) := by decide +kernel
theorem dX1_isSpot_7 : decode cX1_isSpot 7 = .ok (.bipush 51, 2) := by decide +kernel
theorem dX1_isSpot_9 : decode cX1_isSpot 9 = .ok (.if_icmp .ge 7, 3) := by decide +kernel
theorem dX1_isSpot_12 : decode cX1_isSpot 12 = .ok (.iconst 1, 1) := by decide +kernel
theorem dX1_isSpot_13 : decode cX1_isSpot 13 = .ok (.goto 4, 3) := by decide +kernel
theorem dX1_isSpot_16 : decode cX1_isSpot 16 = .ok (.iconst 0, 1) := by decide +kernel
theorem dX1_isSpot_17 : decode cX1_isSpot 17 = .ok (.ireturn, 1) := by decide +kernel
theorem dX1_readSteps_0 : decode cX1_readSteps 0 = .ok (.aload_n 2, 1) := by decide +kernel
theorem dX1_readSteps_1 : decode cX1_readSteps 1 = .ok (.invokevirtual 44, 3) := by decide +kernel
theorem dX1_readSteps_4 : decode cX1_readSteps 4 = .ok (.aload_n 0, 1) := by decide +kernel
theorem dX1_readSteps_5 : decode cX1_readSteps 5 = .ok (.iconst 0, 1) := by decide +kernel
theorem dX1_readSteps_6 : decode cX1_readSteps 6 = .ok (.putfield 9, 3) := by decide +kernel
theorem dX1_readSteps_9 : decode cX1_readSteps 9 = .ok (.aload_n 0, 1) := by decide +kernel
theorem dX1_readSteps_10 : decode cX1_readSteps 10 = .ok (.iconst 0, 1) := by decide +kernel
theorem dX1_readSteps_11 : decode cX1_readSteps 11 = .ok (.putfield 15, 3) := by decide +kernel
theorem dX1_readSteps_14 : decode cX1_readSteps 14 = .ok (.aload_n 0, 1) := by decide +kernel
theorem dX1_readSteps_15 : decode cX1_readSteps 15 = .ok (.aload_n 1, 1) := by decide +kernel
theorem dX1_readSteps_16 : decode cX1_readSteps 16 = .ok (.aload_n 2, 1) := by decide +kernel
theorem dX1_readSteps_17 : decode cX1_readSteps 17 = .ok (.iconst 0, 1) := by decide +kernel
theorem dX1_readSteps_18 : decode cX1_readSteps 18 = .ok (.iconst 0, 1) := by decide +kernel
theorem dX1_readSteps_19 : decode cX1_readSteps 19 = .ok (.invokevirtual 47, 3) := by decide +kernel
theorem dX1_readSteps_22 : decode cX1_readSteps 22 = .ok (.pop, 1) := by decide +kernel
theorem dX1_readSteps_23 : decode cX1_readSteps 23 = .ok (.aload_n 0, 1) := by decide +kernel
theorem dX1_readSteps_24 : decode cX1_readSteps 24 = .ok (.getfield 15, 3) := by decide +kernel
theorem dX1_readSteps_27 : decode cX1_readSteps 27 = .ok (.ifCond .ne 7, 3) := by decide +kernel
theorem dX1_readSteps_30 : decode cX1_readSteps 30 = .ok (.iconst 1, 1) := by decide +kernel
theorem dX1_readSteps_31 : decode cX1_readSteps 31 = .ok (.goto 4, 3) := by decide +kernel
theorem dX1_readSteps_34 : decode cX1_readSteps 34 = .ok (.iconst 0, 1) := by decide +kernel
theorem dX1_readSteps_35 : decode cX1_readSteps 35 = .ok (.ireturn, 1) := by decide +kernel
theorem dX1_readText_0 : decode cX1_readText 0 = .ok (.iload_n 3, 1) := by decide +kernel
theorem dX1_readText_1 : decode cX1_readText 1 = .ok (.istore 5, 2) := by decide +kernel
theorem dX1_readText_3 : decode cX1_readText 3 = .ok (.iload 5, 2) := by decide +kernel
theorem dX1_readText_5 : decode cX1_readText 5 = .ok (.aload_n 1, 1) := by decide +kernel
theorem dX1_readText_6 : decode cX1_readText 6 = .ok (.invokevirtual 19, 3) := by decide +kernel
theorem dX1_readText_9 : decode cX1_readText 9 = .ok (.if_icmp .ge 71, 3) := by decide +kernel
theorem dX1_readText_12 : decode cX1_readText 12 = .ok (.aload_n 0, 1) := by decide +kernel
theorem dX1_readText_13 : decode cX1_readText 13 = .ok (.getfield 15, 3) := by decide +kernel
theorem dX1_readText_16 : decode cX1_readText 16 = .ok (.ifCond .ne 64, 3) := by decide +kernel
theorem dX1_readText_19 : decode cX1_readText 19 = .ok (.aload_n 1, 1) := by decide +kernel
theorem dX1_readText_20 : decode cX1_readText 20 = .ok (.iload 5, 2) := by decide +kernel
theorem dX1_readText_22 : decode cX1_readText 22 = .ok (.invokevirtual 25, 3) := by decide +kernel
theorem dX1_readText_25 : decode cX1_readText 25 = .ok (.bipush 41, 2) := by decide +kernel
theorem dX1_readText_27 : decode cX1_readText 27 = .ok (.if_icmp .eq 53, 3) := by decide +kernel
theorem dX1_readText_30 : decode cX1_readText 30 = .ok (.aload_n 1, 1) := by decide +kernel
theorem dX1_readText_31 : decode cX1_readText 31 = .ok (.iload 5, 2) := by decide +kernel
theorem dX1_readText_33 : decode cX1_readText 33 = .ok (.invokevirtual 25, 3) := by decide +kernel
theorem dX1_readText_36 : decode cX1_readText 36 = .ok (.bipush 40, 2) := by decide +kernel
theorem dX1_readText_38 : decode cX1_readText 38 = .ok (.if_icmp .ne 25, 3) := by decide +kernel
theorem dX1_readText_41 : decode cX1_readText 41 = .ok (.iload 5, 2) := by decide +kernel
theorem dX1_readText_43 : decode cX1_readText 43 = .ok (.iconst 1, 1) := by decide +kernel
theorem dX1_readText_44 : decode cX1_readText 44 = .ok (.iadd, 1) := by decide +kernel
theorem dX1_readText_45 : decode cX1_readText 45 = .ok (.aload_n 0, 1) := by decide +kernel
theorem dX1_readText_46 : decode cX1_readText 46 = .ok (.aload_n 1, 1) := by decide +kernel
theorem dX1_readText_47 : decode cX1_readText 47 = .ok (.aload_n 2, 1) := by decide +kernel
theorem dX1_readText_48 : decode cX1_readText 48 = .ok (.iload 5, 2) := by decide +kernel
theorem dX1_readText_50 : decode cX1_readText 50 = .ok (.iload 4, 2) := by decide +kernel
theorem dX1_readText_52 : decode cX1_readText 52 = .ok (.invokevirtual 51, 3) := by decide +kernel
theorem dX1_readText_55 : decode cX1_readText 55 = .ok (.invokestatic 54, 3) := by decide +kernel
theorem dX1_readText_58 : decode cX1_readText 58 = .ok (.istore 5, 2) := by decide +kernel
theorem dX1_readText_60 : decode cX1_readText 60 = .ok (.goto (-57), 3) := by decide +kernel
theorem dX1_readText_63 : decode cX1_readText 63 = .ok (.aload_n 0, 1) := by decide +kernel
theorem dX1_readText_64 : decode cX1_readText 64 = .ok (.aload_n 1, 1) := by decide +kernel
theorem dX1_readText_65 : decode cX1_readText 65 = .ok (.iload 5, 2) := by decide +kernel
theorem dX1_readText_67 : decode cX1_readText 67 = .ok (.invokevirtual 25, 3) := by decide +kernel
theorem dX1_readText_70 : decode cX1_readText 70 = .ok (.aload_n 2, 1) := by decide +kernel
theorem dX1_readText_71 : decode cX1_readText 71 = .ok (.invokevirtual 60, 3) := by decide +kernel
theorem dX1_readText_74 : decode cX1_readText 74 = .ok (.iinc 5 1, 3) := by decide +kernel
theorem dX1_readText_77 : decode cX1_readText 77 = .ok (.goto (-74), 3) := by decide +kernel
theorem dX1_readText_80 : decode cX1_readText 80 = .ok (.iload 5, 2) := by decide +kernel
theorem dX1_readText_82 : decode cX1_readText 82 = .ok (.ireturn, 1) := by decide +kernel
theorem dX1_readPart_0 : decode cX1_readPart 0 = .ok (.iload 4, 2) := by decide +kernel
theorem dX1_readPart_2 : decode cX1_readPart 2 = .ok (.iconst 3, 1) := by decide +kernel
theorem dX1_readPart_3 : decode cX1_readPart 3 = .ok (.if_icmp .lt 8, 3) := by decide +kernel
theorem dX1_readPart_6 : decode cX1_readPart 6 = .ok (.aload_n 1, 1) := by decide +kernel
theorem dX1_readPart_7 : decode cX1_readPart 7 = .ok (.invokevirtual 19, 3) := by decide +kernel
theorem dX1_readPart_10 : decode cX1_readPart 10 = .ok (.ireturn, 1) := by decide +kernel
theorem dX1_readPart_11 : decode cX1_readPart 11 = .ok (.aload_n 2, 1) := by decide +kernel
theorem dX1_readPart_12 : decode cX1_readPart 12 = .ok (.invokevirtual 19, 3) := by decide +kernel
theorem dX1_readPart_15 : decode cX1_readPart 15 = .ok (.istore 5, 2) := by decide +kernel
theorem dX1_readPart_17 : decode cX1_readPart 17 = .ok (.aload_n 0, 1) := by decide +kernel
theorem dX1_readPart_18 : decode cX1_readPart 18 = .ok (.aload_n 1, 1) := by decide +kernel
theorem dX1_readPart_19 : decode cX1_readPart 19 = .ok (.aload_n 2, 1) := by decide +kernel
theorem dX1_readPart_20 : decode cX1_readPart 20 = .ok (.iload_n 3, 1) := by decide +kernel
theorem dX1_readPart_21 : decode cX1_readPart 21 = .ok (.iconst 1, 1) := by decide +kernel
theorem dX1_readPart_22 : decode cX1_readPart 22 = .ok (.iadd, 1) := by decide +kernel
theorem dX1_readPart_23 : decode cX1_readPart 23 = .ok (.iload 4, 2) := by decide +kernel
theorem dX1_readPart_25 : decode cX1_readPart 25 = .ok (.iconst 1, 1) := by decide +kernel
theorem dX1_readPart_26 : decode cX1_readPart 26 = .ok (.iadd, 1) := by decide +kernel
theorem dX1_readPart_27 : decode cX1_readPart 27 = .ok (.invokevirtual 47, 3) := by decide +kernel
theorem dX1_readPart_30 : decode cX1_readPart 30 = .ok (.istore 6, 2) := by decide +kernel
theorem dX1_readPart_32 : decode cX1_readPart 32 = .ok (.aload_n 1, 1) := by decide +kernel
theorem dX1_readPart_33 : decode cX1_readPart 33 = .ok (.iload 6, 2) := by decide +kernel
theorem dX1_readPart_35 : decode cX1_readPart 35 = .ok (.iconst 1, 1) := by decide +kernel
theorem dX1_readPart_36 : decode cX1_readPart 36 = .ok (.iadd, 1) := by decide +kernel
theorem dX1_readPart_37 : decode cX1_readPart 37 = .ok (.invokevirtual 25, 3) := by decide +kernel
theorem dX1_readPart_40 : decode cX1_readPart 40 = .ok (.bipush 48, 2) := by decide +kernel
theorem dX1_readPart_42 : decode cX1_readPart 42 = .ok (.isub, 1) := by decide +kernel
theorem dX1_readPart_43 : decode cX1_readPart 43 = .ok (.istore 7, 2) := by decide +kernel
theorem dX1_readPart_45 : decode cX1_readPart 45 = .ok (.iconst 1, 1) := by decide +kernel
theorem dX1_readPart_46 : decode cX1_readPart 46 = .ok (.istore 8, 2) := by decide +kernel
theorem dX1_readPart_48 : decode cX1_readPart 48 = .ok (.iload 8, 2) := by decide +kernel
theorem dX1_readPart_50 : decode cX1_readPart 50 = .ok (.iload 7, 2) := by decide +kernel
theorem dX1_readPart_52 : decode cX1_readPart 52 = .ok (.if_icmp .ge 39, 3) := by decide +kernel
theorem dX1_readPart_55 : decode cX1_readPart 55 = .ok (.aload_n 2, 1) := by decide +kernel
theorem dX1_readPart_56 : decode cX1_readPart 56 = .ok (.invokevirtual 19, 3) := by decide +kernel
theorem dX1_readPart_59 : decode cX1_readPart 59 = .ok (.iload 5, 2) := by decide +kernel
theorem dX1_readPart_61 : decode cX1_readPart 61 = .ok (.if_icmp .le 30, 3) := by decide +kernel
theorem dX1_readPart_64 : decode cX1_readPart 64 = .ok (.aload_n 0, 1) := by decide +kernel
theorem dX1_readPart_65 : decode cX1_readPart 65 = .ok (.getfield 15, 3) := by decide +kernel
theorem dX1_readPart_68 : decode cX1_readPart 68 = .ok (.ifCond .ne 23, 3) := by decide +kernel
theorem dX1_readPart_71 : decode cX1_readPart 71 = .ok (.aload_n 0, 1) := by decide +kernel
theorem dX1_readPart_72 : decode cX1_readPart 72 = .ok (.aload_n 1, 1) := by decide +kernel
theorem dX1_readPart_73 : decode cX1_readPart 73 = .ok (.aload_n 2, 1) := by decide +kernel
theorem dX1_readPart_74 : decode cX1_readPart 74 = .ok (.iload_n 3, 1) := by decide +kernel
theorem dX1_readPart_75 : decode cX1_readPart 75 = .ok (.iconst 1, 1) := by decide +kernel
theorem dX1_readPart_76 : decode cX1_readPart 76 = .ok (.iadd, 1) := by decide +kernel
theorem dX1_readPart_77 : decode cX1_readPart 77 = .ok (.iload 4, 2) := by decide +kernel
theorem dX1_readPart_79 : decode cX1_readPart 79 = .ok (.iconst 1, 1) := by decide +kernel
theorem dX1_readPart_80 : decode cX1_readPart 80 = .ok (.iadd, 1) := by decide +kernel
theorem dX1_readPart_81 : decode cX1_readPart 81 = .ok (.invokevirtual 47, 3) := by decide +kernel
theorem dX1_readPart_84 : decode cX1_readPart 84 = .ok (.pop, 1) := by decide +kernel
theorem dX1_readPart_85 : decode cX1_readPart 85 = .ok (.iinc 8 1, 3) := by decide +kernel
theorem dX1_readPart_88 : decode cX1_readPart 88 = .ok (.goto (-40), 3) := by decide +kernel
theorem dX1_readPart_91 : decode cX1_readPart 91 = .ok (.iload 6, 2) := by decide +kernel
theorem dX1_readPart_93 : decode cX1_readPart 93 = .ok (.iconst 2, 1) := by decide +kernel
theorem dX1_readPart_94 : decode cX1_readPart 94 = .ok (.iadd, 1) := by decide +kernel
theorem dX1_readPart_95 : decode cX1_readPart 95 = .ok (.ireturn, 1) := by decide +kernel
theorem dX1_readSign_0 : decode cX1_readSign 0 = .ok (.iload_n 1, 1) := by decide +kernel
theorem dX1_readSign_1 : decode cX1_readSign 1 = .ok (.invokestatic 33, 3) := by decide +kernel
theorem dX1_readSign_4 : decode cX1_readSign 4 = .ok (.ifCond .eq 14, 3) := by decide +kernel
theorem dX1_readSign_7 : decode cX1_readSign 7 = .ok (.aload_n 0, 1) := by decide +kernel
theorem dX1_readSign_8 : decode cX1_readSign 8 = .ok (.iload_n 1, 1) := by decide +kernel
theorem dX1_readSign_9 : decode cX1_readSign 9 = .ok (.bipush 48, 2) := by decide +kernel
theorem dX1_readSign_11 : decode cX1_readSign 11 = .ok (.isub, 1) := by decide +kernel
theorem dX1_readSign_12 : decode cX1_readSign 12 = .ok (.putfield 9, 3) := by decide +kernel
theorem dX1_readSign_15 : decode cX1_readSign 15 = .ok (.goto 33, 3) := by decide +kernel
theorem dX1_readSign_18 : decode cX1_readSign 18 = .ok (.aload_n 0, 1) := by decide +kernel
theorem dX1_readSign_19 : decode cX1_readSign 19 = .ok (.aload_n 2, 1) := by decide +kernel
theorem dX1_readSign_20 : decode cX1_readSign 20 = .ok (.ldc 37, 2) := by decide +kernel
theorem dX1_readSign_22 : decode cX1_readSign 22 = .ok (.iload_n 1, 1) := by decide +kernel
theorem dX1_readSign_23 : decode cX1_readSign 23 = .ok (.i2c, 1) := by decide +kernel
theorem dX1_readSign_24 : decode cX1_readSign 24 = .ok (.invokevirtual 39, 3) := by decide +kernel
theorem dX1_readSign_27 : decode cX1_readSign 27 = .ok (.aload_n 0, 1) := by decide +kernel
theorem dX1_readSign_28 : decode cX1_readSign 28 = .ok (.getfield 9, 3) := by decide +kernel
theorem dX1_readSign_31 : decode cX1_readSign 31 = .ok (.invokestatic 64, 3) := by decide +kernel
theorem dX1_readSign_34 : decode cX1_readSign 34 = .ok (.invokevirtual 67, 3) := by decide +kernel
theorem dX1_readSign_37 : decode cX1_readSign 37 = .ok (.ifCond .ne 7, 3) := by decide +kernel
theorem dX1_readSign_40 : decode cX1_readSign 40 = .ok (.iconst 1, 1) := by decide +kernel
theorem dX1_readSign_41 : decode cX1_readSign 41 = .ok (.goto 4, 3) := by decide +kernel
theorem dX1_readSign_44 : decode cX1_readSign 44 = .ok (.iconst 0, 1) := by decide +kernel
theorem dX1_readSign_45 : decode cX1_readSign 45 = .ok (.putfield 15, 3) := by decide +kernel
theorem dX1_readSign_48 : decode cX1_readSign 48 = .ok (.return_, 1) := by decide +kernel
theorem dX2_init_0 : decode cX2_init 0 = .ok (.aload_n 0, 1) := by decide +kernel
theorem dX2_init_1 : decode cX2_init 1 = .ok (.invokespecial 3, 3) := by decide +kernel
theorem dX2_init_4 : decode cX2_init 4 = .ok (.aload_n 0, 1) := by decide +kernel
theorem dX2_init_5 : decode cX2_init 5 = .ok (.iload_n 1, 1) := by decide +kernel
theorem dX2_init_6 : decode cX2_init 6 = .ok (.iconst 0, 1) := by decide +kernel
theorem dX2_init_7 : decode cX2_init 7 = .ok (.invokestatic 9, 3) := by decide +kernel
theorem dX2_init_10 : decode cX2_init 10 = .ok (.newarray .int, 2) := by decide +kernel
theorem dX2_init_12 : decode cX2_init 12 = .ok (.putfield 15, 3) := by decide +kernel
theorem dX2_init_15 : decode cX2_init 15 = .ok (.aload_n 0, 1) := by decide +kernel
theorem dX2_init_16 : decode cX2_init 16 = .ok (.iconst 0, 1) := by decide +kernel
theorem dX2_init_17 : decode cX2_init 17 = .ok (.putfield 21, 3) := by decide +kernel
theorem dX2_init_20 : decode cX2_init 20 = .ok (.return_, 1) := by decide +kernel
theorem dX2_size_0 : decode cX2_size 0 = .ok (.aload_n 0, 1) := by decide +kernel
theorem dX2_size_1 : decode cX2_size 1 = .ok (.getfield 21, 3) := by decide +kernel
theorem dX2_size_4 : decode cX2_size 4 = .ok (.ireturn, 1) := by decide +kernel
theorem dX2_get_0 : decode cX2_get 0 = .ok (.iload_n 1, 1) := by decide +kernel
theorem dX2_get_1 : decode cX2_get 1 = .ok (.ifCond .lt 29, 3) := by decide +kernel
theorem dX2_get_4 : decode cX2_get 4 = .ok (.iload_n 1, 1) := by decide +kernel
theorem dX2_get_5 : decode cX2_get 5 = .ok (.aload_n 0, 1) := by decide +kernel
theorem dX2_get_6 : decode cX2_get 6 = .ok (.getfield 21, 3) := by decide +kernel
theorem dX2_get_9 : decode cX2_get 9 = .ok (.if_icmp .ge 21, 3) := by decide +kernel
theorem dX2_get_12 : decode cX2_get 12 = .ok (.iload_n 1, 1) := by decide +kernel
theorem dX2_get_13 : decode cX2_get 13 = .ok (.aload_n 0, 1) := by decide +kernel
theorem dX2_get_14 : decode cX2_get 14 = .ok (.getfield 15, 3) := by decide +kernel
theorem dX2_get_17 : decode cX2_get 17 = .ok (.arraylength, 1) := by decide +kernel
theorem dX2_get_18 : decode cX2_get 18 = .ok (.if_icmp .ge 12, 3) := by decide +kernel
theorem dX2_get_21 : decode cX2_get 21 = .ok (.aload_n 0, 1) := by decide +kernel
theorem dX2_get_22 : decode cX2_get 22 = .ok (.getfield 15, 3) := by decide +kernel
theorem dX2_get_25 : decode cX2_get 25 = .ok (.iload_n 1, 1) := by decide +kernel
theorem dX2_get_26 : decode cX2_get 26 = .ok (.iaload, 1) := by decide +kernel
theorem dX2_get_27 : decode cX2_get 27 = .ok (.goto 5, 3) := by decide +kernel
theorem dX2_get_30 : decode cX2_get 30 = .ok (.bipush (-6), 2) := by decide +kernel
theorem dX2_get_32 : decode cX2_get 32 = .ok (.ireturn, 1) := by decide +kernel
theorem dX2_add_0 : decode cX2_add 0 = .ok (.aload_n 0, 1) := by decide +kernel
theorem dX2_add_1 : decode cX2_add 1 = .ok (.getfield 21, 3) := by decide +kernel
theorem dX2_add_4 : decode cX2_add 4 = .ok (.ifCond .lt 15, 3) := by decide +kernel
theorem dX2_add_7 : decode cX2_add 7 = .ok (.aload_n 0, 1) := by decide +kernel
theorem dX2_add_8 : decode cX2_add 8 = .ok (.getfield 21, 3) := by decide +kernel
theorem dX2_add_11 : decode cX2_add 11 = .ok (.aload_n 0, 1) := by decide +kernel
theorem dX2_add_12 : decode cX2_add 12 = .ok (.getfield 15, 3) := by decide +kernel
theorem dX2_add_15 : decode cX2_add 15 = .ok (.arraylength, 1) := by decide +kernel
theorem dX2_add_16 : decode cX2_add 16 = .ok (.if_icmp .lt 5, 3) := by decide +kernel
theorem dX2_add_19 : decode cX2_add 19 = .ok (.iconst 0, 1) := by decide +kernel
theorem dX2_add_20 : decode cX2_add 20 = .ok (.ireturn, 1) := by decide +kernel
theorem dX2_add_21 : decode cX2_add 21 = .ok (.aload_n 0, 1) := by decide +kernel
theorem dX2_add_22 : decode cX2_add 22 = .ok (.getfield 15, 3) := by decide +kernel
theorem dX2_add_25 : decode cX2_add 25 = .ok (.aload_n 0, 1) := by decide +kernel
theorem dX2_add_26 : decode cX2_add 26 = .ok (.getfield 21, 3) := by decide +kernel
theorem dX2_add_29 : decode cX2_add 29 = .ok (.iload_n 1, 1) := by decide +kernel
theorem dX2_add_30 : decode cX2_add 30 = .ok (.iastore, 1) := by decide +kernel
theorem dX2_add_31 : decode cX2_add 31 = .ok (.aload_n 0, 1) := by decide +kernel
theorem dX2_add_32 : decode cX2_add 32 = .ok (.dup, 1) := by decide +kernel
theorem dX2_add_33 : decode cX2_add 33 = .ok (.getfield 21, 3) := by decide +kernel
theorem dX2_add_36 : decode cX2_add 36 = .ok (.iconst 1, 1) := by decide +kernel
theorem dX2_add_37 : decode cX2_add 37 = .ok (.iadd, 1) := by decide +kernel
theorem dX2_add_38 : decode cX2_add 38 = .ok (.putfield 21, 3) := by decide +kernel
theorem dX2_add_41 : decode cX2_add 41 = .ok (.iconst 1, 1) := by decide +kernel
theorem dX2_add_42 : decode cX2_add 42 = .ok (.ireturn, 1) := by decide +kernel
theorem dX2_clear_0 : decode cX2_clear 0 = .ok (.aload_n 0, 1) := by decide +kernel
theorem dX2_clear_1 : decode cX2_clear 1 = .ok (.iconst 0, 1) := by decide +kernel
theorem dX2_clear_2 : decode cX2_clear 2 = .ok (.putfield 21, 3) := by decide +kernel
theorem dX2_clear_5 : decode cX2_clear 5 = .ok (.return_, 1) := by decide +kernel
theorem dX2_addAll_0 : decode cX2_addAll 0 = .ok (.aload_n 1, 1) := by decide +kernel
theorem dX2_addAll_1 : decode cX2_addAll 1 = .ok (.invokevirtual 25, 3) := by decide +kernel
theorem dX2_addAll_4 : decode cX2_addAll 4 = .ok (.istore_n 2, 1) := by decide +kernel
theorem dX2_addAll_5 : decode cX2_addAll 5 = .ok (.iconst 0, 1) := by decide +kernel
theorem dX2_addAll_6 : decode cX2_addAll 6 = .ok (.istore_n 3, 1) := by decide +kernel
theorem dX2_addAll_7 : decode cX2_addAll 7 = .ok (.iload_n 3, 1) := by decide +kernel
theorem dX2_addAll_8 : decode cX2_addAll 8 = .ok (.iload_n 2, 1) := by decide +kernel
theorem dX2_addAll_9 : decode cX2_addAll 9 = .ok (.if_icmp .ge 19, 3) := by decide +kernel
theorem dX2_addAll_12 : decode cX2_addAll 12 = .ok (.aload_n 0, 1) := by decide +kernel
theorem dX2_addAll_13 : decode cX2_addAll 13 = .ok (.aload_n 1, 1) := by decide +kernel
theorem dX2_addAll_14 : decode cX2_addAll 14 = .ok (.iload_n 3, 1) := by decide +kernel
theorem dX2_addAll_15 : decode cX2_addAll 15 = .ok (.invokevirtual 28, 3) := by decide +kernel
theorem dX2_addAll_18 : decode cX2_addAll 18 = .ok (.invokevirtual 32, 3) := by decide +kernel
theorem dX2_addAll_21 : decode cX2_addAll 21 = .ok (.pop, 1) := by decide +kernel
theorem dX2_addAll_22 : decode cX2_addAll 22 = .ok (.iinc 3 1, 3) := by decide +kernel
theorem dX2_addAll_25 : decode cX2_addAll 25 = .ok (.goto (-18), 3) := by decide +kernel
theorem dX2_addAll_28 : decode cX2_addAll 28 = .ok (.return_, 1) := by decide +kernel
theorem dX2_become_0 : decode cX2_become 0 = .ok (.aload_n 0, 1) := by decide +kernel
theorem dX2_become_1 : decode cX2_become 1 = .ok (.invokevirtual 36, 3) := by decide +kernel
theorem dX2_become_4 : decode cX2_become 4 = .ok (.aload_n 0, 1) := by decide +kernel
theorem dX2_become_5 : decode cX2_become 5 = .ok (.aload_n 1, 1) := by decide +kernel
theorem dX2_become_6 : decode cX2_become 6 = .ok (.invokevirtual 39, 3) := by decide +kernel
theorem dX2_become_9 : decode cX2_become 9 = .ok (.return_, 1) := by decide +kernel
theorem dX2_isLike_0 : decode cX2_isLike 0 = .ok (.aload_n 0, 1) := by decide +kernel
theorem dX2_isLike_1 : decode cX2_isLike 1 = .ok (.getfield 21, 3) := by decide +kernel
theorem dX2_isLike_4 : decode cX2_isLike 4 = .ok (.aload_n 1, 1) := by decide +kernel
theorem dX2_isLike_5 : decode cX2_isLike 5 = .ok (.invokevirtual 25, 3) := by decide +kernel
theorem dX2_isLike_8 : decode cX2_isLike 8 = .ok (.if_icmp .eq 5, 3) := by decide +kernel
theorem dX2_isLike_11 : decode cX2_isLike 11 = .ok (.iconst 0, 1) := by decide +kernel
theorem dX2_isLike_12 : decode cX2_isLike 12 = .ok (.ireturn, 1) := by decide +kernel
theorem dX2_isLike_13 : decode cX2_isLike 13 = .ok (.iconst 0, 1) := by decide +kernel
theorem dX2_isLike_14 : decode cX2_isLike 14 = .ok (.istore_n 2, 1) := by decide +kernel
theorem dX2_isLike_15 : decode cX2_isLike 15 = .ok (.iload_n 2, 1) := by decide +kernel
theorem dX2_isLike_16 : decode cX2_isLike 16 = .ok (.aload_n 0, 1) := by decide +kernel
theorem dX2_isLike_17 : decode cX2_isLike 17 = .ok (.getfield 21, 3) := by decide +kernel
theorem dX2_isLike_20 : decode cX2_isLike 20 = .ok (.if_icmp .ge 24, 3) := by decide +kernel
theorem dX2_isLike_23 : decode cX2_isLike 23 = .ok (.aload_n 0, 1) := by decide +kernel
theorem dX2_isLike_24 : decode cX2_isLike 24 = .ok (.iload_n 2, 1) := by decide +kernel
theorem dX2_isLike_25 : decode cX2_isLike 25 = .ok (.invokevirtual 28, 3) := by decide +kernel
theorem dX2_isLike_28 : decode cX2_isLike 28 = .ok (.aload_n 1, 1) := by decide +kernel
theorem dX2_isLike_29 : decode cX2_isLike 29 = .ok (.iload_n 2, 1) := by decide +kernel
theorem dX2_isLike_30 : decode cX2_isLike 30 = .ok (.invokevirtual 28, 3) := by decide +kernel
theorem dX2_isLike_33 : decode cX2_isLike 33 = .ok (.if_icmp .eq 5, 3) := by decide +kernel
theorem dX2_isLike_36 : decode cX2_isLike 36 = .ok (.iconst 0, 1) := by decide +kernel
theorem dX2_isLike_37 : decode cX2_isLike 37 = .ok (.ireturn, 1) := by decide +kernel
theorem dX2_isLike_38 : decode cX2_isLike 38 = .ok (.iinc 2 1, 3) := by decide +kernel
theorem dX2_isLike_41 : decode cX2_isLike 41 = .ok (.goto (-26), 3) := by decide +kernel
theorem dX2_isLike_44 : decode cX2_isLike 44 = .ok (.iconst 1, 1) := by decide +kernel
theorem dX2_isLike_45 : decode cX2_isLike 45 = .ok (.ireturn, 1) := by decide +kernel
theorem dX2_comesAgainAfter_0 : decode cX2_comesAgainAfter 0 = .ok (.iload_n 1, 1) := by decide +kernel
theorem dX2_comesAgainAfter_1 : decode cX2_comesAgainAfter 1 = .ok (.istore_n 2, 1) := by decide +kernel
theorem dX2_comesAgainAfter_2 : decode cX2_comesAgainAfter 2 = .ok (.iload_n 2, 1) := by decide +kernel
theorem dX2_comesAgainAfter_3 : decode cX2_comesAgainAfter 3 = .ok (.aload_n 0, 1) := by decide +kernel
theorem dX2_comesAgainAfter_4 : decode cX2_comesAgainAfter 4 = .ok (.getfield 21, 3) := by decide +kernel
theorem dX2_comesAgainAfter_7 : decode cX2_comesAgainAfter 7 = .ok (.if_icmp .ge 26, 3) := by decide +kernel
theorem dX2_comesAgainAfter_10 : decode cX2_comesAgainAfter 10 = .ok (.aload_n 0, 1) := by decide +kernel
theorem dX2_comesAgainAfter_11 : decode cX2_comesAgainAfter 11 = .ok (.iload_n 2, 1) := by decide +kernel
theorem dX2_comesAgainAfter_12 : decode cX2_comesAgainAfter 12 = .ok (.invokevirtual 28, 3) := by decide +kernel
theorem dX2_comesAgainAfter_15 : decode cX2_comesAgainAfter 15 = .ok (.aload_n 0, 1) := by decide +kernel
theorem dX2_comesAgainAfter_16 : decode cX2_comesAgainAfter 16 = .ok (.iload_n 2, 1) := by decide +kernel
theorem dX2_comesAgainAfter_17 : decode cX2_comesAgainAfter 17 = .ok (.iload_n 1, 1) := by decide +kernel
theorem dX2_comesAgainAfter_18 : decode cX2_comesAgainAfter 18 = .ok (.isub, 1) := by decide +kernel
theorem dX2_comesAgainAfter_19 : decode cX2_comesAgainAfter 19 = .ok (.invokevirtual 28, 3) := by decide +kernel
theorem dX2_comesAgainAfter_22 : decode cX2_comesAgainAfter 22 = .ok (.if_icmp .eq 5, 3) := by decide +kernel
theorem dX2_comesAgainAfter_25 : decode cX2_comesAgainAfter 25 = .ok (.iconst 0, 1) := by decide +kernel
theorem dX2_comesAgainAfter_26 : decode cX2_comesAgainAfter 26 = .ok (.ireturn, 1) := by decide +kernel
theorem dX2_comesAgainAfter_27 : decode cX2_comesAgainAfter 27 = .ok (.iinc 2 1, 3) := by decide +kernel
theorem dX2_comesAgainAfter_30 : decode cX2_comesAgainAfter 30 = .ok (.goto (-28), 3) := by decide +kernel
theorem dX2_comesAgainAfter_33 : decode cX2_comesAgainAfter 33 = .ok (.iconst 1, 1) := by decide +kernel
theorem dX2_comesAgainAfter_34 : decode cX2_comesAgainAfter 34 = .ok (.ireturn, 1) := by decide +kernel
theorem dX3_init_0 : decode cX3_init 0 = .ok (.aload_n 0, 1) := by decide +kernel
theorem dX3_init_1 : decode cX3_init 1 = .ok (.invokespecial 3, 3) := by decide +kernel
theorem dX3_init_4 : decode cX3_init 4 = .ok (.aload_n 0, 1) := by decide +kernel
theorem dX3_init_5 : decode cX3_init 5 = .ok (.bipush 120, 2) := by decide +kernel
theorem dX3_init_7 : decode cX3_init 7 = .ok (.newarray .int, 2) := by decide +kernel
theorem dX3_init_9 : decode cX3_init 9 = .ok (.putfield 9, 3) := by decide +kernel
theorem dX3_init_12 : decode cX3_init 12 = .ok (.aload_n 0, 1) := by decide +kernel
theorem dX3_init_13 : decode cX3_init 13 = .ok (.bipush 120, 2) := by decide +kernel
theorem dX3_init_15 : decode cX3_init 15 = .ok (.newarray .boolean, 2) := by decide +kernel
theorem dX3_init_17 : decode cX3_init 17 = .ok (.putfield 15, 3) := by decide +kernel
theorem dX3_init_20 : decode cX3_init 20 = .ok (.aload_n 0, 1) := by decide +kernel
theorem dX3_init_21 : decode cX3_init 21 = .ok (.bipush 9, 2) := by decide +kernel
theorem dX3_init_23 : decode cX3_init 23 = .ok (.newarray .int, 2) := by decide +kernel
theorem dX3_init_25 : decode cX3_init 25 = .ok (.putfield 19, 3) := by decide +kernel
theorem dX3_init_28 : decode cX3_init 28 = .ok (.aload_n 0, 1) := by decide +kernel
theorem dX3_init_29 : decode cX3_init 29 = .ok (.bipush 9, 2) := by decide +kernel
theorem dX3_init_31 : decode cX3_init 31 = .ok (.newarray .int, 2) := by decide +kernel
theorem dX3_init_33 : decode cX3_init 33 = .ok (.putfield 22, 3) := by decide +kernel
theorem dX3_init_36 : decode cX3_init 36 = .ok (.return_, 1) := by decide +kernel
theorem dX3_shortForm_0 : decode cX3_shortForm 0 = .ok (.aload_n 0, 1) := by decide +kernel
theorem dX3_shortForm_1 : decode cX3_shortForm 1 = .ok (.aload_n 1, 1) := by decide +kernel
theorem dX3_shortForm_2 : decode cX3_shortForm 2 = .ok (.invokevirtual 25, 3) := by decide +kernel
theorem dX3_shortForm_5 : decode cX3_shortForm 5 = .ok (.aload_n 0, 1) := by decide +kernel
theorem dX3_shortForm_6 : decode cX3_shortForm 6 = .ok (.aload_n 1, 1) := by decide +kernel
theorem dX3_shortForm_7 : decode cX3_shortForm 7 = .ok (.aload_n 2, 1) := by decide +kernel
theorem dX3_shortForm_8 : decode cX3_shortForm 8 = .ok (.invokevirtual 29, 3) := by decide +kernel
theorem dX3_shortForm_11 : decode cX3_shortForm 11 = .ok (.return_, 1) := by decide +kernel
theorem dX3_markWhatStays_0 : decode cX3_markWhatStays 0 = .ok (.aload_n 0, 1) := by decide +kernel
theorem dX3_markWhatStays_1 : decode cX3_markWhatStays 1 = .ok (.getfield 19, 3) := by decide +kernel
theorem dX3_markWhatStays_4 : decode cX3_markWhatStays 4 = .ok (.iconst (-1), 1) := by decide +kernel
theorem dX3_markWhatStays_5 : decode cX3_markWhatStays 5 = .ok (.invokestatic 33, 3) := by decide +kernel
theorem dX3_markWhatStays_8 : decode cX3_markWhatStays 8 = .ok (.aload_n 1, 1) := by decide +kernel
theorem dX3_markWhatStays_9 : decode cX3_markWhatStays 9 = .ok (.invokevirtual 39, 3) := by decide +kernel
theorem dX3_markWhatStays_12 : decode cX3_markWhatStays 12 = .ok (.aload_n 0, 1) := by decide +kernel
theorem dX3_markWhatStays_13 : decode cX3_markWhatStays 13 = .ok (.getfield 15, 3) := by decide +kernel
theorem dX3_markWhatStays_16 : decode cX3_markWhatStays 16 = .ok (.arraylength, 1) := by decide +kernel
theorem dX3_markWhatStays_17 : decode cX3_markWhatStays 17 = .ok (.invokestatic 45, 3) := by decide +kernel
theorem dX3_markWhatStays_20 : decode cX3_markWhatStays 20 = .ok (.istore_n 2, 1) := by decide +kernel
theorem dX3_markWhatStays_21 : decode cX3_markWhatStays 21 = .ok (.iconst 0, 1) := by decide +kernel
theorem dX3_markWhatStays_22 : decode cX3_markWhatStays 22 = .ok (.istore_n 3, 1) := by decide +kernel
theorem dX3_markWhatStays_23 : decode cX3_markWhatStays 23 = .ok (.iload_n 3, 1) := by decide +kernel
theorem dX3_markWhatStays_24 : decode cX3_markWhatStays 24 = .ok (.iload_n 2, 1) := by decide +kernel
theorem dX3_markWhatStays_25 : decode cX3_markWhatStays 25 = .ok (.if_icmp .ge 135, 3) := by decide +kernel
theorem dX3_markWhatStays_28 : decode cX3_markWhatStays 28 = .ok (.aload_n 1, 1) := by decide +kernel
theorem dX3_markWhatStays_29 : decode cX3_markWhatStays 29 = .ok (.iload_n 3, 1) := by decide +kernel
theorem dX3_markWhatStays_30 : decode cX3_markWhatStays 30 = .ok (.invokevirtual 51, 3) := by decide +kernel
theorem dX3_markWhatStays_33 : decode cX3_markWhatStays 33 = .ok (.invokestatic 55, 3) := by decide +kernel
theorem dX3_markWhatStays_36 : decode cX3_markWhatStays 36 = .ok (.iconst 1, 1) := by decide +kernel
theorem dX3_markWhatStays_37 : decode cX3_markWhatStays 37 = .ok (.iadd, 1) := by decide +kernel
theorem dX3_markWhatStays_38 : decode cX3_markWhatStays 38 = .ok (.istore 4, 2) := by decide +kernel
theorem dX3_markWhatStays_40 : decode cX3_markWhatStays 40 = .ok (.iload 4, 2) := by decide +kernel
theorem dX3_markWhatStays_42 : decode cX3_markWhatStays 42 = .ok (.iconst 1, 1) := by decide +kernel
theorem dX3_markWhatStays_43 : decode cX3_markWhatStays 43 = .ok (.if_icmp .lt 111, 3) := by decide +kernel
theorem dX3_markWhatStays_46 : decode cX3_markWhatStays 46 = .ok (.iload 4, 2) := by decide +kernel
theorem dX3_markWhatStays_48 : decode cX3_markWhatStays 48 = .ok (.bipush 7, 2) := by decide +kernel
theorem dX3_markWhatStays_50 : decode cX3_markWhatStays 50 = .ok (.if_icmp .le 6, 3) := by decide +kernel
theorem dX3_markWhatStays_53 : decode cX3_markWhatStays 53 = .ok (.goto 101, 3) := by decide +kernel
theorem dX3_markWhatStays_56 : decode cX3_markWhatStays 56 = .ok (.aload_n 0, 1) := by decide +kernel
theorem dX3_markWhatStays_57 : decode cX3_markWhatStays 57 = .ok (.getfield 19, 3) := by decide +kernel
theorem dX3_markWhatStays_60 : decode cX3_markWhatStays 60 = .ok (.iload 4, 2) := by decide +kernel
theorem dX3_markWhatStays_62 : decode cX3_markWhatStays 62 = .ok (.iaload, 1) := by decide +kernel
theorem dX3_markWhatStays_63 : decode cX3_markWhatStays 63 = .ok (.istore 5, 2) := by decide +kernel
theorem dX3_markWhatStays_65 : decode cX3_markWhatStays 65 = .ok (.iload 5, 2) := by decide +kernel
theorem dX3_markWhatStays_67 : decode cX3_markWhatStays 67 = .ok (.ifCond .lt 64, 3) := by decide +kernel
theorem dX3_markWhatStays_70 : decode cX3_markWhatStays 70 = .ok (.iload 5, 2) := by decide +kernel
theorem dX3_markWhatStays_72 : decode cX3_markWhatStays 72 = .ok (.iload_n 3, 1) := by decide +kernel
theorem dX3_markWhatStays_73 : decode cX3_markWhatStays 73 = .ok (.if_icmp .ge 58, 3) := by decide +kernel
theorem dX3_markWhatStays_76 : decode cX3_markWhatStays 76 = .ok (.aload_n 0, 1) := by decide +kernel
theorem dX3_markWhatStays_77 : decode cX3_markWhatStays 77 = .ok (.iload 4, 2) := by decide +kernel
theorem dX3_markWhatStays_79 : decode cX3_markWhatStays 79 = .ok (.invokevirtual 58, 3) := by decide +kernel
theorem dX3_markWhatStays_82 : decode cX3_markWhatStays 82 = .ok (.ifCond .eq 49, 3) := by decide +kernel
theorem dX3_markWhatStays_85 : decode cX3_markWhatStays 85 = .ok (.aload_n 1, 1) := by decide +kernel
theorem dX3_markWhatStays_86 : decode cX3_markWhatStays 86 = .ok (.iload 5, 2) := by decide +kernel
theorem dX3_markWhatStays_88 : decode cX3_markWhatStays 88 = .ok (.invokevirtual 51, 3) := by decide +kernel
theorem dX3_markWhatStays_91 : decode cX3_markWhatStays 91 = .ok (.aload_n 1, 1) := by decide +kernel
theorem dX3_markWhatStays_92 : decode cX3_markWhatStays 92 = .ok (.iload_n 3, 1) := by decide +kernel
theorem dX3_markWhatStays_93 : decode cX3_markWhatStays 93 = .ok (.invokevirtual 51, 3) := by decide +kernel
theorem dX3_markWhatStays_96 : decode cX3_markWhatStays 96 = .ok (.if_icmp .eq 35, 3) := by decide +kernel
theorem dX3_markWhatStays_99 : decode cX3_markWhatStays 99 = .ok (.aload_n 0, 1) := by decide +kernel
theorem dX3_markWhatStays_100 : decode cX3_markWhatStays 100 = .ok (.getfield 15, 3) := by decide +kernel
theorem dX3_markWhatStays_103 : decode cX3_markWhatStays 103 = .ok (.iload_n 3, 1) := by decide +kernel
theorem dX3_markWhatStays_104 : decode cX3_markWhatStays 104 = .ok (.iconst 0, 1) := by decide +kernel
theorem dX3_markWhatStays_105 : decode cX3_markWhatStays 105 = .ok (.bastore, 1) := by decide +kernel
theorem dX3_markWhatStays_106 : decode cX3_markWhatStays 106 = .ok (.aload_n 0, 1) := by decide +kernel
theorem dX3_markWhatStays_107 : decode cX3_markWhatStays 107 = .ok (.getfield 15, 3) := by decide +kernel
theorem dX3_markWhatStays_110 : decode cX3_markWhatStays 110 = .ok (.iload 5, 2) := by decide +kernel
theorem dX3_markWhatStays_112 : decode cX3_markWhatStays 112 = .ok (.iconst 0, 1) := by decide +kernel
theorem dX3_markWhatStays_113 : decode cX3_markWhatStays 113 = .ok (.bastore, 1) := by decide +kernel
theorem dX3_markWhatStays_114 : decode cX3_markWhatStays 114 = .ok (.aload_n 0, 1) := by decide +kernel
theorem dX3_markWhatStays_115 : decode cX3_markWhatStays 115 = .ok (.getfield 19, 3) := by decide +kernel
theorem dX3_markWhatStays_118 : decode cX3_markWhatStays 118 = .ok (.iload 4, 2) := by decide +kernel
theorem dX3_markWhatStays_120 : decode cX3_markWhatStays 120 = .ok (.aload_n 0, 1) := by decide +kernel
theorem dX3_markWhatStays_121 : decode cX3_markWhatStays 121 = .ok (.getfield 9, 3) := by decide +kernel
theorem dX3_markWhatStays_124 : decode cX3_markWhatStays 124 = .ok (.iload 5, 2) := by decide +kernel
theorem dX3_markWhatStays_126 : decode cX3_markWhatStays 126 = .ok (.iaload, 1) := by decide +kernel
theorem dX3_markWhatStays_127 : decode cX3_markWhatStays 127 = .ok (.iastore, 1) := by decide +kernel
theorem dX3_markWhatStays_128 : decode cX3_markWhatStays 128 = .ok (.goto 26, 3) := by decide +kernel
theorem dX3_markWhatStays_131 : decode cX3_markWhatStays 131 = .ok (.aload_n 0, 1) := by decide +kernel
theorem dX3_markWhatStays_132 : decode cX3_markWhatStays 132 = .ok (.getfield 15, 3) := by decide +kernel
theorem dX3_markWhatStays_135 : decode cX3_markWhatStays 135 = .ok (.iload_n 3, 1) := by decide +kernel
theorem dX3_markWhatStays_136 : decode cX3_markWhatStays 136 = .ok (.iconst 1, 1) := by decide +kernel
theorem dX3_markWhatStays_137 : decode cX3_markWhatStays 137 = .ok (.bastore, 1) := by decide +kernel
theorem dX3_markWhatStays_138 : decode cX3_markWhatStays 138 = .ok (.aload_n 0, 1) := by decide +kernel
theorem dX3_markWhatStays_139 : decode cX3_markWhatStays 139 = .ok (.getfield 9, 3) := by decide +kernel
theorem dX3_markWhatStays_142 : decode cX3_markWhatStays 142 = .ok (.iload_n 3, 1) := by decide +kernel
theorem dX3_markWhatStays_143 : decode cX3_markWhatStays 143 = .ok (.iload 5, 2) := by decide +kernel
theorem dX3_markWhatStays_145 : decode cX3_markWhatStays 145 = .ok (.iastore, 1) := by decide +kernel
theorem dX3_markWhatStays_146 : decode cX3_markWhatStays 146 = .ok (.aload_n 0, 1) := by decide +kernel
theorem dX3_markWhatStays_147 : decode cX3_markWhatStays 147 = .ok (.getfield 19, 3) := by decide +kernel
theorem dX3_markWhatStays_150 : decode cX3_markWhatStays 150 = .ok (.iload 4, 2) := by decide +kernel
theorem dX3_markWhatStays_152 : decode cX3_markWhatStays 152 = .ok (.iload_n 3, 1) := by decide +kernel
theorem dX3_markWhatStays_153 : decode cX3_markWhatStays 153 = .ok (.iastore, 1) := by decide +kernel
theorem dX3_markWhatStays_154 : decode cX3_markWhatStays 154 = .ok (.iinc 3 1, 3) := by decide +kernel
theorem dX3_markWhatStays_157 : decode cX3_markWhatStays 157 = .ok (.goto (-134), 3) := by decide +kernel
theorem dX3_markWhatStays_160 : decode cX3_markWhatStays 160 = .ok (.return_, 1) := by decide +kernel
theorem dX3_isFree_0 : decode cX3_isFree 0 = .ok (.aload_n 0, 1) := by decide +kernel
theorem dX3_isFree_1 : decode cX3_isFree 1 = .ok (.getfield 19, 3) := by decide +kernel
theorem dX3_isFree_4 : decode cX3_isFree 4 = .ok (.iload_n 1, 1) := by decide +kernel
theorem dX3_isFree_5 : decode cX3_isFree 5 = .ok (.iaload, 1) := by decide +kernel
theorem dX3_isFree_6 : decode cX3_isFree 6 = .ok (.aload_n 0, 1) := by decide +kernel
theorem dX3_isFree_7 : decode cX3_isFree 7 = .ok (.getfield 19, 3) := by decide +kernel
theorem dX3_isFree_10 : decode cX3_isFree 10 = .ok (.iload_n 1, 1) := by decide +kernel
theorem dX3_isFree_11 : decode cX3_isFree 11 = .ok (.iconst 1, 1) := by decide +kernel
theorem dX3_isFree_12 : decode cX3_isFree 12 = .ok (.isub, 1) := by decide +kernel
theorem dX3_isFree_13 : decode cX3_isFree 13 = .ok (.iaload, 1) := by decide +kernel
theorem dX3_isFree_14 : decode cX3_isFree 14 = .ok (.if_icmp .le 24, 3) := by decide +kernel
theorem dX3_isFree_17 : decode cX3_isFree 17 = .ok (.aload_n 0, 1) := by decide +kernel
theorem dX3_isFree_18 : decode cX3_isFree 18 = .ok (.getfield 19, 3) := by decide +kernel
theorem dX3_isFree_21 : decode cX3_isFree 21 = .ok (.iload_n 1, 1) := by decide +kernel
theorem dX3_isFree_22 : decode cX3_isFree 22 = .ok (.iaload, 1) := by decide +kernel
theorem dX3_isFree_23 : decode cX3_isFree 23 = .ok (.aload_n 0, 1) := by decide +kernel
theorem dX3_isFree_24 : decode cX3_isFree 24 = .ok (.getfield 19, 3) := by decide +kernel
theorem dX3_isFree_27 : decode cX3_isFree 27 = .ok (.iload_n 1, 1) := by decide +kernel
theorem dX3_isFree_28 : decode cX3_isFree 28 = .ok (.iconst 1, 1) := by decide +kernel
theorem dX3_isFree_29 : decode cX3_isFree 29 = .ok (.iadd, 1) := by decide +kernel
theorem dX3_isFree_30 : decode cX3_isFree 30 = .ok (.iaload, 1) := by decide +kernel
theorem dX3_isFree_31 : decode cX3_isFree 31 = .ok (.if_icmp .le 7, 3) := by decide +kernel
theorem dX3_isFree_34 : decode cX3_isFree 34 = .ok (.iconst 1, 1) := by decide +kernel
theorem dX3_isFree_35 : decode cX3_isFree 35 = .ok (.goto 4, 3) := by decide +kernel
theorem dX3_isFree_38 : decode cX3_isFree 38 = .ok (.iconst 0, 1) := by decide +kernel
theorem dX3_isFree_39 : decode cX3_isFree 39 = .ok (.ireturn, 1) := by decide +kernel
theorem dX3_putLeastFirst_0 : decode cX3_putLeastFirst 0 = .ok (.aload_n 2, 1) := by decide +kernel
theorem dX3_putLeastFirst_1 : decode cX3_putLeastFirst 1 = .ok (.invokevirtual 62, 3) := by decide +kernel
theorem dX3_putLeastFirst_4 : decode cX3_putLeastFirst 4 = .ok (.aload_n 1, 1) := by decide +kernel
theorem dX3_putLeastFirst_5 : decode cX3_putLeastFirst 5 = .ok (.invokevirtual 39, 3) := by decide +kernel
theorem dX3_putLeastFirst_8 : decode cX3_putLeastFirst 8 = .ok (.aload_n 0, 1) := by decide +kernel
theorem dX3_putLeastFirst_9 : decode cX3_putLeastFirst 9 = .ok (.getfield 15, 3) := by decide +kernel
theorem dX3_putLeastFirst_12 : decode cX3_putLeastFirst 12 = .ok (.arraylength, 1) := by decide +kernel
theorem dX3_putLeastFirst_13 : decode cX3_putLeastFirst 13 = .ok (.invokestatic 45, 3) := by decide +kernel
theorem dX3_putLeastFirst_16 : decode cX3_putLeastFirst 16 = .ok (.istore_n 3, 1) := by decide +kernel
theorem dX3_putLeastFirst_17 : decode cX3_putLeastFirst 17 = .ok (.aload_n 0, 1) := by decide +kernel
theorem dX3_putLeastFirst_18 : decode cX3_putLeastFirst 18 = .ok (.getfield 22, 3) := by decide +kernel
theorem dX3_putLeastFirst_21 : decode cX3_putLeastFirst 21 = .ok (.iload_n 3, 1) := by decide +kernel
theorem dX3_putLeastFirst_22 : decode cX3_putLeastFirst 22 = .ok (.invokestatic 33, 3) := by decide +kernel
theorem dX3_putLeastFirst_25 : decode cX3_putLeastFirst 25 = .ok (.iconst 1, 1) := by decide +kernel
theorem dX3_putLeastFirst_26 : decode cX3_putLeastFirst 26 = .ok (.istore 4, 2) := by decide +kernel
theorem dX3_putLeastFirst_28 : decode cX3_putLeastFirst 28 = .ok (.iload 4, 2) := by decide +kernel
theorem dX3_putLeastFirst_30 : decode cX3_putLeastFirst 30 = .ok (.bipush 7, 2) := by decide +kernel
theorem dX3_putLeastFirst_32 : decode cX3_putLeastFirst 32 = .ok (.if_icmp .gt 24, 3) := by decide +kernel
theorem dX3_putLeastFirst_35 : decode cX3_putLeastFirst 35 = .ok (.aload_n 0, 1) := by decide +kernel
theorem dX3_putLeastFirst_36 : decode cX3_putLeastFirst 36 = .ok (.getfield 22, 3) := by decide +kernel
theorem dX3_putLeastFirst_39 : decode cX3_putLeastFirst 39 = .ok (.iload 4, 2) := by decide +kernel
theorem dX3_putLeastFirst_41 : decode cX3_putLeastFirst 41 = .ok (.aload_n 0, 1) := by decide +kernel
theorem dX3_putLeastFirst_42 : decode cX3_putLeastFirst 42 = .ok (.aload_n 1, 1) := by decide +kernel
theorem dX3_putLeastFirst_43 : decode cX3_putLeastFirst 43 = .ok (.iconst 0, 1) := by decide +kernel
theorem dX3_putLeastFirst_44 : decode cX3_putLeastFirst 44 = .ok (.iload 4, 2) := by decide +kernel
theorem dX3_putLeastFirst_46 : decode cX3_putLeastFirst 46 = .ok (.invokevirtual 65, 3) := by decide +kernel
theorem dX3_putLeastFirst_49 : decode cX3_putLeastFirst 49 = .ok (.iastore, 1) := by decide +kernel
theorem dX3_putLeastFirst_50 : decode cX3_putLeastFirst 50 = .ok (.iinc 4 1, 3) := by decide +kernel
theorem dX3_putLeastFirst_53 : decode cX3_putLeastFirst 53 = .ok (.goto (-25), 3) := by decide +kernel
theorem dX3_putLeastFirst_56 : decode cX3_putLeastFirst 56 = .ok (.iconst 0, 1) := by decide +kernel
theorem dX3_putLeastFirst_57 : decode cX3_putLeastFirst 57 = .ok (.istore 4, 2) := by decide +kernel
theorem dX3_putLeastFirst_59 : decode cX3_putLeastFirst 59 = .ok (.iload 4, 2) := by decide +kernel
theorem dX3_putLeastFirst_61 : decode cX3_putLeastFirst 61 = .ok (.iload_n 3, 1) := by decide +kernel
theorem dX3_putLeastFirst_62 : decode cX3_putLeastFirst 62 = .ok (.if_icmp .ge 63, 3) := by decide +kernel
theorem dX3_putLeastFirst_65 : decode cX3_putLeastFirst 65 = .ok (.aload_n 0, 1) := by decide +kernel
theorem dX3_putLeastFirst_66 : decode cX3_putLeastFirst 66 = .ok (.iload_n 3, 1) := by decide +kernel
theorem dX3_putLeastFirst_67 : decode cX3_putLeastFirst 67 = .ok (.invokevirtual 69, 3) := by decide +kernel
theorem dX3_putLeastFirst_70 : decode cX3_putLeastFirst 70 = .ok (.istore 5, 2) := by decide +kernel
theorem dX3_putLeastFirst_72 : decode cX3_putLeastFirst 72 = .ok (.iload 5, 2) := by decide +kernel
theorem dX3_putLeastFirst_74 : decode cX3_putLeastFirst 74 = .ok (.bipush (-6), 2) := by decide +kernel
theorem dX3_putLeastFirst_76 : decode cX3_putLeastFirst 76 = .ok (.if_icmp .ne 4, 3) := by decide +kernel
theorem dX3_putLeastFirst_79 : decode cX3_putLeastFirst 79 = .ok (.return_, 1) := by decide +kernel
theorem dX3_putLeastFirst_80 : decode cX3_putLeastFirst 80 = .ok (.aload_n 2, 1) := by decide +kernel
theorem dX3_putLeastFirst_81 : decode cX3_putLeastFirst 81 = .ok (.aload_n 1, 1) := by decide +kernel
theorem dX3_putLeastFirst_82 : decode cX3_putLeastFirst 82 = .ok (.aload_n 0, 1) := by decide +kernel
theorem dX3_putLeastFirst_83 : decode cX3_putLeastFirst 83 = .ok (.getfield 22, 3) := by decide +kernel
theorem dX3_putLeastFirst_86 : decode cX3_putLeastFirst 86 = .ok (.iload 5, 2) := by decide +kernel
theorem dX3_putLeastFirst_88 : decode cX3_putLeastFirst 88 = .ok (.iaload, 1) := by decide +kernel
theorem dX3_putLeastFirst_89 : decode cX3_putLeastFirst 89 = .ok (.invokevirtual 51, 3) := by decide +kernel
theorem dX3_putLeastFirst_92 : decode cX3_putLeastFirst 92 = .ok (.invokevirtual 72, 3) := by decide +kernel
theorem dX3_putLeastFirst_95 : decode cX3_putLeastFirst 95 = .ok (.pop, 1) := by decide +kernel
theorem dX3_putLeastFirst_96 : decode cX3_putLeastFirst 96 = .ok (.aload_n 0, 1) := by decide +kernel
theorem dX3_putLeastFirst_97 : decode cX3_putLeastFirst 97 = .ok (.getfield 22, 3) := by decide +kernel
theorem dX3_putLeastFirst_100 : decode cX3_putLeastFirst 100 = .ok (.iload 5, 2) := by decide +kernel
theorem dX3_putLeastFirst_102 : decode cX3_putLeastFirst 102 = .ok (.aload_n 0, 1) := by decide +kernel
theorem dX3_putLeastFirst_103 : decode cX3_putLeastFirst 103 = .ok (.aload_n 1, 1) := by decide +kernel
theorem dX3_putLeastFirst_104 : decode cX3_putLeastFirst 104 = .ok (.aload_n 0, 1) := by decide +kernel
theorem dX3_putLeastFirst_105 : decode cX3_putLeastFirst 105 = .ok (.getfield 22, 3) := by decide +kernel
theorem dX3_putLeastFirst_108 : decode cX3_putLeastFirst 108 = .ok (.iload 5, 2) := by decide +kernel
theorem dX3_putLeastFirst_110 : decode cX3_putLeastFirst 110 = .ok (.iaload, 1) := by decide +kernel
theorem dX3_putLeastFirst_111 : decode cX3_putLeastFirst 111 = .ok (.iconst 1, 1) := by decide +kernel
theorem dX3_putLeastFirst_112 : decode cX3_putLeastFirst 112 = .ok (.iadd, 1) := by decide +kernel
theorem dX3_putLeastFirst_113 : decode cX3_putLeastFirst 113 = .ok (.iload 5, 2) := by decide +kernel
theorem dX3_putLeastFirst_115 : decode cX3_putLeastFirst 115 = .ok (.invokevirtual 65, 3) := by decide +kernel
theorem dX3_putLeastFirst_118 : decode cX3_putLeastFirst 118 = .ok (.iastore, 1) := by decide +kernel
theorem dX3_putLeastFirst_119 : decode cX3_putLeastFirst 119 = .ok (.iinc 4 1, 3) := by decide +kernel
theorem dX3_putLeastFirst_122 : decode cX3_putLeastFirst 122 = .ok (.goto (-63), 3) := by decide +kernel
theorem dX3_putLeastFirst_125 : decode cX3_putLeastFirst 125 = .ok (.return_, 1) := by decide +kernel
theorem dX3_nextThatStays_0 : decode cX3_nextThatStays 0 = .ok (.aload_n 1, 1) := by decide +kernel
theorem dX3_nextThatStays_1 : decode cX3_nextThatStays 1 = .ok (.invokevirtual 39, 3) := by decide +kernel
theorem dX3_nextThatStays_4 : decode cX3_nextThatStays 4 = .ok (.aload_n 0, 1) := by decide +kernel
theorem dX3_nextThatStays_5 : decode cX3_nextThatStays 5 = .ok (.getfield 15, 3) := by decide +kernel
theorem dX3_nextThatStays_8 : decode cX3_nextThatStays 8 = .ok (.arraylength, 1) := by decide +kernel
theorem dX3_nextThatStays_9 : decode cX3_nextThatStays 9 = .ok (.invokestatic 45, 3) := by decide +kernel
theorem dX3_nextThatStays_12 : decode cX3_nextThatStays 12 = .ok (.istore 4, 2) := by decide +kernel
theorem dX3_nextThatStays_14 : decode cX3_nextThatStays 14 = .ok (.iload_n 2, 1) := by decide +kernel
theorem dX3_nextThatStays_15 : decode cX3_nextThatStays 15 = .ok (.iconst 0, 1) := by decide +kernel
theorem dX3_nextThatStays_16 : decode cX3_nextThatStays 16 = .ok (.invokestatic 75, 3) := by decide +kernel
theorem dX3_nextThatStays_19 : decode cX3_nextThatStays 19 = .ok (.istore 5, 2) := by decide +kernel
theorem dX3_nextThatStays_21 : decode cX3_nextThatStays 21 = .ok (.iload 5, 2) := by decide +kernel
theorem dX3_nextThatStays_23 : decode cX3_nextThatStays 23 = .ok (.iload 4, 2) := by decide +kernel
theorem dX3_nextThatStays_25 : decode cX3_nextThatStays 25 = .ok (.if_icmp .ge 37, 3) := by decide +kernel
theorem dX3_nextThatStays_28 : decode cX3_nextThatStays 28 = .ok (.aload_n 0, 1) := by decide +kernel
theorem dX3_nextThatStays_29 : decode cX3_nextThatStays 29 = .ok (.getfield 15, 3) := by decide +kernel
theorem dX3_nextThatStays_32 : decode cX3_nextThatStays 32 = .ok (.iload 5, 2) := by decide +kernel
theorem dX3_nextThatStays_34 : decode cX3_nextThatStays 34 = .ok (.baload, 1) := by decide +kernel
theorem dX3_nextThatStays_35 : decode cX3_nextThatStays 35 = .ok (.ifCond .eq 21, 3) := by decide +kernel
theorem dX3_nextThatStays_38 : decode cX3_nextThatStays 38 = .ok (.aload_n 1, 1) := by decide +kernel
theorem dX3_nextThatStays_39 : decode cX3_nextThatStays 39 = .ok (.iload 5, 2) := by decide +kernel
theorem dX3_nextThatStays_41 : decode cX3_nextThatStays 41 = .ok (.invokevirtual 51, 3) := by decide +kernel
theorem dX3_nextThatStays_44 : decode cX3_nextThatStays 44 = .ok (.invokestatic 55, 3) := by decide +kernel
theorem dX3_nextThatStays_47 : decode cX3_nextThatStays 47 = .ok (.iconst 1, 1) := by decide +kernel
theorem dX3_nextThatStays_48 : decode cX3_nextThatStays 48 = .ok (.iadd, 1) := by decide +kernel
theorem dX3_nextThatStays_49 : decode cX3_nextThatStays 49 = .ok (.iload_n 3, 1) := by decide +kernel
theorem dX3_nextThatStays_50 : decode cX3_nextThatStays 50 = .ok (.if_icmp .ne 6, 3) := by decide +kernel
theorem dX3_nextThatStays_53 : decode cX3_nextThatStays 53 = .ok (.iload 5, 2) := by decide +kernel
theorem dX3_nextThatStays_55 : decode cX3_nextThatStays 55 = .ok (.ireturn, 1) := by decide +kernel
theorem dX3_nextThatStays_56 : decode cX3_nextThatStays 56 = .ok (.iinc 5 1, 3) := by decide +kernel
theorem dX3_nextThatStays_59 : decode cX3_nextThatStays 59 = .ok (.goto (-38), 3) := by decide +kernel
theorem dX3_nextThatStays_62 : decode cX3_nextThatStays 62 = .ok (.iload 4, 2) := by decide +kernel
theorem dX3_nextThatStays_64 : decode cX3_nextThatStays 64 = .ok (.ireturn, 1) := by decide +kernel
theorem dX3_leastPlaceThatCanCome_0 : decode cX3_leastPlaceThatCanCome 0 = .ok (.iconst 1, 1) := by decide +kernel
theorem dX3_leastPlaceThatCanCome_1 : decode cX3_leastPlaceThatCanCome 1 = .ok (.istore_n 2, 1) := by decide +kernel
theorem dX3_leastPlaceThatCanCome_2 : decode cX3_leastPlaceThatCanCome 2 = .ok (.iload_n 2, 1) := by decide +kernel
theorem dX3_leastPlaceThatCanCome_3 : decode cX3_leastPlaceThatCanCome 3 = .ok (.bipush 7, 2) := by decide +kernel
theorem dX3_leastPlaceThatCanCome_5 : decode cX3_leastPlaceThatCanCome 5 = .ok (.if_icmp .gt 55, 3) := by decide +kernel
theorem dX3_leastPlaceThatCanCome_8 : decode cX3_leastPlaceThatCanCome 8 = .ok (.aload_n 0, 1) := by decide +kernel
theorem dX3_leastPlaceThatCanCome_9 : decode cX3_leastPlaceThatCanCome 9 = .ok (.getfield 22, 3) := by decide +kernel
theorem dX3_leastPlaceThatCanCome_12 : decode cX3_leastPlaceThatCanCome 12 = .ok (.iload_n 2, 1) := by decide +kernel
theorem dX3_leastPlaceThatCanCome_13 : decode cX3_leastPlaceThatCanCome 13 = .ok (.iaload, 1) := by decide +kernel
theorem dX3_leastPlaceThatCanCome_14 : decode cX3_leastPlaceThatCanCome 14 = .ok (.iload_n 1, 1) := by decide +kernel
theorem dX3_leastPlaceThatCanCome_15 : decode cX3_leastPlaceThatCanCome 15 = .ok (.if_icmp .ge 39, 3) := by decide +kernel
theorem dX3_leastPlaceThatCanCome_18 : decode cX3_leastPlaceThatCanCome 18 = .ok (.aload_n 0, 1) := by decide +kernel
theorem dX3_leastPlaceThatCanCome_19 : decode cX3_leastPlaceThatCanCome 19 = .ok (.getfield 22, 3) := by decide +kernel
theorem dX3_leastPlaceThatCanCome_22 : decode cX3_leastPlaceThatCanCome 22 = .ok (.iload_n 2, 1) := by decide +kernel
theorem dX3_leastPlaceThatCanCome_23 : decode cX3_leastPlaceThatCanCome 23 = .ok (.iaload, 1) := by decide +kernel
theorem dX3_leastPlaceThatCanCome_24 : decode cX3_leastPlaceThatCanCome 24 = .ok (.aload_n 0, 1) := by decide +kernel
theorem dX3_leastPlaceThatCanCome_25 : decode cX3_leastPlaceThatCanCome 25 = .ok (.getfield 22, 3) := by decide +kernel
theorem dX3_leastPlaceThatCanCome_28 : decode cX3_leastPlaceThatCanCome 28 = .ok (.iload_n 2, 1) := by decide +kernel
theorem dX3_leastPlaceThatCanCome_29 : decode cX3_leastPlaceThatCanCome 29 = .ok (.iconst 1, 1) := by decide +kernel
theorem dX3_leastPlaceThatCanCome_30 : decode cX3_leastPlaceThatCanCome 30 = .ok (.isub, 1) := by decide +kernel
theorem dX3_leastPlaceThatCanCome_31 : decode cX3_leastPlaceThatCanCome 31 = .ok (.iaload, 1) := by decide +kernel
theorem dX3_leastPlaceThatCanCome_32 : decode cX3_leastPlaceThatCanCome 32 = .ok (.if_icmp .ge 22, 3) := by decide +kernel
theorem dX3_leastPlaceThatCanCome_35 : decode cX3_leastPlaceThatCanCome 35 = .ok (.aload_n 0, 1) := by decide +kernel
theorem dX3_leastPlaceThatCanCome_36 : decode cX3_leastPlaceThatCanCome 36 = .ok (.getfield 22, 3) := by decide +kernel
theorem dX3_leastPlaceThatCanCome_39 : decode cX3_leastPlaceThatCanCome 39 = .ok (.iload_n 2, 1) := by decide +kernel
theorem dX3_leastPlaceThatCanCome_40 : decode cX3_leastPlaceThatCanCome 40 = .ok (.iaload, 1) := by decide +kernel
theorem dX3_leastPlaceThatCanCome_41 : decode cX3_leastPlaceThatCanCome 41 = .ok (.aload_n 0, 1) := by decide +kernel
theorem dX3_leastPlaceThatCanCome_42 : decode cX3_leastPlaceThatCanCome 42 = .ok (.getfield 22, 3) := by decide +kernel
theorem dX3_leastPlaceThatCanCome_45 : decode cX3_leastPlaceThatCanCome 45 = .ok (.iload_n 2, 1) := by decide +kernel
theorem dX3_leastPlaceThatCanCome_46 : decode cX3_leastPlaceThatCanCome 46 = .ok (.iconst 1, 1) := by decide +kernel
theorem dX3_leastPlaceThatCanCome_47 : decode cX3_leastPlaceThatCanCome 47 = .ok (.iadd, 1) := by decide +kernel
theorem dX3_leastPlaceThatCanCome_48 : decode cX3_leastPlaceThatCanCome 48 = .ok (.iaload, 1) := by decide +kernel
theorem dX3_leastPlaceThatCanCome_49 : decode cX3_leastPlaceThatCanCome 49 = .ok (.if_icmp .ge 5, 3) := by decide +kernel
theorem dX3_leastPlaceThatCanCome_52 : decode cX3_leastPlaceThatCanCome 52 = .ok (.iload_n 2, 1) := by decide +kernel
theorem dX3_leastPlaceThatCanCome_53 : decode cX3_leastPlaceThatCanCome 53 = .ok (.ireturn, 1) := by decide +kernel
theorem dX3_leastPlaceThatCanCome_54 : decode cX3_leastPlaceThatCanCome 54 = .ok (.iinc 2 1, 3) := by decide +kernel
theorem dX3_leastPlaceThatCanCome_57 : decode cX3_leastPlaceThatCanCome 57 = .ok (.goto (-55), 3) := by decide +kernel
theorem dX3_leastPlaceThatCanCome_60 : decode cX3_leastPlaceThatCanCome 60 = .ok (.bipush (-6), 2) := by decide +kernel
theorem dX3_leastPlaceThatCanCome_62 : decode cX3_leastPlaceThatCanCome 62 = .ok (.ireturn, 1) := by decide +kernel
theorem dX4_init_0 : decode cX4_init 0 = .ok (.aload_n 0, 1) := by decide +kernel
theorem dX4_init_1 : decode cX4_init 1 = .ok (.invokespecial 3, 3) := by decide +kernel
theorem dX4_init_4 : decode cX4_init 4 = .ok (.aload_n 0, 1) := by decide +kernel
theorem dX4_init_5 : decode cX4_init 5 = .ok (.iconst 4, 1) := by decide +kernel
theorem dX4_init_6 : decode cX4_init 6 = .ok (.anewarray 9, 3) := by decide +kernel
theorem dX4_init_9 : decode cX4_init 9 = .ok (.putfield 11, 3) := by decide +kernel
theorem dX4_init_12 : decode cX4_init 12 = .ok (.iconst 0, 1) := by decide +kernel
theorem dX4_init_13 : decode cX4_init 13 = .ok (.istore_n 1, 1) := by decide +kernel
theorem dX4_init_14 : decode cX4_init 14 = .ok (.iload_n 1, 1) := by decide +kernel
theorem dX4_init_15 : decode cX4_init 15 = .ok (.iconst 4, 1) := by decide +kernel
theorem dX4_init_16 : decode cX4_init 16 = .ok (.if_icmp .ge 24, 3) := by decide +kernel
theorem dX4_init_19 : decode cX4_init 19 = .ok (.aload_n 0, 1) := by decide +kernel
theorem dX4_init_20 : decode cX4_init 20 = .ok (.getfield 11, 3) := by decide +kernel
theorem dX4_init_23 : decode cX4_init 23 = .ok (.iload_n 1, 1) := by decide +kernel
theorem dX4_init_24 : decode cX4_init 24 = .ok (.new 9, 3) := by decide +kernel
theorem dX4_init_27 : decode cX4_init 27 = .ok (.dup, 1) := by decide +kernel
theorem dX4_init_28 : decode cX4_init 28 = .ok (.bipush 60, 2) := by decide +kernel
theorem dX4_init_30 : decode cX4_init 30 = .ok (.invokespecial 17, 3) := by decide +kernel
theorem dX4_init_33 : decode cX4_init 33 = .ok (.aastore, 1) := by decide +kernel
theorem dX4_init_34 : decode cX4_init 34 = .ok (.iinc 1 1, 3) := by decide +kernel
theorem dX4_init_37 : decode cX4_init 37 = .ok (.goto (-23), 3) := by decide +kernel
theorem dX4_init_40 : decode cX4_init 40 = .ok (.return_, 1) := by decide +kernel
theorem dX4_row_0 : decode cX4_row 0 = .ok (.iload_n 1, 1) := by decide +kernel
theorem dX4_row_1 : decode cX4_row 1 = .ok (.ifCond .lt 21, 3) := by decide +kernel
theorem dX4_row_4 : decode cX4_row 4 = .ok (.iload_n 1, 1) := by decide +kernel
theorem dX4_row_5 : decode cX4_row 5 = .ok (.aload_n 0, 1) := by decide +kernel
theorem dX4_row_6 : decode cX4_row 6 = .ok (.getfield 11, 3) := by decide +kernel
theorem dX4_row_9 : decode cX4_row 9 = .ok (.arraylength, 1) := by decide +kernel
theorem dX4_row_10 : decode cX4_row 10 = .ok (.if_icmp .ge 12, 3) := by decide +kernel
theorem dX4_row_13 : decode cX4_row 13 = .ok (.aload_n 0, 1) := by decide +kernel
