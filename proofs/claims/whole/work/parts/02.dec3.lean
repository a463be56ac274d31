theorem dX6_written_80 : decode cX6_written 80 = .ok (.aload_n 0, 1) := by decide +kernel
theorem dX6_written_81 : decode cX6_written 81 = .ok (.iload_n 1, 1) := by decide +kernel
theorem dX6_written_82 : decode cX6_written 82 = .ok (.iload 4, 2) := by decide +kernel
theorem dX6_written_84 : decode cX6_written 84 = .ok (.invokevirtual 89, 3) := by decide +kernel
theorem dX6_written_87 : decode cX6_written 87 = .ok (.invokestatic 95, 3) := by decide +kernel
theorem dX6_written_90 : decode cX6_written 90 = .ok (.iastore, 1) := by decide +kernel
theorem dX6_written_91 : decode cX6_written 91 = .ok (.iinc 3 1, 3) := by decide +kernel
theorem dX6_written_94 : decode cX6_written 94 = .ok (.iinc 4 1, 3) := by decide +kernel
theorem dX6_written_97 : decode cX6_written 97 = .ok (.goto (-75), 3) := by decide +kernel
theorem dX6_written_100 : decode cX6_written 100 = .ok (.iload_n 2, 1) := by decide +kernel
theorem dX6_written_101 : decode cX6_written 101 = .ok (.iconst (-1), 1) := by decide +kernel
theorem dX6_written_102 : decode cX6_written 102 = .ok (.if_icmp .ne 7, 3) := by decide +kernel
theorem dX6_written_105 : decode cX6_written 105 = .ok (.iload_n 3, 1) := by decide +kernel
theorem dX6_written_106 : decode cX6_written 106 = .ok (.goto 19, 3) := by decide +kernel
theorem dX6_written_109 : decode cX6_written 109 = .ok (.iload_n 2, 1) := by decide +kernel
theorem dX6_written_110 : decode cX6_written 110 = .ok (.iload_n 3, 1) := by decide +kernel
theorem dX6_written_111 : decode cX6_written 111 = .ok (.if_icmp .ge 12, 3) := by decide +kernel
theorem dX6_written_114 : decode cX6_written 114 = .ok (.aload_n 0, 1) := by decide +kernel
theorem dX6_written_115 : decode cX6_written 115 = .ok (.getfield 36, 3) := by decide +kernel
theorem dX6_written_118 : decode cX6_written 118 = .ok (.iload_n 2, 1) := by decide +kernel
theorem dX6_written_119 : decode cX6_written 119 = .ok (.iaload, 1) := by decide +kernel
theorem dX6_written_120 : decode cX6_written 120 = .ok (.goto 5, 3) := by decide +kernel
theorem dX6_written_123 : decode cX6_written 123 = .ok (.bipush (-6), 2) := by decide +kernel
theorem dX6_written_125 : decode cX6_written 125 = .ok (.ireturn, 1) := by decide +kernel
theorem dX6_addLetter_0 : decode cX6_addLetter 0 = .ok (.aload_n 0, 1) := by decide +kernel
theorem dX6_addLetter_1 : decode cX6_addLetter 1 = .ok (.getfield 39, 3) := by decide +kernel
theorem dX6_addLetter_4 : decode cX6_addLetter 4 = .ok (.aload_n 0, 1) := by decide +kernel
theorem dX6_addLetter_5 : decode cX6_addLetter 5 = .ok (.getfield 98, 3) := by decide +kernel
theorem dX6_addLetter_8 : decode cX6_addLetter 8 = .ok (.bipush 10, 2) := by decide +kernel
theorem dX6_addLetter_10 : decode cX6_addLetter 10 = .ok (.iload_n 1, 1) := by decide +kernel
theorem dX6_addLetter_11 : decode cX6_addLetter 11 = .ok (.imul, 1) := by decide +kernel
theorem dX6_addLetter_12 : decode cX6_addLetter 12 = .ok (.iload_n 2, 1) := by decide +kernel
theorem dX6_addLetter_13 : decode cX6_addLetter 13 = .ok (.iadd, 1) := by decide +kernel
theorem dX6_addLetter_14 : decode cX6_addLetter 14 = .ok (.iastore, 1) := by decide +kernel
theorem dX6_addLetter_15 : decode cX6_addLetter 15 = .ok (.aload_n 0, 1) := by decide +kernel
theorem dX6_addLetter_16 : decode cX6_addLetter 16 = .ok (.getfield 42, 3) := by decide +kernel
theorem dX6_addLetter_19 : decode cX6_addLetter 19 = .ok (.aload_n 0, 1) := by decide +kernel
theorem dX6_addLetter_20 : decode cX6_addLetter 20 = .ok (.getfield 98, 3) := by decide +kernel
theorem dX6_addLetter_23 : decode cX6_addLetter 23 = .ok (.iload_n 3, 1) := by decide +kernel
theorem dX6_addLetter_24 : decode cX6_addLetter 24 = .ok (.iastore, 1) := by decide +kernel
theorem dX6_addLetter_25 : decode cX6_addLetter 25 = .ok (.aload_n 0, 1) := by decide +kernel
theorem dX6_addLetter_26 : decode cX6_addLetter 26 = .ok (.dup, 1) := by decide +kernel
theorem dX6_addLetter_27 : decode cX6_addLetter 27 = .ok (.getfield 98, 3) := by decide +kernel
theorem dX6_addLetter_30 : decode cX6_addLetter 30 = .ok (.iconst 1, 1) := by decide +kernel
theorem dX6_addLetter_31 : decode cX6_addLetter 31 = .ok (.iadd, 1) := by decide +kernel
theorem dX6_addLetter_32 : decode cX6_addLetter 32 = .ok (.putfield 98, 3) := by decide +kernel
theorem dX6_addLetter_35 : decode cX6_addLetter 35 = .ok (.return_, 1) := by decide +kernel
theorem dX6_layLetters_0 : decode cX6_layLetters 0 = .ok (.aload_n 0, 1) := by decide +kernel
theorem dX6_layLetters_1 : decode cX6_layLetters 1 = .ok (.iconst 0, 1) := by decide +kernel
theorem dX6_layLetters_2 : decode cX6_layLetters 2 = .ok (.putfield 98, 3) := by decide +kernel
theorem dX6_layLetters_5 : decode cX6_layLetters 5 = .ok (.iconst 0, 1) := by decide +kernel
theorem dX6_layLetters_6 : decode cX6_layLetters 6 = .ok (.istore_n 2, 1) := by decide +kernel
theorem dX6_layLetters_7 : decode cX6_layLetters 7 = .ok (.iload_n 2, 1) := by decide +kernel
theorem dX6_layLetters_8 : decode cX6_layLetters 8 = .ok (.aload_n 0, 1) := by decide +kernel
theorem dX6_layLetters_9 : decode cX6_layLetters 9 = .ok (.iload_n 1, 1) := by decide +kernel
theorem dX6_layLetters_10 : decode cX6_layLetters 10 = .ok (.invokevirtual 86, 3) := by decide +kernel
theorem dX6_layLetters_13 : decode cX6_layLetters 13 = .ok (.if_icmp .ge 115, 3) := by decide +kernel
theorem dX6_layLetters_16 : decode cX6_layLetters 16 = .ok (.iconst 2, 1) := by decide +kernel
theorem dX6_layLetters_17 : decode cX6_layLetters 17 = .ok (.aload_n 0, 1) := by decide +kernel
theorem dX6_layLetters_18 : decode cX6_layLetters 18 = .ok (.iload_n 1, 1) := by decide +kernel
theorem dX6_layLetters_19 : decode cX6_layLetters 19 = .ok (.iload_n 2, 1) := by decide +kernel
theorem dX6_layLetters_20 : decode cX6_layLetters 20 = .ok (.invokevirtual 92, 3) := by decide +kernel
theorem dX6_layLetters_23 : decode cX6_layLetters 23 = .ok (.imul, 1) := by decide +kernel
theorem dX6_layLetters_24 : decode cX6_layLetters 24 = .ok (.istore_n 3, 1) := by decide +kernel
theorem dX6_layLetters_25 : decode cX6_layLetters 25 = .ok (.aload_n 0, 1) := by decide +kernel
theorem dX6_layLetters_26 : decode cX6_layLetters 26 = .ok (.iload_n 1, 1) := by decide +kernel
theorem dX6_layLetters_27 : decode cX6_layLetters 27 = .ok (.iload_n 2, 1) := by decide +kernel
theorem dX6_layLetters_28 : decode cX6_layLetters 28 = .ok (.invokevirtual 89, 3) := by decide +kernel
theorem dX6_layLetters_31 : decode cX6_layLetters 31 = .ok (.tableswitch 91 0 3 #[29, 41, 53, 72], 29) := by decide +kernel
theorem dX6_layLetters_60 : decode cX6_layLetters 60 = .ok (.aload_n 0, 1) := by decide +kernel
theorem dX6_layLetters_61 : decode cX6_layLetters 61 = .ok (.iload_n 3, 1) := by decide +kernel
theorem dX6_layLetters_62 : decode cX6_layLetters 62 = .ok (.iconst 1, 1) := by decide +kernel
theorem dX6_layLetters_63 : decode cX6_layLetters 63 = .ok (.iadd, 1) := by decide +kernel
theorem dX6_layLetters_64 : decode cX6_layLetters 64 = .ok (.iconst 0, 1) := by decide +kernel
theorem dX6_layLetters_65 : decode cX6_layLetters 65 = .ok (.iload_n 2, 1) := by decide +kernel
theorem dX6_layLetters_66 : decode cX6_layLetters 66 = .ok (.invokevirtual 101, 3) := by decide +kernel
theorem dX6_layLetters_69 : decode cX6_layLetters 69 = .ok (.goto 53, 3) := by decide +kernel
theorem dX6_layLetters_72 : decode cX6_layLetters 72 = .ok (.aload_n 0, 1) := by decide +kernel
theorem dX6_layLetters_73 : decode cX6_layLetters 73 = .ok (.iload_n 3, 1) := by decide +kernel
theorem dX6_layLetters_74 : decode cX6_layLetters 74 = .ok (.iconst 1, 1) := by decide +kernel
theorem dX6_layLetters_75 : decode cX6_layLetters 75 = .ok (.iadd, 1) := by decide +kernel
theorem dX6_layLetters_76 : decode cX6_layLetters 76 = .ok (.iconst 1, 1) := by decide +kernel
theorem dX6_layLetters_77 : decode cX6_layLetters 77 = .ok (.iload_n 2, 1) := by decide +kernel
theorem dX6_layLetters_78 : decode cX6_layLetters 78 = .ok (.invokevirtual 101, 3) := by decide +kernel
theorem dX6_layLetters_81 : decode cX6_layLetters 81 = .ok (.goto 41, 3) := by decide +kernel
theorem dX6_layLetters_84 : decode cX6_layLetters 84 = .ok (.aload_n 0, 1) := by decide +kernel
theorem dX6_layLetters_85 : decode cX6_layLetters 85 = .ok (.iload_n 3, 1) := by decide +kernel
theorem dX6_layLetters_86 : decode cX6_layLetters 86 = .ok (.iconst 1, 1) := by decide +kernel
theorem dX6_layLetters_87 : decode cX6_layLetters 87 = .ok (.iload_n 2, 1) := by decide +kernel
theorem dX6_layLetters_88 : decode cX6_layLetters 88 = .ok (.invokevirtual 101, 3) := by decide +kernel
theorem dX6_layLetters_91 : decode cX6_layLetters 91 = .ok (.aload_n 0, 1) := by decide +kernel
theorem dX6_layLetters_92 : decode cX6_layLetters 92 = .ok (.iload_n 3, 1) := by decide +kernel
theorem dX6_layLetters_93 : decode cX6_layLetters 93 = .ok (.iconst 2, 1) := by decide +kernel
theorem dX6_layLetters_94 : decode cX6_layLetters 94 = .ok (.iadd, 1) := by decide +kernel
theorem dX6_layLetters_95 : decode cX6_layLetters 95 = .ok (.iconst 1, 1) := by decide +kernel
theorem dX6_layLetters_96 : decode cX6_layLetters 96 = .ok (.iload_n 2, 1) := by decide +kernel
theorem dX6_layLetters_97 : decode cX6_layLetters 97 = .ok (.invokevirtual 101, 3) := by decide +kernel
theorem dX6_layLetters_100 : decode cX6_layLetters 100 = .ok (.goto 22, 3) := by decide +kernel
theorem dX6_layLetters_103 : decode cX6_layLetters 103 = .ok (.aload_n 0, 1) := by decide +kernel
theorem dX6_layLetters_104 : decode cX6_layLetters 104 = .ok (.iload_n 3, 1) := by decide +kernel
theorem dX6_layLetters_105 : decode cX6_layLetters 105 = .ok (.iconst 0, 1) := by decide +kernel
theorem dX6_layLetters_106 : decode cX6_layLetters 106 = .ok (.iload_n 2, 1) := by decide +kernel
theorem dX6_layLetters_107 : decode cX6_layLetters 107 = .ok (.invokevirtual 101, 3) := by decide +kernel
theorem dX6_layLetters_110 : decode cX6_layLetters 110 = .ok (.aload_n 0, 1) := by decide +kernel
theorem dX6_layLetters_111 : decode cX6_layLetters 111 = .ok (.iload_n 3, 1) := by decide +kernel
theorem dX6_layLetters_112 : decode cX6_layLetters 112 = .ok (.iconst 2, 1) := by decide +kernel
theorem dX6_layLetters_113 : decode cX6_layLetters 113 = .ok (.iadd, 1) := by decide +kernel
theorem dX6_layLetters_114 : decode cX6_layLetters 114 = .ok (.iconst 0, 1) := by decide +kernel
theorem dX6_layLetters_115 : decode cX6_layLetters 115 = .ok (.iload_n 2, 1) := by decide +kernel
theorem dX6_layLetters_116 : decode cX6_layLetters 116 = .ok (.invokevirtual 101, 3) := by decide +kernel
theorem dX6_layLetters_119 : decode cX6_layLetters 119 = .ok (.goto 3, 3) := by decide +kernel
theorem dX6_layLetters_122 : decode cX6_layLetters 122 = .ok (.iinc 2 1, 3) := by decide +kernel
theorem dX6_layLetters_125 : decode cX6_layLetters 125 = .ok (.goto (-118), 3) := by decide +kernel
theorem dX6_layLetters_128 : decode cX6_layLetters 128 = .ok (.return_, 1) := by decide +kernel
theorem dX6_begin_0 : decode cX6_begin 0 = .ok (.iconst 0, 1) := by decide +kernel
theorem dX6_begin_1 : decode cX6_begin 1 = .ok (.istore_n 1, 1) := by decide +kernel
theorem dX6_begin_2 : decode cX6_begin 2 = .ok (.iload_n 1, 1) := by decide +kernel
theorem dX6_begin_3 : decode cX6_begin 3 = .ok (.bipush 8, 2) := by decide +kernel
theorem dX6_begin_5 : decode cX6_begin 5 = .ok (.if_icmp .ge 16, 3) := by decide +kernel
theorem dX6_begin_8 : decode cX6_begin 8 = .ok (.aload_n 0, 1) := by decide +kernel
theorem dX6_begin_9 : decode cX6_begin 9 = .ok (.getfield 45, 3) := by decide +kernel
theorem dX6_begin_12 : decode cX6_begin 12 = .ok (.iload_n 1, 1) := by decide +kernel
theorem dX6_begin_13 : decode cX6_begin 13 = .ok (.iload_n 1, 1) := by decide +kernel
theorem dX6_begin_14 : decode cX6_begin 14 = .ok (.iastore, 1) := by decide +kernel
theorem dX6_begin_15 : decode cX6_begin 15 = .ok (.iinc 1 1, 3) := by decide +kernel
theorem dX6_begin_18 : decode cX6_begin 18 = .ok (.goto (-16), 3) := by decide +kernel
theorem dX6_begin_21 : decode cX6_begin 21 = .ok (.return_, 1) := by decide +kernel
theorem dX6_change_0 : decode cX6_change 0 = .ok (.iload_n 1, 1) := by decide +kernel
theorem dX6_change_1 : decode cX6_change 1 = .ok (.bipush 10, 2) := by decide +kernel
theorem dX6_change_3 : decode cX6_change 3 = .ok (.idiv, 1) := by decide +kernel
theorem dX6_change_4 : decode cX6_change 4 = .ok (.istore_n 2, 1) := by decide +kernel
theorem dX6_change_5 : decode cX6_change 5 = .ok (.aload_n 0, 1) := by decide +kernel
theorem dX6_change_6 : decode cX6_change 6 = .ok (.getfield 45, 3) := by decide +kernel
theorem dX6_change_9 : decode cX6_change 9 = .ok (.iload_n 2, 1) := by decide +kernel
theorem dX6_change_10 : decode cX6_change 10 = .ok (.iaload, 1) := by decide +kernel
theorem dX6_change_11 : decode cX6_change 11 = .ok (.istore_n 3, 1) := by decide +kernel
theorem dX6_change_12 : decode cX6_change 12 = .ok (.aload_n 0, 1) := by decide +kernel
theorem dX6_change_13 : decode cX6_change 13 = .ok (.getfield 45, 3) := by decide +kernel
theorem dX6_change_16 : decode cX6_change 16 = .ok (.iload_n 2, 1) := by decide +kernel
theorem dX6_change_17 : decode cX6_change 17 = .ok (.aload_n 0, 1) := by decide +kernel
theorem dX6_change_18 : decode cX6_change 18 = .ok (.getfield 45, 3) := by decide +kernel
theorem dX6_change_21 : decode cX6_change 21 = .ok (.iload_n 2, 1) := by decide +kernel
theorem dX6_change_22 : decode cX6_change 22 = .ok (.iconst 1, 1) := by decide +kernel
theorem dX6_change_23 : decode cX6_change 23 = .ok (.iadd, 1) := by decide +kernel
theorem dX6_change_24 : decode cX6_change 24 = .ok (.iaload, 1) := by decide +kernel
theorem dX6_change_25 : decode cX6_change 25 = .ok (.iastore, 1) := by decide +kernel
theorem dX6_change_26 : decode cX6_change 26 = .ok (.aload_n 0, 1) := by decide +kernel
theorem dX6_change_27 : decode cX6_change 27 = .ok (.getfield 45, 3) := by decide +kernel
theorem dX6_change_30 : decode cX6_change 30 = .ok (.iload_n 2, 1) := by decide +kernel
theorem dX6_change_31 : decode cX6_change 31 = .ok (.iconst 1, 1) := by decide +kernel
theorem dX6_change_32 : decode cX6_change 32 = .ok (.iadd, 1) := by decide +kernel
theorem dX6_change_33 : decode cX6_change 33 = .ok (.iload_n 3, 1) := by decide +kernel
theorem dX6_change_34 : decode cX6_change 34 = .ok (.iastore, 1) := by decide +kernel
theorem dX6_change_35 : decode cX6_change 35 = .ok (.return_, 1) := by decide +kernel
theorem dX6_goTo_0 : decode cX6_goTo 0 = .ok (.aload_n 0, 1) := by decide +kernel
theorem dX6_goTo_1 : decode cX6_goTo 1 = .ok (.iload_n 1, 1) := by decide +kernel
theorem dX6_goTo_2 : decode cX6_goTo 2 = .ok (.invokevirtual 105, 3) := by decide +kernel
theorem dX6_goTo_5 : decode cX6_goTo 5 = .ok (.aload_n 0, 1) := by decide +kernel
theorem dX6_goTo_6 : decode cX6_goTo 6 = .ok (.invokevirtual 109, 3) := by decide +kernel
theorem dX6_goTo_9 : decode cX6_goTo 9 = .ok (.iconst 0, 1) := by decide +kernel
theorem dX6_goTo_10 : decode cX6_goTo 10 = .ok (.istore_n 3, 1) := by decide +kernel
theorem dX6_goTo_11 : decode cX6_goTo 11 = .ok (.iload_n 3, 1) := by decide +kernel
theorem dX6_goTo_12 : decode cX6_goTo 12 = .ok (.aload_n 0, 1) := by decide +kernel
theorem dX6_goTo_13 : decode cX6_goTo 13 = .ok (.getfield 98, 3) := by decide +kernel
theorem dX6_goTo_16 : decode cX6_goTo 16 = .ok (.if_icmp .ge 29, 3) := by decide +kernel
theorem dX6_goTo_19 : decode cX6_goTo 19 = .ok (.aload_n 0, 1) := by decide +kernel
theorem dX6_goTo_20 : decode cX6_goTo 20 = .ok (.getfield 42, 3) := by decide +kernel
theorem dX6_goTo_23 : decode cX6_goTo 23 = .ok (.iload_n 3, 1) := by decide +kernel
theorem dX6_goTo_24 : decode cX6_goTo 24 = .ok (.iaload, 1) := by decide +kernel
theorem dX6_goTo_25 : decode cX6_goTo 25 = .ok (.iload_n 2, 1) := by decide +kernel
theorem dX6_goTo_26 : decode cX6_goTo 26 = .ok (.if_icmp .ge 19, 3) := by decide +kernel
theorem dX6_goTo_29 : decode cX6_goTo 29 = .ok (.aload_n 0, 1) := by decide +kernel
theorem dX6_goTo_30 : decode cX6_goTo 30 = .ok (.aload_n 0, 1) := by decide +kernel
theorem dX6_goTo_31 : decode cX6_goTo 31 = .ok (.getfield 39, 3) := by decide +kernel
theorem dX6_goTo_34 : decode cX6_goTo 34 = .ok (.iload_n 3, 1) := by decide +kernel
theorem dX6_goTo_35 : decode cX6_goTo 35 = .ok (.iaload, 1) := by decide +kernel
theorem dX6_goTo_36 : decode cX6_goTo 36 = .ok (.invokevirtual 112, 3) := by decide +kernel
theorem dX6_goTo_39 : decode cX6_goTo 39 = .ok (.iinc 3 1, 3) := by decide +kernel
theorem dX6_goTo_42 : decode cX6_goTo 42 = .ok (.goto (-31), 3) := by decide +kernel
theorem dX6_goTo_45 : decode cX6_goTo 45 = .ok (.return_, 1) := by decide +kernel
theorem dX6_at_0 : decode cX6_at 0 = .ok (.iload_n 1, 1) := by decide +kernel
theorem dX6_at_1 : decode cX6_at 1 = .ok (.invokestatic 71, 3) := by decide +kernel
theorem dX6_at_4 : decode cX6_at 4 = .ok (.ifCond .ne 5, 3) := by decide +kernel
theorem dX6_at_7 : decode cX6_at 7 = .ok (.iconst (-1), 1) := by decide +kernel
theorem dX6_at_8 : decode cX6_at 8 = .ok (.ireturn, 1) := by decide +kernel
theorem dX6_at_9 : decode cX6_at 9 = .ok (.iload_n 2, 1) := by decide +kernel
theorem dX6_at_10 : decode cX6_at 10 = .ok (.iconst 0, 1) := by decide +kernel
theorem dX6_at_11 : decode cX6_at 11 = .ok (.aload_n 0, 1) := by decide +kernel
theorem dX6_at_12 : decode cX6_at 12 = .ok (.iload_n 1, 1) := by decide +kernel
theorem dX6_at_13 : decode cX6_at 13 = .ok (.invokevirtual 86, 3) := by decide +kernel
theorem dX6_at_16 : decode cX6_at 16 = .ok (.invokestatic 57, 3) := by decide +kernel
theorem dX6_at_19 : decode cX6_at 19 = .ok (.ifCond .eq 13, 3) := by decide +kernel
theorem dX6_at_22 : decode cX6_at 22 = .ok (.iload_n 3, 1) := by decide +kernel
theorem dX6_at_23 : decode cX6_at 23 = .ok (.iconst 0, 1) := by decide +kernel
theorem dX6_at_24 : decode cX6_at 24 = .ok (.bipush 7, 2) := by decide +kernel
theorem dX6_at_26 : decode cX6_at 26 = .ok (.invokestatic 57, 3) := by decide +kernel
theorem dX6_at_29 : decode cX6_at 29 = .ok (.ifCond .ne 6, 3) := by decide +kernel
theorem dX6_at_32 : decode cX6_at 32 = .ok (.bipush (-2), 2) := by decide +kernel
theorem dX6_at_34 : decode cX6_at 34 = .ok (.ireturn, 1) := by decide +kernel
theorem dX6_at_35 : decode cX6_at 35 = .ok (.aload_n 0, 1) := by decide +kernel
theorem dX6_at_36 : decode cX6_at 36 = .ok (.iload_n 1, 1) := by decide +kernel
theorem dX6_at_37 : decode cX6_at 37 = .ok (.iload_n 2, 1) := by decide +kernel
theorem dX6_at_38 : decode cX6_at 38 = .ok (.invokevirtual 115, 3) := by decide +kernel
theorem dX6_at_41 : decode cX6_at 41 = .ok (.aload_n 0, 1) := by decide +kernel
theorem dX6_at_42 : decode cX6_at 42 = .ok (.getfield 45, 3) := by decide +kernel
theorem dX6_at_45 : decode cX6_at 45 = .ok (.iload_n 3, 1) := by decide +kernel
theorem dX6_at_46 : decode cX6_at 46 = .ok (.iaload, 1) := by decide +kernel
theorem dX6_at_47 : decode cX6_at 47 = .ok (.ireturn, 1) := by decide +kernel
theorem dX6_met_0 : decode cX6_met 0 = .ok (.iload_n 1, 1) := by decide +kernel
theorem dX6_met_1 : decode cX6_met 1 = .ok (.invokestatic 71, 3) := by decide +kernel
theorem dX6_met_4 : decode cX6_met 4 = .ok (.ifCond .ne 5, 3) := by decide +kernel
theorem dX6_met_7 : decode cX6_met 7 = .ok (.iconst (-1), 1) := by decide +kernel
theorem dX6_met_8 : decode cX6_met 8 = .ok (.ireturn, 1) := by decide +kernel
theorem dX6_met_9 : decode cX6_met 9 = .ok (.iload_n 2, 1) := by decide +kernel
theorem dX6_met_10 : decode cX6_met 10 = .ok (.iconst 0, 1) := by decide +kernel
theorem dX6_met_11 : decode cX6_met 11 = .ok (.bipush 7, 2) := by decide +kernel
theorem dX6_met_13 : decode cX6_met 13 = .ok (.invokestatic 57, 3) := by decide +kernel
theorem dX6_met_16 : decode cX6_met 16 = .ok (.ifCond .eq 28, 3) := by decide +kernel
theorem dX6_met_19 : decode cX6_met 19 = .ok (.iload_n 3, 1) := by decide +kernel
theorem dX6_met_20 : decode cX6_met 20 = .ok (.iconst 0, 1) := by decide +kernel
theorem dX6_met_21 : decode cX6_met 21 = .ok (.bipush 7, 2) := by decide +kernel
theorem dX6_met_23 : decode cX6_met 23 = .ok (.invokestatic 57, 3) := by decide +kernel
theorem dX6_met_26 : decode cX6_met 26 = .ok (.ifCond .eq 18, 3) := by decide +kernel
theorem dX6_met_29 : decode cX6_met 29 = .ok (.iload_n 2, 1) := by decide +kernel
theorem dX6_met_30 : decode cX6_met 30 = .ok (.iload_n 3, 1) := by decide +kernel
theorem dX6_met_31 : decode cX6_met 31 = .ok (.if_icmp .eq 13, 3) := by decide +kernel
theorem dX6_met_34 : decode cX6_met 34 = .ok (.iload 4, 2) := by decide +kernel
theorem dX6_met_36 : decode cX6_met 36 = .ok (.iconst 0, 1) := by decide +kernel
theorem dX6_met_37 : decode cX6_met 37 = .ok (.iconst 2, 1) := by decide +kernel
theorem dX6_met_38 : decode cX6_met 38 = .ok (.invokestatic 57, 3) := by decide +kernel
theorem dX6_met_41 : decode cX6_met 41 = .ok (.ifCond .ne 6, 3) := by decide +kernel
theorem dX6_met_44 : decode cX6_met 44 = .ok (.bipush (-2), 2) := by decide +kernel
theorem dX6_met_46 : decode cX6_met 46 = .ok (.ireturn, 1) := by decide +kernel
theorem dX6_met_47 : decode cX6_met 47 = .ok (.aload_n 0, 1) := by decide +kernel
theorem dX6_met_48 : decode cX6_met 48 = .ok (.iload_n 1, 1) := by decide +kernel
theorem dX6_met_49 : decode cX6_met 49 = .ok (.invokevirtual 105, 3) := by decide +kernel
theorem dX6_met_52 : decode cX6_met 52 = .ok (.aload_n 0, 1) := by decide +kernel
theorem dX6_met_53 : decode cX6_met 53 = .ok (.invokevirtual 109, 3) := by decide +kernel
theorem dX6_met_56 : decode cX6_met 56 = .ok (.iconst 0, 1) := by decide +kernel
theorem dX6_met_57 : decode cX6_met 57 = .ok (.istore 5, 2) := by decide +kernel
theorem dX6_met_59 : decode cX6_met 59 = .ok (.iconst 0, 1) := by decide +kernel
theorem dX6_met_60 : decode cX6_met 60 = .ok (.istore 6, 2) := by decide +kernel
theorem dX6_met_62 : decode cX6_met 62 = .ok (.bipush (-6), 2) := by decide +kernel
theorem dX6_met_64 : decode cX6_met 64 = .ok (.istore 7, 2) := by decide +kernel
theorem dX6_met_66 : decode cX6_met 66 = .ok (.iconst 0, 1) := by decide +kernel
theorem dX6_met_67 : decode cX6_met 67 = .ok (.istore 8, 2) := by decide +kernel
theorem dX6_met_69 : decode cX6_met 69 = .ok (.iload 8, 2) := by decide +kernel
theorem dX6_met_71 : decode cX6_met 71 = .ok (.aload_n 0, 1) := by decide +kernel
theorem dX6_met_72 : decode cX6_met 72 = .ok (.getfield 98, 3) := by decide +kernel
theorem dX6_met_75 : decode cX6_met 75 = .ok (.if_icmp .ge 136, 3) := by decide +kernel
theorem dX6_met_78 : decode cX6_met 78 = .ok (.aload_n 0, 1) := by decide +kernel
theorem dX6_met_79 : decode cX6_met 79 = .ok (.getfield 45, 3) := by decide +kernel
theorem dX6_met_82 : decode cX6_met 82 = .ok (.aload_n 0, 1) := by decide +kernel
theorem dX6_met_83 : decode cX6_met 83 = .ok (.getfield 39, 3) := by decide +kernel
theorem dX6_met_86 : decode cX6_met 86 = .ok (.iload 8, 2) := by decide +kernel
theorem dX6_met_88 : decode cX6_met 88 = .ok (.iaload, 1) := by decide +kernel
theorem dX6_met_89 : decode cX6_met 89 = .ok (.bipush 10, 2) := by decide +kernel
theorem dX6_met_91 : decode cX6_met 91 = .ok (.idiv, 1) := by decide +kernel
theorem dX6_met_92 : decode cX6_met 92 = .ok (.iaload, 1) := by decide +kernel
theorem dX6_met_93 : decode cX6_met 93 = .ok (.istore 9, 2) := by decide +kernel
theorem dX6_met_95 : decode cX6_met 95 = .ok (.aload_n 0, 1) := by decide +kernel
theorem dX6_met_96 : decode cX6_met 96 = .ok (.getfield 45, 3) := by decide +kernel
theorem dX6_met_99 : decode cX6_met 99 = .ok (.aload_n 0, 1) := by decide +kernel
theorem dX6_met_100 : decode cX6_met 100 = .ok (.getfield 39, 3) := by decide +kernel
theorem dX6_met_103 : decode cX6_met 103 = .ok (.iload 8, 2) := by decide +kernel
theorem dX6_met_105 : decode cX6_met 105 = .ok (.iaload, 1) := by decide +kernel
theorem dX6_met_106 : decode cX6_met 106 = .ok (.bipush 10, 2) := by decide +kernel
theorem dX6_met_108 : decode cX6_met 108 = .ok (.idiv, 1) := by decide +kernel
theorem dX6_met_109 : decode cX6_met 109 = .ok (.iconst 1, 1) := by decide +kernel
theorem dX6_met_110 : decode cX6_met 110 = .ok (.iadd, 1) := by decide +kernel
theorem dX6_met_111 : decode cX6_met 111 = .ok (.iaload, 1) := by decide +kernel
theorem dX6_met_112 : decode cX6_met 112 = .ok (.istore 10, 2) := by decide +kernel
theorem dX6_met_114 : decode cX6_met 114 = .ok (.iload 9, 2) := by decide +kernel
theorem dX6_met_116 : decode cX6_met 116 = .ok (.iload_n 2, 1) := by decide +kernel
theorem dX6_met_117 : decode cX6_met 117 = .ok (.if_icmp .ne 9, 3) := by decide +kernel
theorem dX6_met_120 : decode cX6_met 120 = .ok (.iload 10, 2) := by decide +kernel
theorem dX6_met_122 : decode cX6_met 122 = .ok (.iload_n 3, 1) := by decide +kernel
theorem dX6_met_123 : decode cX6_met 123 = .ok (.if_icmp .eq 15, 3) := by decide +kernel
theorem dX6_met_126 : decode cX6_met 126 = .ok (.iload 9, 2) := by decide +kernel
theorem dX6_met_128 : decode cX6_met 128 = .ok (.iload_n 3, 1) := by decide +kernel
theorem dX6_met_129 : decode cX6_met 129 = .ok (.if_icmp .ne 65, 3) := by decide +kernel
theorem dX6_met_132 : decode cX6_met 132 = .ok (.iload 10, 2) := by decide +kernel
theorem dX6_met_134 : decode cX6_met 134 = .ok (.iload_n 2, 1) := by decide +kernel
theorem dX6_met_135 : decode cX6_met 135 = .ok (.if_icmp .ne 59, 3) := by decide +kernel
theorem dX6_met_138 : decode cX6_met 138 = .ok (.iinc 5 1, 3) := by decide +kernel
theorem dX6_met_141 : decode cX6_met 141 = .ok (.iload 6, 2) := by decide +kernel
theorem dX6_met_143 : decode cX6_met 143 = .ok (.aload_n 0, 1) := by decide +kernel
theorem dX6_met_144 : decode cX6_met 144 = .ok (.getfield 39, 3) := by decide +kernel
theorem dX6_met_147 : decode cX6_met 147 = .ok (.iload 8, 2) := by decide +kernel
theorem dX6_met_149 : decode cX6_met 149 = .ok (.iaload, 1) := by decide +kernel
theorem dX6_met_150 : decode cX6_met 150 = .ok (.bipush 10, 2) := by decide +kernel
theorem dX6_met_152 : decode cX6_met 152 = .ok (.irem, 1) := by decide +kernel
theorem dX6_met_153 : decode cX6_met 153 = .ok (.ifCond .ne 8, 3) := by decide +kernel
theorem dX6_met_156 : decode cX6_met 156 = .ok (.iload 9, 2) := by decide +kernel
theorem dX6_met_158 : decode cX6_met 158 = .ok (.goto 5, 3) := by decide +kernel
theorem dX6_met_161 : decode cX6_met 161 = .ok (.iload 10, 2) := by decide +kernel
theorem dX6_met_163 : decode cX6_met 163 = .ok (.iload_n 2, 1) := by decide +kernel
theorem dX6_met_164 : decode cX6_met 164 = .ok (.if_icmp .ne 7, 3) := by decide +kernel
theorem dX6_met_167 : decode cX6_met 167 = .ok (.iconst 1, 1) := by decide +kernel
theorem dX6_met_168 : decode cX6_met 168 = .ok (.goto 4, 3) := by decide +kernel
theorem dX6_met_171 : decode cX6_met 171 = .ok (.iconst 0, 1) := by decide +kernel
theorem dX6_met_172 : decode cX6_met 172 = .ok (.iadd, 1) := by decide +kernel
theorem dX6_met_173 : decode cX6_met 173 = .ok (.istore 6, 2) := by decide +kernel
theorem dX6_met_175 : decode cX6_met 175 = .ok (.iload 7, 2) := by decide +kernel
theorem dX6_met_177 : decode cX6_met 177 = .ok (.ifCond .ge 13, 3) := by decide +kernel
theorem dX6_met_180 : decode cX6_met 180 = .ok (.aload_n 0, 1) := by decide +kernel
theorem dX6_met_181 : decode cX6_met 181 = .ok (.getfield 42, 3) := by decide +kernel
theorem dX6_met_184 : decode cX6_met 184 = .ok (.iload 8, 2) := by decide +kernel
theorem dX6_met_186 : decode cX6_met 186 = .ok (.iaload, 1) := by decide +kernel
theorem dX6_met_187 : decode cX6_met 187 = .ok (.goto 5, 3) := by decide +kernel
theorem dX6_met_190 : decode cX6_met 190 = .ok (.iload 7, 2) := by decide +kernel
theorem dX6_met_192 : decode cX6_met 192 = .ok (.istore 7, 2) := by decide +kernel
theorem dX6_met_194 : decode cX6_met 194 = .ok (.aload_n 0, 1) := by decide +kernel
theorem dX6_met_195 : decode cX6_met 195 = .ok (.aload_n 0, 1) := by decide +kernel
theorem dX6_met_196 : decode cX6_met 196 = .ok (.getfield 39, 3) := by decide +kernel
theorem dX6_met_199 : decode cX6_met 199 = .ok (.iload 8, 2) := by decide +kernel
theorem dX6_met_201 : decode cX6_met 201 = .ok (.iaload, 1) := by decide +kernel
theorem dX6_met_202 : decode cX6_met 202 = .ok (.invokevirtual 112, 3) := by decide +kernel
theorem dX6_met_205 : decode cX6_met 205 = .ok (.iinc 8 1, 3) := by decide +kernel
theorem dX6_met_208 : decode cX6_met 208 = .ok (.goto (-139), 3) := by decide +kernel
theorem dX6_met_211 : decode cX6_met 211 = .ok (.iload 4, 2) := by decide +kernel
theorem dX6_met_213 : decode cX6_met 213 = .ok (.ifCond .ne 8, 3) := by decide +kernel
theorem dX6_met_216 : decode cX6_met 216 = .ok (.iload 5, 2) := by decide +kernel
theorem dX6_met_218 : decode cX6_met 218 = .ok (.goto 16, 3) := by decide +kernel
theorem dX6_met_221 : decode cX6_met 221 = .ok (.iload 4, 2) := by decide +kernel
theorem dX6_met_223 : decode cX6_met 223 = .ok (.iconst 1, 1) := by decide +kernel
theorem dX6_met_224 : decode cX6_met 224 = .ok (.if_icmp .ne 8, 3) := by decide +kernel
theorem dX6_met_227 : decode cX6_met 227 = .ok (.iload 6, 2) := by decide +kernel
theorem dX6_met_229 : decode cX6_met 229 = .ok (.goto 5, 3) := by decide +kernel
theorem dX6_met_232 : decode cX6_met 232 = .ok (.iload 7, 2) := by decide +kernel
theorem dX6_met_234 : decode cX6_met 234 = .ok (.ireturn, 1) := by decide +kernel
theorem dX6_pins_0 : decode cX6_pins 0 = .ok (.iconst 0, 1) := by decide +kernel
theorem dX6_pins_1 : decode cX6_pins 1 = .ok (.istore_n 2, 1) := by decide +kernel
theorem dX6_pins_2 : decode cX6_pins 2 = .ok (.iconst 0, 1) := by decide +kernel
theorem dX6_pins_3 : decode cX6_pins 3 = .ok (.istore_n 3, 1) := by decide +kernel
theorem dX6_pins_4 : decode cX6_pins 4 = .ok (.iload_n 3, 1) := by decide +kernel
theorem dX6_pins_5 : decode cX6_pins 5 = .ok (.aload_n 0, 1) := by decide +kernel
theorem dX6_pins_6 : decode cX6_pins 6 = .ok (.iload_n 1, 1) := by decide +kernel
theorem dX6_pins_7 : decode cX6_pins 7 = .ok (.invokevirtual 86, 3) := by decide +kernel
theorem dX6_pins_10 : decode cX6_pins 10 = .ok (.if_icmp .ge 27, 3) := by decide +kernel
theorem dX6_pins_13 : decode cX6_pins 13 = .ok (.iload_n 2, 1) := by decide +kernel
theorem dX6_pins_14 : decode cX6_pins 14 = .ok (.aload_n 0, 1) := by decide +kernel
theorem dX6_pins_15 : decode cX6_pins 15 = .ok (.iload_n 1, 1) := by decide +kernel
theorem dX6_pins_16 : decode cX6_pins 16 = .ok (.iload_n 3, 1) := by decide +kernel
theorem dX6_pins_17 : decode cX6_pins 17 = .ok (.invokevirtual 89, 3) := by decide +kernel
theorem dX6_pins_20 : decode cX6_pins 20 = .ok (.iconst 4, 1) := by decide +kernel
theorem dX6_pins_21 : decode cX6_pins 21 = .ok (.if_icmp .ne 7, 3) := by decide +kernel
theorem dX6_pins_24 : decode cX6_pins 24 = .ok (.iconst 1, 1) := by decide +kernel
theorem dX6_pins_25 : decode cX6_pins 25 = .ok (.goto 4, 3) := by decide +kernel
theorem dX6_pins_28 : decode cX6_pins 28 = .ok (.iconst 0, 1) := by decide +kernel
theorem dX6_pins_29 : decode cX6_pins 29 = .ok (.iadd, 1) := by decide +kernel
theorem dX6_pins_30 : decode cX6_pins 30 = .ok (.istore_n 2, 1) := by decide +kernel
theorem dX6_pins_31 : decode cX6_pins 31 = .ok (.iinc 3 1, 3) := by decide +kernel
theorem dX6_pins_34 : decode cX6_pins 34 = .ok (.goto (-30), 3) := by decide +kernel
theorem dX6_pins_37 : decode cX6_pins 37 = .ok (.iload_n 2, 1) := by decide +kernel
theorem dX6_pins_38 : decode cX6_pins 38 = .ok (.ireturn, 1) := by decide +kernel
theorem dX6_asAtFirst_0 : decode cX6_asAtFirst 0 = .ok (.iconst 0, 1) := by decide +kernel
theorem dX6_asAtFirst_1 : decode cX6_asAtFirst 1 = .ok (.istore_n 1, 1) := by decide +kernel
theorem dX6_asAtFirst_2 : decode cX6_asAtFirst 2 = .ok (.iconst 0, 1) := by decide +kernel
theorem dX6_asAtFirst_3 : decode cX6_asAtFirst 3 = .ok (.istore_n 2, 1) := by decide +kernel
theorem dX6_asAtFirst_4 : decode cX6_asAtFirst 4 = .ok (.iload_n 2, 1) := by decide +kernel
theorem dX6_asAtFirst_5 : decode cX6_asAtFirst 5 = .ok (.bipush 8, 2) := by decide +kernel
theorem dX6_asAtFirst_7 : decode cX6_asAtFirst 7 = .ok (.if_icmp .ge 27, 3) := by decide +kernel
theorem dX6_asAtFirst_10 : decode cX6_asAtFirst 10 = .ok (.iload_n 1, 1) := by decide +kernel
theorem dX6_asAtFirst_11 : decode cX6_asAtFirst 11 = .ok (.aload_n 0, 1) := by decide +kernel
theorem dX6_asAtFirst_12 : decode cX6_asAtFirst 12 = .ok (.getfield 45, 3) := by decide +kernel
theorem dX6_asAtFirst_15 : decode cX6_asAtFirst 15 = .ok (.iload_n 2, 1) := by decide +kernel
theorem dX6_asAtFirst_16 : decode cX6_asAtFirst 16 = .ok (.iaload, 1) := by decide +kernel
theorem dX6_asAtFirst_17 : decode cX6_asAtFirst 17 = .ok (.iload_n 2, 1) := by decide +kernel
theorem dX6_asAtFirst_18 : decode cX6_asAtFirst 18 = .ok (.if_icmp .ne 7, 3) := by decide +kernel
theorem dX6_asAtFirst_21 : decode cX6_asAtFirst 21 = .ok (.iconst 1, 1) := by decide +kernel
theorem dX6_asAtFirst_22 : decode cX6_asAtFirst 22 = .ok (.goto 4, 3) := by decide +kernel
theorem dX6_asAtFirst_25 : decode cX6_asAtFirst 25 = .ok (.iconst 0, 1) := by decide +kernel
theorem dX6_asAtFirst_26 : decode cX6_asAtFirst 26 = .ok (.iadd, 1) := by decide +kernel
theorem dX6_asAtFirst_27 : decode cX6_asAtFirst 27 = .ok (.istore_n 1, 1) := by decide +kernel
theorem dX6_asAtFirst_28 : decode cX6_asAtFirst 28 = .ok (.iinc 2 1, 3) := by decide +kernel
theorem dX6_asAtFirst_31 : decode cX6_asAtFirst 31 = .ok (.goto (-27), 3) := by decide +kernel
theorem dX6_asAtFirst_34 : decode cX6_asAtFirst 34 = .ok (.iload_n 1, 1) := by decide +kernel
theorem dX6_asAtFirst_35 : decode cX6_asAtFirst 35 = .ok (.ireturn, 1) := by decide +kernel
theorem dX6_timesOf_0 : decode cX6_timesOf 0 = .ok (.aload_n 0, 1) := by decide +kernel
theorem dX6_timesOf_1 : decode cX6_timesOf 1 = .ok (.iload_n 1, 1) := by decide +kernel
theorem dX6_timesOf_2 : decode cX6_timesOf 2 = .ok (.invokevirtual 105, 3) := by decide +kernel
theorem dX6_timesOf_5 : decode cX6_timesOf 5 = .ok (.aload_n 0, 1) := by decide +kernel
theorem dX6_timesOf_6 : decode cX6_timesOf 6 = .ok (.invokevirtual 109, 3) := by decide +kernel
theorem dX6_timesOf_9 : decode cX6_timesOf 9 = .ok (.iconst 0, 1) := by decide +kernel
theorem dX6_timesOf_10 : decode cX6_timesOf 10 = .ok (.istore_n 2, 1) := by decide +kernel
theorem dX6_timesOf_11 : decode cX6_timesOf 11 = .ok (.iconst 1, 1) := by decide +kernel
theorem dX6_timesOf_12 : decode cX6_timesOf 12 = .ok (.istore_n 3, 1) := by decide +kernel
theorem dX6_timesOf_13 : decode cX6_timesOf 13 = .ok (.iload_n 3, 1) := by decide +kernel
theorem dX6_timesOf_14 : decode cX6_timesOf 14 = .ok (.ifCond .eq 53, 3) := by decide +kernel
theorem dX6_timesOf_17 : decode cX6_timesOf 17 = .ok (.iconst 0, 1) := by decide +kernel
theorem dX6_timesOf_18 : decode cX6_timesOf 18 = .ok (.istore 4, 2) := by decide +kernel
theorem dX6_timesOf_20 : decode cX6_timesOf 20 = .ok (.iload 4, 2) := by decide +kernel
theorem dX6_timesOf_22 : decode cX6_timesOf 22 = .ok (.aload_n 0, 1) := by decide +kernel
theorem dX6_timesOf_23 : decode cX6_timesOf 23 = .ok (.getfield 98, 3) := by decide +kernel
theorem dX6_timesOf_26 : decode cX6_timesOf 26 = .ok (.if_icmp .ge 20, 3) := by decide +kernel
theorem dX6_timesOf_29 : decode cX6_timesOf 29 = .ok (.aload_n 0, 1) := by decide +kernel
theorem dX6_timesOf_30 : decode cX6_timesOf 30 = .ok (.aload_n 0, 1) := by decide +kernel
theorem dX6_timesOf_31 : decode cX6_timesOf 31 = .ok (.getfield 39, 3) := by decide +kernel
theorem dX6_timesOf_34 : decode cX6_timesOf 34 = .ok (.iload 4, 2) := by decide +kernel
theorem dX6_timesOf_36 : decode cX6_timesOf 36 = .ok (.iaload, 1) := by decide +kernel
theorem dX6_timesOf_37 : decode cX6_timesOf 37 = .ok (.invokevirtual 112, 3) := by decide +kernel
theorem dX6_timesOf_40 : decode cX6_timesOf 40 = .ok (.iinc 4 1, 3) := by decide +kernel
theorem dX6_timesOf_43 : decode cX6_timesOf 43 = .ok (.goto (-23), 3) := by decide +kernel
theorem dX6_timesOf_46 : decode cX6_timesOf 46 = .ok (.iinc 2 1, 3) := by decide +kernel
theorem dX6_timesOf_49 : decode cX6_timesOf 49 = .ok (.aload_n 0, 1) := by decide +kernel
theorem dX6_timesOf_50 : decode cX6_timesOf 50 = .ok (.invokevirtual 119, 3) := by decide +kernel
theorem dX6_timesOf_53 : decode cX6_timesOf 53 = .ok (.bipush 8, 2) := by decide +kernel
theorem dX6_timesOf_55 : decode cX6_timesOf 55 = .ok (.if_icmp .ge 7, 3) := by decide +kernel
theorem dX6_timesOf_58 : decode cX6_timesOf 58 = .ok (.iconst 1, 1) := by decide +kernel
theorem dX6_timesOf_59 : decode cX6_timesOf 59 = .ok (.goto 4, 3) := by decide +kernel
theorem dX6_timesOf_62 : decode cX6_timesOf 62 = .ok (.iconst 0, 1) := by decide +kernel
theorem dX6_timesOf_63 : decode cX6_timesOf 63 = .ok (.istore_n 3, 1) := by decide +kernel
theorem dX6_timesOf_64 : decode cX6_timesOf 64 = .ok (.goto (-51), 3) := by decide +kernel
theorem dX6_timesOf_67 : decode cX6_timesOf 67 = .ok (.iload_n 2, 1) := by decide +kernel
theorem dX6_timesOf_68 : decode cX6_timesOf 68 = .ok (.ireturn, 1) := by decide +kernel
theorem dX6_still_0 : decode cX6_still 0 = .ok (.aload_n 0, 1) := by decide +kernel
theorem dX6_still_1 : decode cX6_still 1 = .ok (.iload_n 1, 1) := by decide +kernel
theorem dX6_still_2 : decode cX6_still 2 = .ok (.invokevirtual 105, 3) := by decide +kernel
theorem dX6_still_5 : decode cX6_still 5 = .ok (.aload_n 0, 1) := by decide +kernel
theorem dX6_still_6 : decode cX6_still 6 = .ok (.invokevirtual 109, 3) := by decide +kernel
theorem dX6_still_9 : decode cX6_still 9 = .ok (.sipush 255, 3) := by decide +kernel
theorem dX6_still_12 : decode cX6_still 12 = .ok (.istore_n 2, 1) := by decide +kernel
theorem dX6_still_13 : decode cX6_still 13 = .ok (.iconst 0, 1) := by decide +kernel
theorem dX6_still_14 : decode cX6_still 14 = .ok (.istore_n 3, 1) := by decide +kernel
theorem dX6_still_15 : decode cX6_still 15 = .ok (.iload_n 3, 1) := by decide +kernel
theorem dX6_still_16 : decode cX6_still 16 = .ok (.aload_n 0, 1) := by decide +kernel
theorem dX6_still_17 : decode cX6_still 17 = .ok (.getfield 98, 3) := by decide +kernel
theorem dX6_still_20 : decode cX6_still 20 = .ok (.if_icmp .ge 56, 3) := by decide +kernel
theorem dX6_still_23 : decode cX6_still 23 = .ok (.aload_n 0, 1) := by decide +kernel
theorem dX6_still_24 : decode cX6_still 24 = .ok (.getfield 39, 3) := by decide +kernel
theorem dX6_still_27 : decode cX6_still 27 = .ok (.iload_n 3, 1) := by decide +kernel
theorem dX6_still_28 : decode cX6_still 28 = .ok (.iaload, 1) := by decide +kernel
theorem dX6_still_29 : decode cX6_still 29 = .ok (.bipush 10, 2) := by decide +kernel
theorem dX6_still_31 : decode cX6_still 31 = .ok (.idiv, 1) := by decide +kernel
theorem dX6_still_32 : decode cX6_still 32 = .ok (.istore 4, 2) := by decide +kernel
theorem dX6_still_34 : decode cX6_still 34 = .ok (.iload_n 2, 1) := by decide +kernel
theorem dX6_still_35 : decode cX6_still 35 = .ok (.iconst 1, 1) := by decide +kernel
theorem dX6_still_36 : decode cX6_still 36 = .ok (.aload_n 0, 1) := by decide +kernel
theorem dX6_still_37 : decode cX6_still 37 = .ok (.getfield 45, 3) := by decide +kernel
theorem dX6_still_40 : decode cX6_still 40 = .ok (.iload 4, 2) := by decide +kernel
theorem dX6_still_42 : decode cX6_still 42 = .ok (.iaload, 1) := by decide +kernel
theorem dX6_still_43 : decode cX6_still 43 = .ok (.ishl, 1) := by decide +kernel
theorem dX6_still_44 : decode cX6_still 44 = .ok (.iconst 1, 1) := by decide +kernel
theorem dX6_still_45 : decode cX6_still 45 = .ok (.aload_n 0, 1) := by decide +kernel
theorem dX6_still_46 : decode cX6_still 46 = .ok (.getfield 45, 3) := by decide +kernel
theorem dX6_still_49 : decode cX6_still 49 = .ok (.iload 4, 2) := by decide +kernel
theorem dX6_still_51 : decode cX6_still 51 = .ok (.iconst 1, 1) := by decide +kernel
theorem dX6_still_52 : decode cX6_still 52 = .ok (.iadd, 1) := by decide +kernel
theorem dX6_still_53 : decode cX6_still 53 = .ok (.iaload, 1) := by decide +kernel
theorem dX6_still_54 : decode cX6_still 54 = .ok (.ishl, 1) := by decide +kernel
theorem dX6_still_55 : decode cX6_still 55 = .ok (.ior, 1) := by decide +kernel
theorem dX6_still_56 : decode cX6_still 56 = .ok (.iconst (-1), 1) := by decide +kernel
theorem dX6_still_57 : decode cX6_still 57 = .ok (.ixor, 1) := by decide +kernel
theorem dX6_still_58 : decode cX6_still 58 = .ok (.iand, 1) := by decide +kernel
theorem dX6_still_59 : decode cX6_still 59 = .ok (.istore_n 2, 1) := by decide +kernel
theorem dX6_still_60 : decode cX6_still 60 = .ok (.aload_n 0, 1) := by decide +kernel
theorem dX6_still_61 : decode cX6_still 61 = .ok (.aload_n 0, 1) := by decide +kernel
theorem dX6_still_62 : decode cX6_still 62 = .ok (.getfield 39, 3) := by decide +kernel
theorem dX6_still_65 : decode cX6_still 65 = .ok (.iload_n 3, 1) := by decide +kernel
theorem dX6_still_66 : decode cX6_still 66 = .ok (.iaload, 1) := by decide +kernel
theorem dX6_still_67 : decode cX6_still 67 = .ok (.invokevirtual 112, 3) := by decide +kernel
theorem dX6_still_70 : decode cX6_still 70 = .ok (.iinc 3 1, 3) := by decide +kernel
theorem dX6_still_73 : decode cX6_still 73 = .ok (.goto (-58), 3) := by decide +kernel
theorem dX6_still_76 : decode cX6_still 76 = .ok (.iload_n 2, 1) := by decide +kernel
theorem dX6_still_77 : decode cX6_still 77 = .ok (.ireturn, 1) := by decide +kernel
theorem dX6_told_0 : decode cX6_told 0 = .ok (.iload_n 1, 1) := by decide +kernel
theorem dX6_told_1 : decode cX6_told 1 = .ok (.invokestatic 71, 3) := by decide +kernel
theorem dX6_told_4 : decode cX6_told 4 = .ok (.ifCond .ne 5, 3) := by decide +kernel
theorem dX6_told_7 : decode cX6_told 7 = .ok (.iconst (-1), 1) := by decide +kernel
theorem dX6_told_8 : decode cX6_told 8 = .ok (.ireturn, 1) := by decide +kernel
theorem dX6_told_9 : decode cX6_told 9 = .ok (.iload_n 2, 1) := by decide +kernel
theorem dX6_told_10 : decode cX6_told 10 = .ok (.tableswitch 84 0 5 #[38, 44, 54, 60, 66, 78], 38) := by decide +kernel
theorem dX6_told_48 : decode cX6_told 48 = .ok (.aload_n 0, 1) := by decide +kernel
theorem dX6_told_49 : decode cX6_told 49 = .ok (.iload_n 1, 1) := by decide +kernel
theorem dX6_told_50 : decode cX6_told 50 = .ok (.invokevirtual 86, 3) := by decide +kernel
theorem dX6_told_53 : decode cX6_told 53 = .ok (.ireturn, 1) := by decide +kernel
theorem dX6_told_54 : decode cX6_told 54 = .ok (.aload_n 0, 1) := by decide +kernel
theorem dX6_told_55 : decode cX6_told 55 = .ok (.iload_n 1, 1) := by decide +kernel
theorem dX6_told_56 : decode cX6_told 56 = .ok (.invokevirtual 105, 3) := by decide +kernel
theorem dX6_told_59 : decode cX6_told 59 = .ok (.aload_n 0, 1) := by decide +kernel
theorem dX6_told_60 : decode cX6_told 60 = .ok (.getfield 98, 3) := by decide +kernel
theorem dX6_told_63 : decode cX6_told 63 = .ok (.ireturn, 1) := by decide +kernel
theorem dX6_told_64 : decode cX6_told 64 = .ok (.aload_n 0, 1) := by decide +kernel
theorem dX6_told_65 : decode cX6_told 65 = .ok (.iload_n 1, 1) := by decide +kernel
theorem dX6_told_66 : decode cX6_told 66 = .ok (.invokevirtual 122, 3) := by decide +kernel
theorem dX6_told_69 : decode cX6_told 69 = .ok (.ireturn, 1) := by decide +kernel
theorem dX6_told_70 : decode cX6_told 70 = .ok (.aload_n 0, 1) := by decide +kernel
theorem dX6_told_71 : decode cX6_told 71 = .ok (.iload_n 1, 1) := by decide +kernel
theorem dX6_told_72 : decode cX6_told 72 = .ok (.invokevirtual 125, 3) := by decide +kernel
theorem dX6_told_75 : decode cX6_told 75 = .ok (.ireturn, 1) := by decide +kernel
theorem dX6_told_76 : decode cX6_told 76 = .ok (.aload_n 0, 1) := by decide +kernel
theorem dX6_told_77 : decode cX6_told 77 = .ok (.iload_n 1, 1) := by decide +kernel
theorem dX6_told_78 : decode cX6_told 78 = .ok (.bipush 60, 2) := by decide +kernel
theorem dX6_told_80 : decode cX6_told 80 = .ok (.invokevirtual 115, 3) := by decide +kernel
theorem dX6_told_83 : decode cX6_told 83 = .ok (.aload_n 0, 1) := by decide +kernel
theorem dX6_told_84 : decode cX6_told 84 = .ok (.invokevirtual 119, 3) := by decide +kernel
theorem dX6_told_87 : decode cX6_told 87 = .ok (.ireturn, 1) := by decide +kernel
theorem dX6_told_88 : decode cX6_told 88 = .ok (.aload_n 0, 1) := by decide +kernel
theorem dX6_told_89 : decode cX6_told 89 = .ok (.iload_n 1, 1) := by decide +kernel
theorem dX6_told_90 : decode cX6_told 90 = .ok (.invokevirtual 128, 3) := by decide +kernel
theorem dX6_told_93 : decode cX6_told 93 = .ok (.ireturn, 1) := by decide +kernel
theorem dX6_told_94 : decode cX6_told 94 = .ok (.bipush (-2), 2) := by decide +kernel
theorem dX6_told_96 : decode cX6_told 96 = .ok (.ireturn, 1) := by decide +kernel
theorem dX6_pin_0 : decode cX6_pin 0 = .ok (.iload_n 1, 1) := by decide +kernel
theorem dX6_pin_1 : decode cX6_pin 1 = .ok (.invokestatic 71, 3) := by decide +kernel
theorem dX6_pin_4 : decode cX6_pin 4 = .ok (.ifCond .ne 5, 3) := by decide +kernel
theorem dX6_pin_7 : decode cX6_pin 7 = .ok (.iconst (-1), 1) := by decide +kernel
theorem dX6_pin_8 : decode cX6_pin 8 = .ok (.ireturn, 1) := by decide +kernel
theorem dX6_pin_9 : decode cX6_pin 9 = .ok (.iload_n 3, 1) := by decide +kernel
theorem dX6_pin_10 : decode cX6_pin 10 = .ok (.iconst 0, 1) := by decide +kernel
theorem dX6_pin_11 : decode cX6_pin 11 = .ok (.iconst 3, 1) := by decide +kernel
theorem dX6_pin_12 : decode cX6_pin 12 = .ok (.invokestatic 57, 3) := by decide +kernel
theorem dX6_pin_15 : decode cX6_pin 15 = .ok (.ifCond .ne 6, 3) := by decide +kernel
theorem dX6_pin_18 : decode cX6_pin 18 = .ok (.bipush (-2), 2) := by decide +kernel
theorem dX6_pin_20 : decode cX6_pin 20 = .ok (.ireturn, 1) := by decide +kernel
theorem dX6_pin_21 : decode cX6_pin 21 = .ok (.iconst 0, 1) := by decide +kernel
theorem dX6_pin_22 : decode cX6_pin 22 = .ok (.istore 4, 2) := by decide +kernel
theorem dX6_pin_24 : decode cX6_pin 24 = .ok (.iconst 0, 1) := by decide +kernel
theorem dX6_pin_25 : decode cX6_pin 25 = .ok (.istore 5, 2) := by decide +kernel
theorem dX6_pin_27 : decode cX6_pin 27 = .ok (.iload 5, 2) := by decide +kernel
theorem dX6_pin_29 : decode cX6_pin 29 = .ok (.aload_n 0, 1) := by decide +kernel
theorem dX6_pin_30 : decode cX6_pin 30 = .ok (.iload_n 1, 1) := by decide +kernel
theorem dX6_pin_31 : decode cX6_pin 31 = .ok (.invokevirtual 86, 3) := by decide +kernel
theorem dX6_pin_34 : decode cX6_pin 34 = .ok (.if_icmp .ge 85, 3) := by decide +kernel
theorem dX6_pin_37 : decode cX6_pin 37 = .ok (.aload_n 0, 1) := by decide +kernel
theorem dX6_pin_38 : decode cX6_pin 38 = .ok (.iload_n 1, 1) := by decide +kernel
theorem dX6_pin_39 : decode cX6_pin 39 = .ok (.iload 5, 2) := by decide +kernel
theorem dX6_pin_41 : decode cX6_pin 41 = .ok (.invokevirtual 89, 3) := by decide +kernel
theorem dX6_pin_44 : decode cX6_pin 44 = .ok (.iconst 4, 1) := by decide +kernel
theorem dX6_pin_45 : decode cX6_pin 45 = .ok (.if_icmp .ne 68, 3) := by decide +kernel
theorem dX6_pin_48 : decode cX6_pin 48 = .ok (.iload 4, 2) := by decide +kernel
theorem dX6_pin_50 : decode cX6_pin 50 = .ok (.iload_n 2, 1) := by decide +kernel
theorem dX6_pin_51 : decode cX6_pin 51 = .ok (.if_icmp .ne 59, 3) := by decide +kernel
theorem dX6_pin_54 : decode cX6_pin 54 = .ok (.iconst 2, 1) := by decide +kernel
theorem dX6_pin_55 : decode cX6_pin 55 = .ok (.aload_n 0, 1) := by decide +kernel
theorem dX6_pin_56 : decode cX6_pin 56 = .ok (.iload_n 1, 1) := by decide +kernel
theorem dX6_pin_57 : decode cX6_pin 57 = .ok (.iload 5, 2) := by decide +kernel
theorem dX6_pin_59 : decode cX6_pin 59 = .ok (.invokevirtual 92, 3) := by decide +kernel
theorem dX6_pin_62 : decode cX6_pin 62 = .ok (.imul, 1) := by decide +kernel
theorem dX6_pin_63 : decode cX6_pin 63 = .ok (.iconst 1, 1) := by decide +kernel
theorem dX6_pin_64 : decode cX6_pin 64 = .ok (.iadd, 1) := by decide +kernel
theorem dX6_pin_65 : decode cX6_pin 65 = .ok (.istore 6, 2) := by decide +kernel
theorem dX6_pin_67 : decode cX6_pin 67 = .ok (.aload_n 0, 1) := by decide +kernel
theorem dX6_pin_68 : decode cX6_pin 68 = .ok (.iload_n 1, 1) := by decide +kernel
theorem dX6_pin_69 : decode cX6_pin 69 = .ok (.iload 5, 2) := by decide +kernel
theorem dX6_pin_71 : decode cX6_pin 71 = .ok (.invokevirtual 115, 3) := by decide +kernel
theorem dX6_pin_74 : decode cX6_pin 74 = .ok (.iload_n 3, 1) := by decide +kernel
theorem dX6_pin_75 : decode cX6_pin 75 = .ok (.ifCond .ne 8, 3) := by decide +kernel
theorem dX6_pin_78 : decode cX6_pin 78 = .ok (.iload 5, 2) := by decide +kernel
theorem dX6_pin_80 : decode cX6_pin 80 = .ok (.goto 29, 3) := by decide +kernel
theorem dX6_pin_83 : decode cX6_pin 83 = .ok (.iload_n 3, 1) := by decide +kernel
theorem dX6_pin_84 : decode cX6_pin 84 = .ok (.iconst 1, 1) := by decide +kernel
theorem dX6_pin_85 : decode cX6_pin 85 = .ok (.if_icmp .ne 13, 3) := by decide +kernel
theorem dX6_pin_88 : decode cX6_pin 88 = .ok (.aload_n 0, 1) := by decide +kernel
theorem dX6_pin_89 : decode cX6_pin 89 = .ok (.iload_n 1, 1) := by decide +kernel
theorem dX6_pin_90 : decode cX6_pin 90 = .ok (.iload 5, 2) := by decide +kernel
theorem dX6_pin_92 : decode cX6_pin 92 = .ok (.invokevirtual 92, 3) := by decide +kernel
theorem dX6_pin_95 : decode cX6_pin 95 = .ok (.goto 14, 3) := by decide +kernel
theorem dX6_pin_98 : decode cX6_pin 98 = .ok (.aload_n 0, 1) := by decide +kernel
theorem dX6_pin_99 : decode cX6_pin 99 = .ok (.getfield 45, 3) := by decide +kernel
theorem dX6_pin_102 : decode cX6_pin 102 = .ok (.iload 6, 2) := by decide +kernel
theorem dX6_pin_104 : decode cX6_pin 104 = .ok (.iload_n 3, 1) := by decide +kernel
theorem dX6_pin_105 : decode cX6_pin 105 = .ok (.iadd, 1) := by decide +kernel
theorem dX6_pin_106 : decode cX6_pin 106 = .ok (.iconst 2, 1) := by decide +kernel
theorem dX6_pin_107 : decode cX6_pin 107 = .ok (.isub, 1) := by decide +kernel
theorem dX6_pin_108 : decode cX6_pin 108 = .ok (.iaload, 1) := by decide +kernel
theorem dX6_pin_109 : decode cX6_pin 109 = .ok (.ireturn, 1) := by decide +kernel
theorem dX6_pin_110 : decode cX6_pin 110 = .ok (.iinc 4 1, 3) := by decide +kernel
theorem dX6_pin_113 : decode cX6_pin 113 = .ok (.iinc 5 1, 3) := by decide +kernel
theorem dX6_pin_116 : decode cX6_pin 116 = .ok (.goto (-89), 3) := by decide +kernel
theorem dX6_pin_119 : decode cX6_pin 119 = .ok (.bipush (-6), 2) := by decide +kernel
theorem dX6_pin_121 : decode cX6_pin 121 = .ok (.ireturn, 1) := by decide +kernel
theorem dX6_letter_0 : decode cX6_letter 0 = .ok (.iload_n 1, 1) := by decide +kernel
theorem dX6_letter_1 : decode cX6_letter 1 = .ok (.invokestatic 71, 3) := by decide +kernel
theorem dX6_letter_4 : decode cX6_letter 4 = .ok (.ifCond .ne 5, 3) := by decide +kernel
theorem dX6_letter_7 : decode cX6_letter 7 = .ok (.iconst (-1), 1) := by decide +kernel
theorem dX6_letter_8 : decode cX6_letter 8 = .ok (.ireturn, 1) := by decide +kernel
theorem dX6_letter_9 : decode cX6_letter 9 = .ok (.iload_n 2, 1) := by decide +kernel
theorem dX6_letter_10 : decode cX6_letter 10 = .ok (.iconst (-1), 1) := by decide +kernel
theorem dX6_letter_11 : decode cX6_letter 11 = .ok (.if_icmp .ge 6, 3) := by decide +kernel
theorem dX6_letter_14 : decode cX6_letter 14 = .ok (.bipush (-2), 2) := by decide +kernel
theorem dX6_letter_16 : decode cX6_letter 16 = .ok (.ireturn, 1) := by decide +kernel
theorem dX6_letter_17 : decode cX6_letter 17 = .ok (.aload_n 0, 1) := by decide +kernel
theorem dX6_letter_18 : decode cX6_letter 18 = .ok (.iload_n 1, 1) := by decide +kernel
theorem dX6_letter_19 : decode cX6_letter 19 = .ok (.invokevirtual 105, 3) := by decide +kernel
theorem dX6_letter_22 : decode cX6_letter 22 = .ok (.iload_n 2, 1) := by decide +kernel
theorem dX6_letter_23 : decode cX6_letter 23 = .ok (.iconst (-1), 1) := by decide +kernel
theorem dX6_letter_24 : decode cX6_letter 24 = .ok (.if_icmp .ne 10, 3) := by decide +kernel
theorem dX6_letter_27 : decode cX6_letter 27 = .ok (.aload_n 0, 1) := by decide +kernel
theorem dX6_letter_28 : decode cX6_letter 28 = .ok (.getfield 98, 3) := by decide +kernel
theorem dX6_letter_31 : decode cX6_letter 31 = .ok (.goto 22, 3) := by decide +kernel
theorem dX6_letter_34 : decode cX6_letter 34 = .ok (.iload_n 2, 1) := by decide +kernel
theorem dX6_letter_35 : decode cX6_letter 35 = .ok (.aload_n 0, 1) := by decide +kernel
theorem dX6_letter_36 : decode cX6_letter 36 = .ok (.getfield 98, 3) := by decide +kernel
theorem dX6_letter_39 : decode cX6_letter 39 = .ok (.if_icmp .ge 12, 3) := by decide +kernel
theorem dX6_letter_42 : decode cX6_letter 42 = .ok (.aload_n 0, 1) := by decide +kernel
theorem dX6_letter_43 : decode cX6_letter 43 = .ok (.getfield 39, 3) := by decide +kernel
theorem dX6_letter_46 : decode cX6_letter 46 = .ok (.iload_n 2, 1) := by decide +kernel
theorem dX6_letter_47 : decode cX6_letter 47 = .ok (.iaload, 1) := by decide +kernel
theorem dX6_letter_48 : decode cX6_letter 48 = .ok (.goto 5, 3) := by decide +kernel
theorem dX6_letter_51 : decode cX6_letter 51 = .ok (.bipush (-6), 2) := by decide +kernel
theorem dX6_letter_53 : decode cX6_letter 53 = .ok (.ireturn, 1) := by decide +kernel
theorem dX6_apart_0 : decode cX6_apart 0 = .ok (.iload_n 0, 1) := by decide +kernel
theorem dX6_apart_1 : decode cX6_apart 1 = .ok (.bipush 10, 2) := by decide +kernel
theorem dX6_apart_3 : decode cX6_apart 3 = .ok (.idiv, 1) := by decide +kernel
theorem dX6_apart_4 : decode cX6_apart 4 = .ok (.iload_n 1, 1) := by decide +kernel
theorem dX6_apart_5 : decode cX6_apart 5 = .ok (.bipush 10, 2) := by decide +kernel
theorem dX6_apart_7 : decode cX6_apart 7 = .ok (.idiv, 1) := by decide +kernel
theorem dX6_apart_8 : decode cX6_apart 8 = .ok (.isub, 1) := by decide +kernel
theorem dX6_apart_9 : decode cX6_apart 9 = .ok (.istore_n 2, 1) := by decide +kernel
theorem dX6_apart_10 : decode cX6_apart 10 = .ok (.iload_n 2, 1) := by decide +kernel
theorem dX6_apart_11 : decode cX6_apart 11 = .ok (.iconst 1, 1) := by decide +kernel
theorem dX6_apart_12 : decode cX6_apart 12 = .ok (.if_icmp .gt 8, 3) := by decide +kernel
theorem dX6_apart_15 : decode cX6_apart 15 = .ok (.iload_n 2, 1) := by decide +kernel
theorem dX6_apart_16 : decode cX6_apart 16 = .ok (.iconst (-1), 1) := by decide +kernel
theorem dX6_apart_17 : decode cX6_apart 17 = .ok (.if_icmp .ge 7, 3) := by decide +kernel
theorem dX6_apart_20 : decode cX6_apart 20 = .ok (.iconst 1, 1) := by decide +kernel
theorem dX6_apart_21 : decode cX6_apart 21 = .ok (.goto 4, 3) := by decide +kernel
theorem dX6_apart_24 : decode cX6_apart 24 = .ok (.iconst 0, 1) := by decide +kernel
theorem dX6_apart_25 : decode cX6_apart 25 = .ok (.ireturn, 1) := by decide +kernel
theorem dX6_removeAt_0 : decode cX6_removeAt 0 = .ok (.iload_n 1, 1) := by decide +kernel
theorem dX6_removeAt_1 : decode cX6_removeAt 1 = .ok (.istore_n 3, 1) := by decide +kernel
theorem dX6_removeAt_2 : decode cX6_removeAt 2 = .ok (.iload_n 3, 1) := by decide +kernel
theorem dX6_removeAt_3 : decode cX6_removeAt 3 = .ok (.iconst 1, 1) := by decide +kernel
theorem dX6_removeAt_4 : decode cX6_removeAt 4 = .ok (.iadd, 1) := by decide +kernel
theorem dX6_removeAt_5 : decode cX6_removeAt 5 = .ok (.iload_n 2, 1) := by decide +kernel
theorem dX6_removeAt_6 : decode cX6_removeAt 6 = .ok (.if_icmp .ge 17, 3) := by decide +kernel
theorem dX6_removeAt_9 : decode cX6_removeAt 9 = .ok (.aload_n 0, 1) := by decide +kernel
theorem dX6_removeAt_10 : decode cX6_removeAt 10 = .ok (.iload_n 3, 1) := by decide +kernel
theorem dX6_removeAt_11 : decode cX6_removeAt 11 = .ok (.aload_n 0, 1) := by decide +kernel
theorem dX6_removeAt_12 : decode cX6_removeAt 12 = .ok (.iload_n 3, 1) := by decide +kernel
theorem dX6_removeAt_13 : decode cX6_removeAt 13 = .ok (.iconst 1, 1) := by decide +kernel
theorem dX6_removeAt_14 : decode cX6_removeAt 14 = .ok (.iadd, 1) := by decide +kernel
theorem dX6_removeAt_15 : decode cX6_removeAt 15 = .ok (.iaload, 1) := by decide +kernel
theorem dX6_removeAt_16 : decode cX6_removeAt 16 = .ok (.iastore, 1) := by decide +kernel
theorem dX6_removeAt_17 : decode cX6_removeAt 17 = .ok (.iinc 3 1, 3) := by decide +kernel
theorem dX6_removeAt_20 : decode cX6_removeAt 20 = .ok (.goto (-18), 3) := by decide +kernel
theorem dX6_removeAt_23 : decode cX6_removeAt 23 = .ok (.return_, 1) := by decide +kernel
theorem dX6_addLeft_0 : decode cX6_addLeft 0 = .ok (.aload_n 0, 1) := by decide +kernel
theorem dX6_addLeft_1 : decode cX6_addLeft 1 = .ok (.getfield 131, 3) := by decide +kernel
theorem dX6_addLeft_4 : decode cX6_addLeft 4 = .ok (.iconst 1, 1) := by decide +kernel
theorem dX6_addLeft_5 : decode cX6_addLeft 5 = .ok (.isub, 1) := by decide +kernel
theorem dX6_addLeft_6 : decode cX6_addLeft 6 = .ok (.istore_n 2, 1) := by decide +kernel
theorem dX6_addLeft_7 : decode cX6_addLeft 7 = .ok (.iload_n 2, 1) := by decide +kernel
theorem dX6_addLeft_8 : decode cX6_addLeft 8 = .ok (.ifCond .lt 22, 3) := by decide +kernel
theorem dX6_addLeft_11 : decode cX6_addLeft 11 = .ok (.aload_n 0, 1) := by decide +kernel
theorem dX6_addLeft_12 : decode cX6_addLeft 12 = .ok (.getfield 48, 3) := by decide +kernel
theorem dX6_addLeft_15 : decode cX6_addLeft 15 = .ok (.iload_n 2, 1) := by decide +kernel
theorem dX6_addLeft_16 : decode cX6_addLeft 16 = .ok (.iaload, 1) := by decide +kernel
theorem dX6_addLeft_17 : decode cX6_addLeft 17 = .ok (.iload_n 1, 1) := by decide +kernel
theorem dX6_addLeft_18 : decode cX6_addLeft 18 = .ok (.invokestatic 134, 3) := by decide +kernel
theorem dX6_addLeft_21 : decode cX6_addLeft 21 = .ok (.ifCond .eq 9, 3) := by decide +kernel
theorem dX6_addLeft_24 : decode cX6_addLeft 24 = .ok (.iinc 2 (-1), 3) := by decide +kernel
theorem dX6_addLeft_27 : decode cX6_addLeft 27 = .ok (.goto (-20), 3) := by decide +kernel
theorem dX6_addLeft_30 : decode cX6_addLeft 30 = .ok (.iload_n 2, 1) := by decide +kernel
theorem dX6_addLeft_31 : decode cX6_addLeft 31 = .ok (.ifCond .lt 54, 3) := by decide +kernel
theorem dX6_addLeft_34 : decode cX6_addLeft 34 = .ok (.aload_n 0, 1) := by decide +kernel
theorem dX6_addLeft_35 : decode cX6_addLeft 35 = .ok (.getfield 48, 3) := by decide +kernel
theorem dX6_addLeft_38 : decode cX6_addLeft 38 = .ok (.iload_n 2, 1) := by decide +kernel
theorem dX6_addLeft_39 : decode cX6_addLeft 39 = .ok (.iaload, 1) := by decide +kernel
theorem dX6_addLeft_40 : decode cX6_addLeft 40 = .ok (.bipush 10, 2) := by decide +kernel
theorem dX6_addLeft_42 : decode cX6_addLeft 42 = .ok (.idiv, 1) := by decide +kernel
theorem dX6_addLeft_43 : decode cX6_addLeft 43 = .ok (.iload_n 1, 1) := by decide +kernel
theorem dX6_addLeft_44 : decode cX6_addLeft 44 = .ok (.bipush 10, 2) := by decide +kernel
theorem dX6_addLeft_46 : decode cX6_addLeft 46 = .ok (.idiv, 1) := by decide +kernel
theorem dX6_addLeft_47 : decode cX6_addLeft 47 = .ok (.if_icmp .ne 38, 3) := by decide +kernel
theorem dX6_addLeft_50 : decode cX6_addLeft 50 = .ok (.aload_n 0, 1) := by decide +kernel
theorem dX6_addLeft_51 : decode cX6_addLeft 51 = .ok (.getfield 48, 3) := by decide +kernel
theorem dX6_addLeft_54 : decode cX6_addLeft 54 = .ok (.iload_n 2, 1) := by decide +kernel
theorem dX6_addLeft_55 : decode cX6_addLeft 55 = .ok (.iaload, 1) := by decide +kernel
theorem dX6_addLeft_56 : decode cX6_addLeft 56 = .ok (.iload_n 1, 1) := by decide +kernel
theorem dX6_addLeft_57 : decode cX6_addLeft 57 = .ok (.if_icmp .eq 28, 3) := by decide +kernel
theorem dX6_addLeft_60 : decode cX6_addLeft 60 = .ok (.aload_n 0, 1) := by decide +kernel
theorem dX6_addLeft_61 : decode cX6_addLeft 61 = .ok (.getfield 48, 3) := by decide +kernel
theorem dX6_addLeft_64 : decode cX6_addLeft 64 = .ok (.iload_n 2, 1) := by decide +kernel
theorem dX6_addLeft_65 : decode cX6_addLeft 65 = .ok (.aload_n 0, 1) := by decide +kernel
theorem dX6_addLeft_66 : decode cX6_addLeft 66 = .ok (.getfield 131, 3) := by decide +kernel
theorem dX6_addLeft_69 : decode cX6_addLeft 69 = .ok (.invokestatic 138, 3) := by decide +kernel
theorem dX6_addLeft_72 : decode cX6_addLeft 72 = .ok (.aload_n 0, 1) := by decide +kernel
theorem dX6_addLeft_73 : decode cX6_addLeft 73 = .ok (.dup, 1) := by decide +kernel
theorem dX6_addLeft_74 : decode cX6_addLeft 74 = .ok (.getfield 131, 3) := by decide +kernel
theorem dX6_addLeft_77 : decode cX6_addLeft 77 = .ok (.iconst 1, 1) := by decide +kernel
theorem dX6_addLeft_78 : decode cX6_addLeft 78 = .ok (.isub, 1) := by decide +kernel
theorem dX6_addLeft_79 : decode cX6_addLeft 79 = .ok (.putfield 131, 3) := by decide +kernel
theorem dX6_addLeft_82 : decode cX6_addLeft 82 = .ok (.goto 23, 3) := by decide +kernel
theorem dX6_addLeft_85 : decode cX6_addLeft 85 = .ok (.aload_n 0, 1) := by decide +kernel
theorem dX6_addLeft_86 : decode cX6_addLeft 86 = .ok (.getfield 48, 3) := by decide +kernel
theorem dX6_addLeft_89 : decode cX6_addLeft 89 = .ok (.aload_n 0, 1) := by decide +kernel
theorem dX6_addLeft_90 : decode cX6_addLeft 90 = .ok (.getfield 131, 3) := by decide +kernel
theorem dX6_addLeft_93 : decode cX6_addLeft 93 = .ok (.iload_n 1, 1) := by decide +kernel
theorem dX6_addLeft_94 : decode cX6_addLeft 94 = .ok (.iastore, 1) := by decide +kernel
theorem dX6_addLeft_95 : decode cX6_addLeft 95 = .ok (.aload_n 0, 1) := by decide +kernel
theorem dX6_addLeft_96 : decode cX6_addLeft 96 = .ok (.dup, 1) := by decide +kernel
theorem dX6_addLeft_97 : decode cX6_addLeft 97 = .ok (.getfield 131, 3) := by decide +kernel
theorem dX6_addLeft_100 : decode cX6_addLeft 100 = .ok (.iconst 1, 1) := by decide +kernel
theorem dX6_addLeft_101 : decode cX6_addLeft 101 = .ok (.iadd, 1) := by decide +kernel
theorem dX6_addLeft_102 : decode cX6_addLeft 102 = .ok (.putfield 131, 3) := by decide +kernel
theorem dX6_addLeft_105 : decode cX6_addLeft 105 = .ok (.return_, 1) := by decide +kernel
theorem dX6_front_0 : decode cX6_front 0 = .ok (.bipush (-6), 2) := by decide +kernel
theorem dX6_front_2 : decode cX6_front 2 = .ok (.istore_n 1, 1) := by decide +kernel
theorem dX6_front_3 : decode cX6_front 3 = .ok (.iconst 0, 1) := by decide +kernel
theorem dX6_front_4 : decode cX6_front 4 = .ok (.istore_n 2, 1) := by decide +kernel
theorem dX6_front_5 : decode cX6_front 5 = .ok (.iload_n 2, 1) := by decide +kernel
theorem dX6_front_6 : decode cX6_front 6 = .ok (.aload_n 0, 1) := by decide +kernel
theorem dX6_front_7 : decode cX6_front 7 = .ok (.getfield 131, 3) := by decide +kernel
theorem dX6_front_10 : decode cX6_front 10 = .ok (.if_icmp .ge 76, 3) := by decide +kernel
theorem dX6_front_13 : decode cX6_front 13 = .ok (.iconst 1, 1) := by decide +kernel
theorem dX6_front_14 : decode cX6_front 14 = .ok (.istore_n 3, 1) := by decide +kernel
theorem dX6_front_15 : decode cX6_front 15 = .ok (.iconst 0, 1) := by decide +kernel
theorem dX6_front_16 : decode cX6_front 16 = .ok (.istore 4, 2) := by decide +kernel
theorem dX6_front_18 : decode cX6_front 18 = .ok (.iload 4, 2) := by decide +kernel
theorem dX6_front_20 : decode cX6_front 20 = .ok (.iload_n 2, 1) := by decide +kernel
theorem dX6_front_21 : decode cX6_front 21 = .ok (.if_icmp .ge 30, 3) := by decide +kernel
theorem dX6_front_24 : decode cX6_front 24 = .ok (.iload_n 3, 1) := by decide +kernel
theorem dX6_front_25 : decode cX6_front 25 = .ok (.ifCond .eq 26, 3) := by decide +kernel
theorem dX6_front_28 : decode cX6_front 28 = .ok (.aload_n 0, 1) := by decide +kernel
theorem dX6_front_29 : decode cX6_front 29 = .ok (.getfield 48, 3) := by decide +kernel
theorem dX6_front_32 : decode cX6_front 32 = .ok (.iload 4, 2) := by decide +kernel
theorem dX6_front_34 : decode cX6_front 34 = .ok (.iaload, 1) := by decide +kernel
theorem dX6_front_35 : decode cX6_front 35 = .ok (.aload_n 0, 1) := by decide +kernel
theorem dX6_front_36 : decode cX6_front 36 = .ok (.getfield 48, 3) := by decide +kernel
theorem dX6_front_39 : decode cX6_front 39 = .ok (.iload_n 2, 1) := by decide +kernel
theorem dX6_front_40 : decode cX6_front 40 = .ok (.iaload, 1) := by decide +kernel
theorem dX6_front_41 : decode cX6_front 41 = .ok (.invokestatic 134, 3) := by decide +kernel
theorem dX6_front_44 : decode cX6_front 44 = .ok (.istore_n 3, 1) := by decide +kernel
theorem dX6_front_45 : decode cX6_front 45 = .ok (.iinc 4 1, 3) := by decide +kernel
theorem dX6_front_48 : decode cX6_front 48 = .ok (.goto (-30), 3) := by decide +kernel
theorem dX6_front_51 : decode cX6_front 51 = .ok (.iload_n 3, 1) := by decide +kernel
theorem dX6_front_52 : decode cX6_front 52 = .ok (.ifCond .eq 26, 3) := by decide +kernel
theorem dX6_front_55 : decode cX6_front 55 = .ok (.iload_n 1, 1) := by decide +kernel
theorem dX6_front_56 : decode cX6_front 56 = .ok (.ifCond .lt 18, 3) := by decide +kernel
theorem dX6_front_59 : decode cX6_front 59 = .ok (.aload_n 0, 1) := by decide +kernel
theorem dX6_front_60 : decode cX6_front 60 = .ok (.getfield 48, 3) := by decide +kernel
theorem dX6_front_63 : decode cX6_front 63 = .ok (.iload_n 2, 1) := by decide +kernel
theorem dX6_front_64 : decode cX6_front 64 = .ok (.iaload, 1) := by decide +kernel
theorem dX6_front_65 : decode cX6_front 65 = .ok (.aload_n 0, 1) := by decide +kernel
theorem dX6_front_66 : decode cX6_front 66 = .ok (.getfield 48, 3) := by decide +kernel
theorem dX6_front_69 : decode cX6_front 69 = .ok (.iload_n 1, 1) := by decide +kernel
theorem dX6_front_70 : decode cX6_front 70 = .ok (.iaload, 1) := by decide +kernel
theorem dX6_front_71 : decode cX6_front 71 = .ok (.if_icmp .ge 7, 3) := by decide +kernel
theorem dX6_front_74 : decode cX6_front 74 = .ok (.iload_n 2, 1) := by decide +kernel
theorem dX6_front_75 : decode cX6_front 75 = .ok (.goto 4, 3) := by decide +kernel
theorem dX6_front_78 : decode cX6_front 78 = .ok (.iload_n 1, 1) := by decide +kernel
theorem dX6_front_79 : decode cX6_front 79 = .ok (.istore_n 1, 1) := by decide +kernel
theorem dX6_front_80 : decode cX6_front 80 = .ok (.iinc 2 1, 3) := by decide +kernel
theorem dX6_front_83 : decode cX6_front 83 = .ok (.goto (-78), 3) := by decide +kernel
theorem dX6_front_86 : decode cX6_front 86 = .ok (.iload_n 1, 1) := by decide +kernel
theorem dX6_front_87 : decode cX6_front 87 = .ok (.ireturn, 1) := by decide +kernel
theorem dX6_layShort_0 : decode cX6_layShort 0 = .ok (.aload_n 0, 1) := by decide +kernel
theorem dX6_layShort_1 : decode cX6_layShort 1 = .ok (.iload_n 1, 1) := by decide +kernel
theorem dX6_layShort_2 : decode cX6_layShort 2 = .ok (.invokevirtual 105, 3) := by decide +kernel
theorem dX6_layShort_5 : decode cX6_layShort 5 = .ok (.aload_n 0, 1) := by decide +kernel
theorem dX6_layShort_6 : decode cX6_layShort 6 = .ok (.iconst 0, 1) := by decide +kernel
theorem dX6_layShort_7 : decode cX6_layShort 7 = .ok (.putfield 131, 3) := by decide +kernel
theorem dX6_layShort_10 : decode cX6_layShort 10 = .ok (.iconst 0, 1) := by decide +kernel
theorem dX6_layShort_11 : decode cX6_layShort 11 = .ok (.istore_n 2, 1) := by decide +kernel
theorem dX6_layShort_12 : decode cX6_layShort 12 = .ok (.iload_n 2, 1) := by decide +kernel
theorem dX6_layShort_13 : decode cX6_layShort 13 = .ok (.aload_n 0, 1) := by decide +kernel
theorem dX6_layShort_14 : decode cX6_layShort 14 = .ok (.getfield 98, 3) := by decide +kernel
theorem dX6_layShort_17 : decode cX6_layShort 17 = .ok (.if_icmp .ge 19, 3) := by decide +kernel
theorem dX6_layShort_20 : decode cX6_layShort 20 = .ok (.aload_n 0, 1) := by decide +kernel
theorem dX6_layShort_21 : decode cX6_layShort 21 = .ok (.aload_n 0, 1) := by decide +kernel
theorem dX6_layShort_22 : decode cX6_layShort 22 = .ok (.getfield 39, 3) := by decide +kernel
theorem dX6_layShort_25 : decode cX6_layShort 25 = .ok (.iload_n 2, 1) := by decide +kernel
theorem dX6_layShort_26 : decode cX6_layShort 26 = .ok (.iaload, 1) := by decide +kernel
theorem dX6_layShort_27 : decode cX6_layShort 27 = .ok (.invokevirtual 142, 3) := by decide +kernel
theorem dX6_layShort_30 : decode cX6_layShort 30 = .ok (.iinc 2 1, 3) := by decide +kernel
theorem dX6_layShort_33 : decode cX6_layShort 33 = .ok (.goto (-21), 3) := by decide +kernel
theorem dX6_layShort_36 : decode cX6_layShort 36 = .ok (.aload_n 0, 1) := by decide +kernel
theorem dX6_layShort_37 : decode cX6_layShort 37 = .ok (.iconst 0, 1) := by decide +kernel
theorem dX6_layShort_38 : decode cX6_layShort 38 = .ok (.putfield 145, 3) := by decide +kernel
theorem dX6_layShort_41 : decode cX6_layShort 41 = .ok (.aload_n 0, 1) := by decide +kernel
theorem dX6_layShort_42 : decode cX6_layShort 42 = .ok (.getfield 131, 3) := by decide +kernel
theorem dX6_layShort_45 : decode cX6_layShort 45 = .ok (.ifCond .le 58, 3) := by decide +kernel
theorem dX6_layShort_48 : decode cX6_layShort 48 = .ok (.aload_n 0, 1) := by decide +kernel
theorem dX6_layShort_49 : decode cX6_layShort 49 = .ok (.invokevirtual 148, 3) := by decide +kernel
theorem dX6_layShort_52 : decode cX6_layShort 52 = .ok (.istore_n 2, 1) := by decide +kernel
theorem dX6_layShort_53 : decode cX6_layShort 53 = .ok (.aload_n 0, 1) := by decide +kernel
theorem dX6_layShort_54 : decode cX6_layShort 54 = .ok (.getfield 51, 3) := by decide +kernel
theorem dX6_layShort_57 : decode cX6_layShort 57 = .ok (.aload_n 0, 1) := by decide +kernel
theorem dX6_layShort_58 : decode cX6_layShort 58 = .ok (.getfield 145, 3) := by decide +kernel
theorem dX6_layShort_61 : decode cX6_layShort 61 = .ok (.aload_n 0, 1) := by decide +kernel
theorem dX6_layShort_62 : decode cX6_layShort 62 = .ok (.getfield 48, 3) := by decide +kernel
theorem dX6_layShort_65 : decode cX6_layShort 65 = .ok (.iload_n 2, 1) := by decide +kernel
theorem dX6_layShort_66 : decode cX6_layShort 66 = .ok (.iaload, 1) := by decide +kernel
theorem dX6_layShort_67 : decode cX6_layShort 67 = .ok (.iastore, 1) := by decide +kernel
theorem dX6_layShort_68 : decode cX6_layShort 68 = .ok (.aload_n 0, 1) := by decide +kernel
theorem dX6_layShort_69 : decode cX6_layShort 69 = .ok (.dup, 1) := by decide +kernel
theorem dX6_layShort_70 : decode cX6_layShort 70 = .ok (.getfield 145, 3) := by decide +kernel
theorem dX6_layShort_73 : decode cX6_layShort 73 = .ok (.iconst 1, 1) := by decide +kernel
theorem dX6_layShort_74 : decode cX6_layShort 74 = .ok (.iadd, 1) := by decide +kernel
theorem dX6_layShort_75 : decode cX6_layShort 75 = .ok (.putfield 145, 3) := by decide +kernel
theorem dX6_layShort_78 : decode cX6_layShort 78 = .ok (.aload_n 0, 1) := by decide +kernel
theorem dX6_layShort_79 : decode cX6_layShort 79 = .ok (.getfield 48, 3) := by decide +kernel
theorem dX6_layShort_82 : decode cX6_layShort 82 = .ok (.iload_n 2, 1) := by decide +kernel
theorem dX6_layShort_83 : decode cX6_layShort 83 = .ok (.aload_n 0, 1) := by decide +kernel
theorem dX6_layShort_84 : decode cX6_layShort 84 = .ok (.getfield 131, 3) := by decide +kernel
theorem dX6_layShort_87 : decode cX6_layShort 87 = .ok (.invokestatic 138, 3) := by decide +kernel
theorem dX6_layShort_90 : decode cX6_layShort 90 = .ok (.aload_n 0, 1) := by decide +kernel
theorem dX6_layShort_91 : decode cX6_layShort 91 = .ok (.dup, 1) := by decide +kernel
theorem dX6_layShort_92 : decode cX6_layShort 92 = .ok (.getfield 131, 3) := by decide +kernel
theorem dX6_layShort_95 : decode cX6_layShort 95 = .ok (.iconst 1, 1) := by decide +kernel
theorem dX6_layShort_96 : decode cX6_layShort 96 = .ok (.isub, 1) := by decide +kernel
theorem dX6_layShort_97 : decode cX6_layShort 97 = .ok (.putfield 131, 3) := by decide +kernel
theorem dX6_layShort_100 : decode cX6_layShort 100 = .ok (.goto (-59), 3) := by decide +kernel
theorem dX6_layShort_103 : decode cX6_layShort 103 = .ok (.return_, 1) := by decide +kernel
theorem dX6_shortest_0 : decode cX6_shortest 0 = .ok (.iload_n 1, 1) := by decide +kernel
theorem dX6_shortest_1 : decode cX6_shortest 1 = .ok (.invokestatic 71, 3) := by decide +kernel
theorem dX6_shortest_4 : decode cX6_shortest 4 = .ok (.ifCond .ne 5, 3) := by decide +kernel
theorem dX6_shortest_7 : decode cX6_shortest 7 = .ok (.iconst (-1), 1) := by decide +kernel
theorem dX6_shortest_8 : decode cX6_shortest 8 = .ok (.ireturn, 1) := by decide +kernel
theorem dX6_shortest_9 : decode cX6_shortest 9 = .ok (.iload_n 2, 1) := by decide +kernel
theorem dX6_shortest_10 : decode cX6_shortest 10 = .ok (.iconst (-1), 1) := by decide +kernel
theorem dX6_shortest_11 : decode cX6_shortest 11 = .ok (.if_icmp .ge 6, 3) := by decide +kernel
theorem dX6_shortest_14 : decode cX6_shortest 14 = .ok (.bipush (-2), 2) := by decide +kernel
theorem dX6_shortest_16 : decode cX6_shortest 16 = .ok (.ireturn, 1) := by decide +kernel
theorem dX6_shortest_17 : decode cX6_shortest 17 = .ok (.aload_n 0, 1) := by decide +kernel
theorem dX6_shortest_18 : decode cX6_shortest 18 = .ok (.iload_n 1, 1) := by decide +kernel
theorem dX6_shortest_19 : decode cX6_shortest 19 = .ok (.invokevirtual 151, 3) := by decide +kernel
theorem dX6_shortest_22 : decode cX6_shortest 22 = .ok (.iload_n 2, 1) := by decide +kernel
theorem dX6_shortest_23 : decode cX6_shortest 23 = .ok (.iconst (-1), 1) := by decide +kernel
theorem dX6_shortest_24 : decode cX6_shortest 24 = .ok (.if_icmp .ne 10, 3) := by decide +kernel
theorem dX6_shortest_27 : decode cX6_shortest 27 = .ok (.aload_n 0, 1) := by decide +kernel
theorem dX6_shortest_28 : decode cX6_shortest 28 = .ok (.getfield 145, 3) := by decide +kernel
theorem dX6_shortest_31 : decode cX6_shortest 31 = .ok (.goto 22, 3) := by decide +kernel
theorem dX6_shortest_34 : decode cX6_shortest 34 = .ok (.iload_n 2, 1) := by decide +kernel
theorem dX6_shortest_35 : decode cX6_shortest 35 = .ok (.aload_n 0, 1) := by decide +kernel
theorem dX6_shortest_36 : decode cX6_shortest 36 = .ok (.getfield 145, 3) := by decide +kernel
theorem dX6_shortest_39 : decode cX6_shortest 39 = .ok (.if_icmp .ge 12, 3) := by decide +kernel
theorem dX6_shortest_42 : decode cX6_shortest 42 = .ok (.aload_n 0, 1) := by decide +kernel
theorem dX6_shortest_43 : decode cX6_shortest 43 = .ok (.getfield 51, 3) := by decide +kernel
theorem dX6_shortest_46 : decode cX6_shortest 46 = .ok (.iload_n 2, 1) := by decide +kernel
theorem dX6_shortest_47 : decode cX6_shortest 47 = .ok (.iaload, 1) := by decide +kernel
theorem dX6_shortest_48 : decode cX6_shortest 48 = .ok (.goto 5, 3) := by decide +kernel
theorem dX6_shortest_51 : decode cX6_shortest 51 = .ok (.bipush (-6), 2) := by decide +kernel
theorem dX6_shortest_53 : decode cX6_shortest 53 = .ok (.ireturn, 1) := by decide +kernel
theorem dX6_same_0 : decode cX6_same 0 = .ok (.iload_n 1, 1) := by decide +kernel
theorem dX6_same_1 : decode cX6_same 1 = .ok (.invokestatic 71, 3) := by decide +kernel
theorem dX6_same_4 : decode cX6_same 4 = .ok (.ifCond .eq 10, 3) := by decide +kernel
theorem dX6_same_7 : decode cX6_same 7 = .ok (.iload_n 2, 1) := by decide +kernel
theorem dX6_same_8 : decode cX6_same 8 = .ok (.invokestatic 71, 3) := by decide +kernel
theorem dX6_same_11 : decode cX6_same 11 = .ok (.ifCond .ne 5, 3) := by decide +kernel
theorem dX6_same_14 : decode cX6_same 14 = .ok (.iconst (-1), 1) := by decide +kernel
theorem dX6_same_15 : decode cX6_same 15 = .ok (.ireturn, 1) := by decide +kernel
theorem dX6_same_16 : decode cX6_same 16 = .ok (.aload_n 0, 1) := by decide +kernel
theorem dX6_same_17 : decode cX6_same 17 = .ok (.iload_n 2, 1) := by decide +kernel
theorem dX6_same_18 : decode cX6_same 18 = .ok (.invokevirtual 151, 3) := by decide +kernel
theorem dX6_same_21 : decode cX6_same 21 = .ok (.aload_n 0, 1) := by decide +kernel
theorem dX6_same_22 : decode cX6_same 22 = .ok (.getfield 145, 3) := by decide +kernel
theorem dX6_same_25 : decode cX6_same 25 = .ok (.istore_n 3, 1) := by decide +kernel
theorem dX6_same_26 : decode cX6_same 26 = .ok (.iconst 0, 1) := by decide +kernel
theorem dX6_same_27 : decode cX6_same 27 = .ok (.istore 4, 2) := by decide +kernel
theorem dX6_same_29 : decode cX6_same 29 = .ok (.iload 4, 2) := by decide +kernel
theorem dX6_same_31 : decode cX6_same 31 = .ok (.iload_n 3, 1) := by decide +kernel
theorem dX6_same_32 : decode cX6_same 32 = .ok (.if_icmp .ge 23, 3) := by decide +kernel
theorem dX6_same_35 : decode cX6_same 35 = .ok (.aload_n 0, 1) := by decide +kernel
theorem dX6_same_36 : decode cX6_same 36 = .ok (.getfield 54, 3) := by decide +kernel
theorem dX6_same_39 : decode cX6_same 39 = .ok (.iload 4, 2) := by decide +kernel
theorem dX6_same_41 : decode cX6_same 41 = .ok (.aload_n 0, 1) := by decide +kernel
theorem dX6_same_42 : decode cX6_same 42 = .ok (.getfield 51, 3) := by decide +kernel
theorem dX6_same_45 : decode cX6_same 45 = .ok (.iload 4, 2) := by decide +kernel
theorem dX6_same_47 : decode cX6_same 47 = .ok (.iaload, 1) := by decide +kernel
theorem dX6_same_48 : decode cX6_same 48 = .ok (.iastore, 1) := by decide +kernel
theorem dX6_same_49 : decode cX6_same 49 = .ok (.iinc 4 1, 3) := by decide +kernel
theorem dX6_same_52 : decode cX6_same 52 = .ok (.goto (-23), 3) := by decide +kernel
theorem dX6_same_55 : decode cX6_same 55 = .ok (.aload_n 0, 1) := by decide +kernel
theorem dX6_same_56 : decode cX6_same 56 = .ok (.iload_n 1, 1) := by decide +kernel
theorem dX6_same_57 : decode cX6_same 57 = .ok (.invokevirtual 151, 3) := by decide +kernel
theorem dX6_same_60 : decode cX6_same 60 = .ok (.iload_n 3, 1) := by decide +kernel
theorem dX6_same_61 : decode cX6_same 61 = .ok (.aload_n 0, 1) := by decide +kernel
theorem dX6_same_62 : decode cX6_same 62 = .ok (.getfield 145, 3) := by decide +kernel
theorem dX6_same_65 : decode cX6_same 65 = .ok (.if_icmp .ne 7, 3) := by decide +kernel
theorem dX6_same_68 : decode cX6_same 68 = .ok (.iconst 1, 1) := by decide +kernel
theorem dX6_same_69 : decode cX6_same 69 = .ok (.goto 4, 3) := by decide +kernel
theorem dX6_same_72 : decode cX6_same 72 = .ok (.iconst 0, 1) := by decide +kernel
theorem dX6_same_73 : decode cX6_same 73 = .ok (.istore 4, 2) := by decide +kernel
theorem dX6_same_75 : decode cX6_same 75 = .ok (.iconst 0, 1) := by decide +kernel
theorem dX6_same_76 : decode cX6_same 76 = .ok (.istore 5, 2) := by decide +kernel
theorem dX6_same_78 : decode cX6_same 78 = .ok (.iload 5, 2) := by decide +kernel
theorem dX6_same_80 : decode cX6_same 80 = .ok (.iload_n 3, 1) := by decide +kernel
theorem dX6_same_81 : decode cX6_same 81 = .ok (.if_icmp .ge 38, 3) := by decide +kernel
theorem dX6_same_84 : decode cX6_same 84 = .ok (.iload 4, 2) := by decide +kernel
theorem dX6_same_86 : decode cX6_same 86 = .ok (.ifCond .eq 33, 3) := by decide +kernel
theorem dX6_same_89 : decode cX6_same 89 = .ok (.aload_n 0, 1) := by decide +kernel
theorem dX6_same_90 : decode cX6_same 90 = .ok (.getfield 54, 3) := by decide +kernel
theorem dX6_same_93 : decode cX6_same 93 = .ok (.iload 5, 2) := by decide +kernel
theorem dX6_same_95 : decode cX6_same 95 = .ok (.iaload, 1) := by decide +kernel
theorem dX6_same_96 : decode cX6_same 96 = .ok (.aload_n 0, 1) := by decide +kernel
theorem dX6_same_97 : decode cX6_same 97 = .ok (.getfield 51, 3) := by decide +kernel
theorem dX6_same_100 : decode cX6_same 100 = .ok (.iload 5, 2) := by decide +kernel
theorem dX6_same_102 : decode cX6_same 102 = .ok (.iaload, 1) := by decide +kernel
theorem dX6_same_103 : decode cX6_same 103 = .ok (.if_icmp .ne 7, 3) := by decide +kernel
theorem dX6_same_106 : decode cX6_same 106 = .ok (.iconst 1, 1) := by decide +kernel
theorem dX6_same_107 : decode cX6_same 107 = .ok (.goto 4, 3) := by decide +kernel
theorem dX6_same_110 : decode cX6_same 110 = .ok (.iconst 0, 1) := by decide +kernel
theorem dX6_same_111 : decode cX6_same 111 = .ok (.istore 4, 2) := by decide +kernel
theorem dX6_same_113 : decode cX6_same 113 = .ok (.iinc 5 1, 3) := by decide +kernel
theorem dX6_same_116 : decode cX6_same 116 = .ok (.goto (-38), 3) := by decide +kernel
theorem dX6_same_119 : decode cX6_same 119 = .ok (.iload 4, 2) := by decide +kernel
