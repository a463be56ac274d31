theorem dX5_spell_16 : decode cX5_spell 16 = .ok (.iload_n 3, 1) := by decide +kernel
theorem dX5_spell_17 : decode cX5_spell 17 = .ok (.iload_n 2, 1) := by decide +kernel
theorem dX5_spell_18 : decode cX5_spell 18 = .ok (.if_icmp .ge 62, 3) := by decide +kernel
theorem dX5_spell_21 : decode cX5_spell 21 = .ok (.aload_n 1, 1) := by decide +kernel
theorem dX5_spell_22 : decode cX5_spell 22 = .ok (.iload_n 3, 1) := by decide +kernel
theorem dX5_spell_23 : decode cX5_spell 23 = .ok (.invokevirtual 105, 3) := by decide +kernel
theorem dX5_spell_26 : decode cX5_spell 26 = .ok (.invokestatic 192, 3) := by decide +kernel
theorem dX5_spell_29 : decode cX5_spell 29 = .ok (.istore 4, 2) := by decide +kernel
theorem dX5_spell_31 : decode cX5_spell 31 = .ok (.iconst 0, 1) := by decide +kernel
theorem dX5_spell_32 : decode cX5_spell 32 = .ok (.istore 5, 2) := by decide +kernel
theorem dX5_spell_34 : decode cX5_spell 34 = .ok (.iload 5, 2) := by decide +kernel
theorem dX5_spell_36 : decode cX5_spell 36 = .ok (.iload 4, 2) := by decide +kernel
theorem dX5_spell_38 : decode cX5_spell 38 = .ok (.if_icmp .ge 36, 3) := by decide +kernel
theorem dX5_spell_41 : decode cX5_spell 41 = .ok (.aload_n 0, 1) := by decide +kernel
theorem dX5_spell_42 : decode cX5_spell 42 = .ok (.getfield 24, 3) := by decide +kernel
theorem dX5_spell_45 : decode cX5_spell 45 = .ok (.aload_n 1, 1) := by decide +kernel
theorem dX5_spell_46 : decode cX5_spell 46 = .ok (.iload_n 3, 1) := by decide +kernel
theorem dX5_spell_47 : decode cX5_spell 47 = .ok (.invokevirtual 105, 3) := by decide +kernel
theorem dX5_spell_50 : decode cX5_spell 50 = .ok (.iload 5, 2) := by decide +kernel
theorem dX5_spell_52 : decode cX5_spell 52 = .ok (.invokestatic 195, 3) := by decide +kernel
theorem dX5_spell_55 : decode cX5_spell 55 = .ok (.invokevirtual 75, 3) := by decide +kernel
theorem dX5_spell_58 : decode cX5_spell 58 = .ok (.pop, 1) := by decide +kernel
theorem dX5_spell_59 : decode cX5_spell 59 = .ok (.aload_n 0, 1) := by decide +kernel
theorem dX5_spell_60 : decode cX5_spell 60 = .ok (.getfield 27, 3) := by decide +kernel
theorem dX5_spell_63 : decode cX5_spell 63 = .ok (.iload_n 3, 1) := by decide +kernel
theorem dX5_spell_64 : decode cX5_spell 64 = .ok (.invokevirtual 75, 3) := by decide +kernel
theorem dX5_spell_67 : decode cX5_spell 67 = .ok (.pop, 1) := by decide +kernel
theorem dX5_spell_68 : decode cX5_spell 68 = .ok (.iinc 5 1, 3) := by decide +kernel
theorem dX5_spell_71 : decode cX5_spell 71 = .ok (.goto (-37), 3) := by decide +kernel
theorem dX5_spell_74 : decode cX5_spell 74 = .ok (.iinc 3 1, 3) := by decide +kernel
theorem dX5_spell_77 : decode cX5_spell 77 = .ok (.goto (-61), 3) := by decide +kernel
theorem dX5_spell_80 : decode cX5_spell 80 = .ok (.return_, 1) := by decide +kernel
theorem dX5_shorten_0 : decode cX5_shorten 0 = .ok (.aload_n 0, 1) := by decide +kernel
theorem dX5_shorten_1 : decode cX5_shorten 1 = .ok (.aload_n 1, 1) := by decide +kernel
theorem dX5_shorten_2 : decode cX5_shorten 2 = .ok (.aload_n 1, 1) := by decide +kernel
theorem dX5_shorten_3 : decode cX5_shorten 3 = .ok (.invokevirtual 79, 3) := by decide +kernel
theorem dX5_shorten_6 : decode cX5_shorten 6 = .ok (.invokevirtual 128, 3) := by decide +kernel
theorem dX5_shorten_9 : decode cX5_shorten 9 = .ok (.aload_n 0, 1) := by decide +kernel
theorem dX5_shorten_10 : decode cX5_shorten 10 = .ok (.getfield 57, 3) := by decide +kernel
theorem dX5_shorten_13 : decode cX5_shorten 13 = .ok (.aload_n 0, 1) := by decide +kernel
theorem dX5_shorten_14 : decode cX5_shorten 14 = .ok (.getfield 24, 3) := by decide +kernel
theorem dX5_shorten_17 : decode cX5_shorten 17 = .ok (.aload_n 2, 1) := by decide +kernel
theorem dX5_shorten_18 : decode cX5_shorten 18 = .ok (.invokevirtual 198, 3) := by decide +kernel
theorem dX5_shorten_21 : decode cX5_shorten 21 = .ok (.return_, 1) := by decide +kernel
theorem dX5_meetings_0 : decode cX5_meetings 0 = .ok (.iconst 0, 1) := by decide +kernel
theorem dX5_meetings_1 : decode cX5_meetings 1 = .ok (.istore 4, 2) := by decide +kernel
theorem dX5_meetings_3 : decode cX5_meetings 3 = .ok (.iconst 0, 1) := by decide +kernel
theorem dX5_meetings_4 : decode cX5_meetings 4 = .ok (.istore 5, 2) := by decide +kernel
theorem dX5_meetings_6 : decode cX5_meetings 6 = .ok (.bipush (-6), 2) := by decide +kernel
theorem dX5_meetings_8 : decode cX5_meetings 8 = .ok (.istore 6, 2) := by decide +kernel
theorem dX5_meetings_10 : decode cX5_meetings 10 = .ok (.aload_n 0, 1) := by decide +kernel
theorem dX5_meetings_11 : decode cX5_meetings 11 = .ok (.getfield 64, 3) := by decide +kernel
theorem dX5_meetings_14 : decode cX5_meetings 14 = .ok (.invokevirtual 201, 3) := by decide +kernel
theorem dX5_meetings_17 : decode cX5_meetings 17 = .ok (.iconst 0, 1) := by decide +kernel
theorem dX5_meetings_18 : decode cX5_meetings 18 = .ok (.istore 7, 2) := by decide +kernel
theorem dX5_meetings_20 : decode cX5_meetings 20 = .ok (.iload 7, 2) := by decide +kernel
theorem dX5_meetings_22 : decode cX5_meetings 22 = .ok (.aload_n 0, 1) := by decide +kernel
theorem dX5_meetings_23 : decode cX5_meetings 23 = .ok (.getfield 24, 3) := by decide +kernel
theorem dX5_meetings_26 : decode cX5_meetings 26 = .ok (.invokevirtual 79, 3) := by decide +kernel
theorem dX5_meetings_29 : decode cX5_meetings 29 = .ok (.if_icmp .ge 131, 3) := by decide +kernel
theorem dX5_meetings_32 : decode cX5_meetings 32 = .ok (.aload_n 0, 1) := by decide +kernel
theorem dX5_meetings_33 : decode cX5_meetings 33 = .ok (.getfield 64, 3) := by decide +kernel
theorem dX5_meetings_36 : decode cX5_meetings 36 = .ok (.aload_n 0, 1) := by decide +kernel
theorem dX5_meetings_37 : decode cX5_meetings 37 = .ok (.getfield 24, 3) := by decide +kernel
theorem dX5_meetings_40 : decode cX5_meetings 40 = .ok (.iload 7, 2) := by decide +kernel
theorem dX5_meetings_42 : decode cX5_meetings 42 = .ok (.invokevirtual 105, 3) := by decide +kernel
theorem dX5_meetings_45 : decode cX5_meetings 45 = .ok (.invokevirtual 204, 3) := by decide +kernel
theorem dX5_meetings_48 : decode cX5_meetings 48 = .ok (.istore 8, 2) := by decide +kernel
theorem dX5_meetings_50 : decode cX5_meetings 50 = .ok (.aload_n 0, 1) := by decide +kernel
theorem dX5_meetings_51 : decode cX5_meetings 51 = .ok (.getfield 64, 3) := by decide +kernel
theorem dX5_meetings_54 : decode cX5_meetings 54 = .ok (.aload_n 0, 1) := by decide +kernel
theorem dX5_meetings_55 : decode cX5_meetings 55 = .ok (.getfield 24, 3) := by decide +kernel
theorem dX5_meetings_58 : decode cX5_meetings 58 = .ok (.iload 7, 2) := by decide +kernel
theorem dX5_meetings_60 : decode cX5_meetings 60 = .ok (.invokevirtual 105, 3) := by decide +kernel
theorem dX5_meetings_63 : decode cX5_meetings 63 = .ok (.invokevirtual 207, 3) := by decide +kernel
theorem dX5_meetings_66 : decode cX5_meetings 66 = .ok (.istore 9, 2) := by decide +kernel
theorem dX5_meetings_68 : decode cX5_meetings 68 = .ok (.iload 4, 2) := by decide +kernel
theorem dX5_meetings_70 : decode cX5_meetings 70 = .ok (.iload 8, 2) := by decide +kernel
theorem dX5_meetings_72 : decode cX5_meetings 72 = .ok (.iload_n 1, 1) := by decide +kernel
theorem dX5_meetings_73 : decode cX5_meetings 73 = .ok (.if_icmp .ne 13, 3) := by decide +kernel
theorem dX5_meetings_76 : decode cX5_meetings 76 = .ok (.iload 9, 2) := by decide +kernel
theorem dX5_meetings_78 : decode cX5_meetings 78 = .ok (.iload_n 2, 1) := by decide +kernel
theorem dX5_meetings_79 : decode cX5_meetings 79 = .ok (.if_icmp .ne 7, 3) := by decide +kernel
theorem dX5_meetings_82 : decode cX5_meetings 82 = .ok (.iconst 1, 1) := by decide +kernel
theorem dX5_meetings_83 : decode cX5_meetings 83 = .ok (.goto 4, 3) := by decide +kernel
theorem dX5_meetings_86 : decode cX5_meetings 86 = .ok (.iconst 0, 1) := by decide +kernel
theorem dX5_meetings_87 : decode cX5_meetings 87 = .ok (.iadd, 1) := by decide +kernel
theorem dX5_meetings_88 : decode cX5_meetings 88 = .ok (.istore 4, 2) := by decide +kernel
theorem dX5_meetings_90 : decode cX5_meetings 90 = .ok (.iload 5, 2) := by decide +kernel
theorem dX5_meetings_92 : decode cX5_meetings 92 = .ok (.iload 8, 2) := by decide +kernel
theorem dX5_meetings_94 : decode cX5_meetings 94 = .ok (.iload_n 2, 1) := by decide +kernel
theorem dX5_meetings_95 : decode cX5_meetings 95 = .ok (.if_icmp .ne 13, 3) := by decide +kernel
theorem dX5_meetings_98 : decode cX5_meetings 98 = .ok (.iload 9, 2) := by decide +kernel
theorem dX5_meetings_100 : decode cX5_meetings 100 = .ok (.iload_n 1, 1) := by decide +kernel
theorem dX5_meetings_101 : decode cX5_meetings 101 = .ok (.if_icmp .ne 7, 3) := by decide +kernel
theorem dX5_meetings_104 : decode cX5_meetings 104 = .ok (.iconst 1, 1) := by decide +kernel
theorem dX5_meetings_105 : decode cX5_meetings 105 = .ok (.goto 4, 3) := by decide +kernel
theorem dX5_meetings_108 : decode cX5_meetings 108 = .ok (.iconst 0, 1) := by decide +kernel
theorem dX5_meetings_109 : decode cX5_meetings 109 = .ok (.iadd, 1) := by decide +kernel
theorem dX5_meetings_110 : decode cX5_meetings 110 = .ok (.istore 5, 2) := by decide +kernel
theorem dX5_meetings_112 : decode cX5_meetings 112 = .ok (.iload 6, 2) := by decide +kernel
theorem dX5_meetings_114 : decode cX5_meetings 114 = .ok (.bipush (-6), 2) := by decide +kernel
theorem dX5_meetings_116 : decode cX5_meetings 116 = .ok (.if_icmp .ne 22, 3) := by decide +kernel
theorem dX5_meetings_119 : decode cX5_meetings 119 = .ok (.iload 4, 2) := by decide +kernel
theorem dX5_meetings_121 : decode cX5_meetings 121 = .ok (.iload 5, 2) := by decide +kernel
theorem dX5_meetings_123 : decode cX5_meetings 123 = .ok (.iadd, 1) := by decide +kernel
theorem dX5_meetings_124 : decode cX5_meetings 124 = .ok (.ifCond .le 14, 3) := by decide +kernel
theorem dX5_meetings_127 : decode cX5_meetings 127 = .ok (.aload_n 0, 1) := by decide +kernel
theorem dX5_meetings_128 : decode cX5_meetings 128 = .ok (.getfield 27, 3) := by decide +kernel
theorem dX5_meetings_131 : decode cX5_meetings 131 = .ok (.iload 7, 2) := by decide +kernel
theorem dX5_meetings_133 : decode cX5_meetings 133 = .ok (.invokevirtual 105, 3) := by decide +kernel
theorem dX5_meetings_136 : decode cX5_meetings 136 = .ok (.istore 6, 2) := by decide +kernel
theorem dX5_meetings_138 : decode cX5_meetings 138 = .ok (.aload_n 0, 1) := by decide +kernel
theorem dX5_meetings_139 : decode cX5_meetings 139 = .ok (.getfield 64, 3) := by decide +kernel
theorem dX5_meetings_142 : decode cX5_meetings 142 = .ok (.aload_n 0, 1) := by decide +kernel
theorem dX5_meetings_143 : decode cX5_meetings 143 = .ok (.getfield 24, 3) := by decide +kernel
theorem dX5_meetings_146 : decode cX5_meetings 146 = .ok (.iload 7, 2) := by decide +kernel
theorem dX5_meetings_148 : decode cX5_meetings 148 = .ok (.invokevirtual 105, 3) := by decide +kernel
theorem dX5_meetings_151 : decode cX5_meetings 151 = .ok (.invokevirtual 210, 3) := by decide +kernel
theorem dX5_meetings_154 : decode cX5_meetings 154 = .ok (.iinc 7 1, 3) := by decide +kernel
theorem dX5_meetings_157 : decode cX5_meetings 157 = .ok (.goto (-137), 3) := by decide +kernel
theorem dX5_meetings_160 : decode cX5_meetings 160 = .ok (.iload_n 3, 1) := by decide +kernel
theorem dX5_meetings_161 : decode cX5_meetings 161 = .ok (.ifCond .ne 9, 3) := by decide +kernel
theorem dX5_meetings_164 : decode cX5_meetings 164 = .ok (.iload 4, 2) := by decide +kernel
theorem dX5_meetings_166 : decode cX5_meetings 166 = .ok (.iload 5, 2) := by decide +kernel
theorem dX5_meetings_168 : decode cX5_meetings 168 = .ok (.iadd, 1) := by decide +kernel
theorem dX5_meetings_169 : decode cX5_meetings 169 = .ok (.ireturn, 1) := by decide +kernel
theorem dX5_meetings_170 : decode cX5_meetings 170 = .ok (.iload_n 3, 1) := by decide +kernel
theorem dX5_meetings_171 : decode cX5_meetings 171 = .ok (.iconst 1, 1) := by decide +kernel
theorem dX5_meetings_172 : decode cX5_meetings 172 = .ok (.if_icmp .ne 8, 3) := by decide +kernel
theorem dX5_meetings_175 : decode cX5_meetings 175 = .ok (.iload 4, 2) := by decide +kernel
theorem dX5_meetings_177 : decode cX5_meetings 177 = .ok (.goto 5, 3) := by decide +kernel
theorem dX5_meetings_180 : decode cX5_meetings 180 = .ok (.iload 6, 2) := by decide +kernel
theorem dX5_meetings_182 : decode cX5_meetings 182 = .ok (.ireturn, 1) := by decide +kernel
theorem dX5_neverChanged_0 : decode cX5_neverChanged 0 = .ok (.sipush 255, 3) := by decide +kernel
theorem dX5_neverChanged_3 : decode cX5_neverChanged 3 = .ok (.istore_n 1, 1) := by decide +kernel
theorem dX5_neverChanged_4 : decode cX5_neverChanged 4 = .ok (.iconst 0, 1) := by decide +kernel
theorem dX5_neverChanged_5 : decode cX5_neverChanged 5 = .ok (.istore_n 2, 1) := by decide +kernel
theorem dX5_neverChanged_6 : decode cX5_neverChanged 6 = .ok (.iload_n 2, 1) := by decide +kernel
theorem dX5_neverChanged_7 : decode cX5_neverChanged 7 = .ok (.aload_n 0, 1) := by decide +kernel
theorem dX5_neverChanged_8 : decode cX5_neverChanged 8 = .ok (.getfield 24, 3) := by decide +kernel
theorem dX5_neverChanged_11 : decode cX5_neverChanged 11 = .ok (.invokevirtual 79, 3) := by decide +kernel
theorem dX5_neverChanged_14 : decode cX5_neverChanged 14 = .ok (.if_icmp .ge 27, 3) := by decide +kernel
theorem dX5_neverChanged_17 : decode cX5_neverChanged 17 = .ok (.iload_n 1, 1) := by decide +kernel
theorem dX5_neverChanged_18 : decode cX5_neverChanged 18 = .ok (.iconst 3, 1) := by decide +kernel
theorem dX5_neverChanged_19 : decode cX5_neverChanged 19 = .ok (.aload_n 0, 1) := by decide +kernel
theorem dX5_neverChanged_20 : decode cX5_neverChanged 20 = .ok (.getfield 24, 3) := by decide +kernel
theorem dX5_neverChanged_23 : decode cX5_neverChanged 23 = .ok (.iload_n 2, 1) := by decide +kernel
theorem dX5_neverChanged_24 : decode cX5_neverChanged 24 = .ok (.invokevirtual 105, 3) := by decide +kernel
theorem dX5_neverChanged_27 : decode cX5_neverChanged 27 = .ok (.invokestatic 213, 3) := by decide +kernel
theorem dX5_neverChanged_30 : decode cX5_neverChanged 30 = .ok (.ishl, 1) := by decide +kernel
theorem dX5_neverChanged_31 : decode cX5_neverChanged 31 = .ok (.iconst (-1), 1) := by decide +kernel
theorem dX5_neverChanged_32 : decode cX5_neverChanged 32 = .ok (.ixor, 1) := by decide +kernel
theorem dX5_neverChanged_33 : decode cX5_neverChanged 33 = .ok (.iand, 1) := by decide +kernel
theorem dX5_neverChanged_34 : decode cX5_neverChanged 34 = .ok (.istore_n 1, 1) := by decide +kernel
theorem dX5_neverChanged_35 : decode cX5_neverChanged 35 = .ok (.iinc 2 1, 3) := by decide +kernel
theorem dX5_neverChanged_38 : decode cX5_neverChanged 38 = .ok (.goto (-32), 3) := by decide +kernel
theorem dX5_neverChanged_41 : decode cX5_neverChanged 41 = .ok (.iload_n 1, 1) := by decide +kernel
theorem dX5_neverChanged_42 : decode cX5_neverChanged 42 = .ok (.ireturn, 1) := by decide +kernel
theorem dX5_pinsIn_0 : decode cX5_pinsIn 0 = .ok (.iconst 0, 1) := by decide +kernel
theorem dX5_pinsIn_1 : decode cX5_pinsIn 1 = .ok (.istore_n 1, 1) := by decide +kernel
theorem dX5_pinsIn_2 : decode cX5_pinsIn 2 = .ok (.iconst 0, 1) := by decide +kernel
theorem dX5_pinsIn_3 : decode cX5_pinsIn 3 = .ok (.istore_n 2, 1) := by decide +kernel
theorem dX5_pinsIn_4 : decode cX5_pinsIn 4 = .ok (.iload_n 2, 1) := by decide +kernel
theorem dX5_pinsIn_5 : decode cX5_pinsIn 5 = .ok (.aload_n 0, 1) := by decide +kernel
theorem dX5_pinsIn_6 : decode cX5_pinsIn 6 = .ok (.invokevirtual 79, 3) := by decide +kernel
theorem dX5_pinsIn_9 : decode cX5_pinsIn 9 = .ok (.if_icmp .ge 29, 3) := by decide +kernel
theorem dX5_pinsIn_12 : decode cX5_pinsIn 12 = .ok (.iload_n 1, 1) := by decide +kernel
theorem dX5_pinsIn_13 : decode cX5_pinsIn 13 = .ok (.aload_n 0, 1) := by decide +kernel
theorem dX5_pinsIn_14 : decode cX5_pinsIn 14 = .ok (.iload_n 2, 1) := by decide +kernel
theorem dX5_pinsIn_15 : decode cX5_pinsIn 15 = .ok (.invokevirtual 105, 3) := by decide +kernel
theorem dX5_pinsIn_18 : decode cX5_pinsIn 18 = .ok (.invokestatic 112, 3) := by decide +kernel
theorem dX5_pinsIn_21 : decode cX5_pinsIn 21 = .ok (.iconst 4, 1) := by decide +kernel
theorem dX5_pinsIn_22 : decode cX5_pinsIn 22 = .ok (.if_icmp .ne 7, 3) := by decide +kernel
theorem dX5_pinsIn_25 : decode cX5_pinsIn 25 = .ok (.iconst 1, 1) := by decide +kernel
theorem dX5_pinsIn_26 : decode cX5_pinsIn 26 = .ok (.goto 4, 3) := by decide +kernel
theorem dX5_pinsIn_29 : decode cX5_pinsIn 29 = .ok (.iconst 0, 1) := by decide +kernel
theorem dX5_pinsIn_30 : decode cX5_pinsIn 30 = .ok (.iadd, 1) := by decide +kernel
theorem dX5_pinsIn_31 : decode cX5_pinsIn 31 = .ok (.istore_n 1, 1) := by decide +kernel
theorem dX5_pinsIn_32 : decode cX5_pinsIn 32 = .ok (.iinc 2 1, 3) := by decide +kernel
theorem dX5_pinsIn_35 : decode cX5_pinsIn 35 = .ok (.goto (-31), 3) := by decide +kernel
theorem dX5_pinsIn_38 : decode cX5_pinsIn 38 = .ok (.iload_n 1, 1) := by decide +kernel
theorem dX5_pinsIn_39 : decode cX5_pinsIn 39 = .ok (.ireturn, 1) := by decide +kernel
theorem dX5_pinStep_0 : decode cX5_pinStep 0 = .ok (.iconst 0, 1) := by decide +kernel
theorem dX5_pinStep_1 : decode cX5_pinStep 1 = .ok (.istore_n 2, 1) := by decide +kernel
theorem dX5_pinStep_2 : decode cX5_pinStep 2 = .ok (.iconst 0, 1) := by decide +kernel
theorem dX5_pinStep_3 : decode cX5_pinStep 3 = .ok (.istore_n 3, 1) := by decide +kernel
theorem dX5_pinStep_4 : decode cX5_pinStep 4 = .ok (.iload_n 3, 1) := by decide +kernel
theorem dX5_pinStep_5 : decode cX5_pinStep 5 = .ok (.aload_n 0, 1) := by decide +kernel
theorem dX5_pinStep_6 : decode cX5_pinStep 6 = .ok (.invokevirtual 79, 3) := by decide +kernel
theorem dX5_pinStep_9 : decode cX5_pinStep 9 = .ok (.if_icmp .ge 31, 3) := by decide +kernel
theorem dX5_pinStep_12 : decode cX5_pinStep 12 = .ok (.aload_n 0, 1) := by decide +kernel
theorem dX5_pinStep_13 : decode cX5_pinStep 13 = .ok (.iload_n 3, 1) := by decide +kernel
theorem dX5_pinStep_14 : decode cX5_pinStep 14 = .ok (.invokevirtual 105, 3) := by decide +kernel
theorem dX5_pinStep_17 : decode cX5_pinStep 17 = .ok (.invokestatic 112, 3) := by decide +kernel
theorem dX5_pinStep_20 : decode cX5_pinStep 20 = .ok (.iconst 4, 1) := by decide +kernel
theorem dX5_pinStep_21 : decode cX5_pinStep 21 = .ok (.if_icmp .ne 13, 3) := by decide +kernel
theorem dX5_pinStep_24 : decode cX5_pinStep 24 = .ok (.iload_n 2, 1) := by decide +kernel
theorem dX5_pinStep_25 : decode cX5_pinStep 25 = .ok (.iload_n 1, 1) := by decide +kernel
theorem dX5_pinStep_26 : decode cX5_pinStep 26 = .ok (.if_icmp .ne 5, 3) := by decide +kernel
theorem dX5_pinStep_29 : decode cX5_pinStep 29 = .ok (.iload_n 3, 1) := by decide +kernel
theorem dX5_pinStep_30 : decode cX5_pinStep 30 = .ok (.ireturn, 1) := by decide +kernel
theorem dX5_pinStep_31 : decode cX5_pinStep 31 = .ok (.iinc 2 1, 3) := by decide +kernel
theorem dX5_pinStep_34 : decode cX5_pinStep 34 = .ok (.iinc 3 1, 3) := by decide +kernel
theorem dX5_pinStep_37 : decode cX5_pinStep 37 = .ok (.goto (-33), 3) := by decide +kernel
theorem dX5_pinStep_40 : decode cX5_pinStep 40 = .ok (.bipush (-6), 2) := by decide +kernel
theorem dX5_pinStep_42 : decode cX5_pinStep 42 = .ok (.ireturn, 1) := by decide +kernel
theorem dX6_init_0 : decode cX6_init 0 = .ok (.aload_n 0, 1) := by decide +kernel
theorem dX6_init_1 : decode cX6_init 1 = .ok (.invokespecial 1, 3) := by decide +kernel
theorem dX6_init_4 : decode cX6_init 4 = .ok (.aload_n 0, 1) := by decide +kernel
theorem dX6_init_5 : decode cX6_init 5 = .ok (.sipush 244, 3) := by decide +kernel
theorem dX6_init_8 : decode cX6_init 8 = .ok (.newarray .int, 2) := by decide +kernel
theorem dX6_init_10 : decode cX6_init 10 = .ok (.putfield 7, 3) := by decide +kernel
theorem dX6_init_13 : decode cX6_init 13 = .ok (.aload_n 0, 1) := by decide +kernel
theorem dX6_init_14 : decode cX6_init 14 = .ok (.sipush 488, 3) := by decide +kernel
theorem dX6_init_17 : decode cX6_init 17 = .ok (.newarray .int, 2) := by decide +kernel
theorem dX6_init_19 : decode cX6_init 19 = .ok (.putfield 13, 3) := by decide +kernel
theorem dX6_init_22 : decode cX6_init 22 = .ok (.aload_n 0, 1) := by decide +kernel
theorem dX6_init_23 : decode cX6_init 23 = .ok (.iconst 2, 1) := by decide +kernel
theorem dX6_init_24 : decode cX6_init 24 = .ok (.newarray .boolean, 2) := by decide +kernel
theorem dX6_init_26 : decode cX6_init 26 = .ok (.putfield 16, 3) := by decide +kernel
theorem dX6_init_29 : decode cX6_init 29 = .ok (.aload_n 0, 1) := by decide +kernel
theorem dX6_init_30 : decode cX6_init 30 = .ok (.bipush 40, 2) := by decide +kernel
theorem dX6_init_32 : decode cX6_init 32 = .ok (.newarray .int, 2) := by decide +kernel
theorem dX6_init_34 : decode cX6_init 34 = .ok (.putfield 20, 3) := by decide +kernel
theorem dX6_init_37 : decode cX6_init 37 = .ok (.aload_n 0, 1) := by decide +kernel
theorem dX6_init_38 : decode cX6_init 38 = .ok (.bipush (-6), 2) := by decide +kernel
theorem dX6_init_40 : decode cX6_init 40 = .ok (.putfield 23, 3) := by decide +kernel
theorem dX6_init_43 : decode cX6_init 43 = .ok (.aload_n 0, 1) := by decide +kernel
theorem dX6_init_44 : decode cX6_init 44 = .ok (.iconst 3, 1) := by decide +kernel
theorem dX6_init_45 : decode cX6_init 45 = .ok (.newarray .int, 2) := by decide +kernel
theorem dX6_init_47 : decode cX6_init 47 = .ok (.putfield 27, 3) := by decide +kernel
theorem dX6_init_50 : decode cX6_init 50 = .ok (.aload_n 0, 1) := by decide +kernel
theorem dX6_init_51 : decode cX6_init 51 = .ok (.iconst 3, 1) := by decide +kernel
theorem dX6_init_52 : decode cX6_init 52 = .ok (.newarray .int, 2) := by decide +kernel
theorem dX6_init_54 : decode cX6_init 54 = .ok (.putfield 30, 3) := by decide +kernel
theorem dX6_init_57 : decode cX6_init 57 = .ok (.aload_n 0, 1) := by decide +kernel
theorem dX6_init_58 : decode cX6_init 58 = .ok (.bipush 60, 2) := by decide +kernel
theorem dX6_init_60 : decode cX6_init 60 = .ok (.newarray .int, 2) := by decide +kernel
theorem dX6_init_62 : decode cX6_init 62 = .ok (.putfield 33, 3) := by decide +kernel
theorem dX6_init_65 : decode cX6_init 65 = .ok (.aload_n 0, 1) := by decide +kernel
theorem dX6_init_66 : decode cX6_init 66 = .ok (.bipush 120, 2) := by decide +kernel
theorem dX6_init_68 : decode cX6_init 68 = .ok (.newarray .int, 2) := by decide +kernel
theorem dX6_init_70 : decode cX6_init 70 = .ok (.putfield 36, 3) := by decide +kernel
theorem dX6_init_73 : decode cX6_init 73 = .ok (.aload_n 0, 1) := by decide +kernel
theorem dX6_init_74 : decode cX6_init 74 = .ok (.bipush 120, 2) := by decide +kernel
theorem dX6_init_76 : decode cX6_init 76 = .ok (.newarray .int, 2) := by decide +kernel
theorem dX6_init_78 : decode cX6_init 78 = .ok (.putfield 39, 3) := by decide +kernel
theorem dX6_init_81 : decode cX6_init 81 = .ok (.aload_n 0, 1) := by decide +kernel
theorem dX6_init_82 : decode cX6_init 82 = .ok (.bipush 120, 2) := by decide +kernel
theorem dX6_init_84 : decode cX6_init 84 = .ok (.newarray .int, 2) := by decide +kernel
theorem dX6_init_86 : decode cX6_init 86 = .ok (.putfield 42, 3) := by decide +kernel
theorem dX6_init_89 : decode cX6_init 89 = .ok (.aload_n 0, 1) := by decide +kernel
theorem dX6_init_90 : decode cX6_init 90 = .ok (.bipush 8, 2) := by decide +kernel
theorem dX6_init_92 : decode cX6_init 92 = .ok (.newarray .int, 2) := by decide +kernel
theorem dX6_init_94 : decode cX6_init 94 = .ok (.putfield 45, 3) := by decide +kernel
theorem dX6_init_97 : decode cX6_init 97 = .ok (.aload_n 0, 1) := by decide +kernel
theorem dX6_init_98 : decode cX6_init 98 = .ok (.bipush 120, 2) := by decide +kernel
theorem dX6_init_100 : decode cX6_init 100 = .ok (.newarray .int, 2) := by decide +kernel
theorem dX6_init_102 : decode cX6_init 102 = .ok (.putfield 48, 3) := by decide +kernel
theorem dX6_init_105 : decode cX6_init 105 = .ok (.aload_n 0, 1) := by decide +kernel
theorem dX6_init_106 : decode cX6_init 106 = .ok (.bipush 120, 2) := by decide +kernel
theorem dX6_init_108 : decode cX6_init 108 = .ok (.newarray .int, 2) := by decide +kernel
theorem dX6_init_110 : decode cX6_init 110 = .ok (.putfield 51, 3) := by decide +kernel
theorem dX6_init_113 : decode cX6_init 113 = .ok (.aload_n 0, 1) := by decide +kernel
theorem dX6_init_114 : decode cX6_init 114 = .ok (.bipush 120, 2) := by decide +kernel
theorem dX6_init_116 : decode cX6_init 116 = .ok (.newarray .int, 2) := by decide +kernel
theorem dX6_init_118 : decode cX6_init 118 = .ok (.putfield 54, 3) := by decide +kernel
theorem dX6_init_121 : decode cX6_init 121 = .ok (.return_, 1) := by decide +kernel
theorem dX6_in_0 : decode cX6_in 0 = .ok (.iload_n 0, 1) := by decide +kernel
theorem dX6_in_1 : decode cX6_in 1 = .ok (.iload_n 1, 1) := by decide +kernel
theorem dX6_in_2 : decode cX6_in 2 = .ok (.if_icmp .lt 12, 3) := by decide +kernel
theorem dX6_in_5 : decode cX6_in 5 = .ok (.iload_n 0, 1) := by decide +kernel
theorem dX6_in_6 : decode cX6_in 6 = .ok (.iload_n 2, 1) := by decide +kernel
theorem dX6_in_7 : decode cX6_in 7 = .ok (.if_icmp .gt 7, 3) := by decide +kernel
theorem dX6_in_10 : decode cX6_in 10 = .ok (.iconst 1, 1) := by decide +kernel
theorem dX6_in_11 : decode cX6_in 11 = .ok (.goto 4, 3) := by decide +kernel
theorem dX6_in_14 : decode cX6_in 14 = .ok (.iconst 0, 1) := by decide +kernel
theorem dX6_in_15 : decode cX6_in 15 = .ok (.ireturn, 1) := by decide +kernel
theorem dX6_isWork_0 : decode cX6_isWork 0 = .ok (.iload_n 0, 1) := by decide +kernel
theorem dX6_isWork_1 : decode cX6_isWork 1 = .ok (.iconst 0, 1) := by decide +kernel
theorem dX6_isWork_2 : decode cX6_isWork 2 = .ok (.iconst 3, 1) := by decide +kernel
theorem dX6_isWork_3 : decode cX6_isWork 3 = .ok (.invokestatic 57, 3) := by decide +kernel
theorem dX6_isWork_6 : decode cX6_isWork 6 = .ok (.ireturn, 1) := by decide +kernel
theorem dX6_many_0 : decode cX6_many 0 = .ok (.aload_n 0, 1) := by decide +kernel
theorem dX6_many_1 : decode cX6_many 1 = .ok (.getfield 7, 3) := by decide +kernel
theorem dX6_many_4 : decode cX6_many 4 = .ok (.sipush 240, 3) := by decide +kernel
theorem dX6_many_7 : decode cX6_many 7 = .ok (.iload_n 1, 1) := by decide +kernel
theorem dX6_many_8 : decode cX6_many 8 = .ok (.iadd, 1) := by decide +kernel
theorem dX6_many_9 : decode cX6_many 9 = .ok (.iaload, 1) := by decide +kernel
theorem dX6_many_10 : decode cX6_many 10 = .ok (.ireturn, 1) := by decide +kernel
theorem dX6_kindOf_0 : decode cX6_kindOf 0 = .ok (.aload_n 0, 1) := by decide +kernel
theorem dX6_kindOf_1 : decode cX6_kindOf 1 = .ok (.getfield 7, 3) := by decide +kernel
theorem dX6_kindOf_4 : decode cX6_kindOf 4 = .ok (.bipush 60, 2) := by decide +kernel
theorem dX6_kindOf_6 : decode cX6_kindOf 6 = .ok (.iload_n 1, 1) := by decide +kernel
theorem dX6_kindOf_7 : decode cX6_kindOf 7 = .ok (.imul, 1) := by decide +kernel
theorem dX6_kindOf_8 : decode cX6_kindOf 8 = .ok (.iload_n 2, 1) := by decide +kernel
theorem dX6_kindOf_9 : decode cX6_kindOf 9 = .ok (.iadd, 1) := by decide +kernel
theorem dX6_kindOf_10 : decode cX6_kindOf 10 = .ok (.iaload, 1) := by decide +kernel
theorem dX6_kindOf_11 : decode cX6_kindOf 11 = .ok (.iconst 3, 1) := by decide +kernel
theorem dX6_kindOf_12 : decode cX6_kindOf 12 = .ok (.idiv, 1) := by decide +kernel
theorem dX6_kindOf_13 : decode cX6_kindOf 13 = .ok (.ireturn, 1) := by decide +kernel
theorem dX6_spotOf_0 : decode cX6_spotOf 0 = .ok (.aload_n 0, 1) := by decide +kernel
theorem dX6_spotOf_1 : decode cX6_spotOf 1 = .ok (.getfield 7, 3) := by decide +kernel
theorem dX6_spotOf_4 : decode cX6_spotOf 4 = .ok (.bipush 60, 2) := by decide +kernel
theorem dX6_spotOf_6 : decode cX6_spotOf 6 = .ok (.iload_n 1, 1) := by decide +kernel
theorem dX6_spotOf_7 : decode cX6_spotOf 7 = .ok (.imul, 1) := by decide +kernel
theorem dX6_spotOf_8 : decode cX6_spotOf 8 = .ok (.iload_n 2, 1) := by decide +kernel
theorem dX6_spotOf_9 : decode cX6_spotOf 9 = .ok (.iadd, 1) := by decide +kernel
theorem dX6_spotOf_10 : decode cX6_spotOf 10 = .ok (.iaload, 1) := by decide +kernel
theorem dX6_spotOf_11 : decode cX6_spotOf 11 = .ok (.iconst 3, 1) := by decide +kernel
theorem dX6_spotOf_12 : decode cX6_spotOf 12 = .ok (.irem, 1) := by decide +kernel
theorem dX6_spotOf_13 : decode cX6_spotOf 13 = .ok (.ireturn, 1) := by decide +kernel
theorem dX6_say_0 : decode cX6_say 0 = .ok (.iload_n 1, 1) := by decide +kernel
theorem dX6_say_1 : decode cX6_say 1 = .ok (.bipush 33, 2) := by decide +kernel
theorem dX6_say_3 : decode cX6_say 3 = .ok (.bipush 126, 2) := by decide +kernel
theorem dX6_say_5 : decode cX6_say 5 = .ok (.invokestatic 57, 3) := by decide +kernel
theorem dX6_say_8 : decode cX6_say 8 = .ok (.ifCond .ne 6, 3) := by decide +kernel
theorem dX6_say_11 : decode cX6_say 11 = .ok (.bipush (-2), 2) := by decide +kernel
theorem dX6_say_13 : decode cX6_say 13 = .ok (.ireturn, 1) := by decide +kernel
theorem dX6_say_14 : decode cX6_say 14 = .ok (.aload_n 0, 1) := by decide +kernel
theorem dX6_say_15 : decode cX6_say 15 = .ok (.getfield 61, 3) := by decide +kernel
theorem dX6_say_18 : decode cX6_say 18 = .ok (.bipush 40, 2) := by decide +kernel
theorem dX6_say_20 : decode cX6_say 20 = .ok (.if_icmp .ne 6, 3) := by decide +kernel
theorem dX6_say_23 : decode cX6_say 23 = .ok (.bipush (-4), 2) := by decide +kernel
theorem dX6_say_25 : decode cX6_say 25 = .ok (.ireturn, 1) := by decide +kernel
theorem dX6_say_26 : decode cX6_say 26 = .ok (.aload_n 0, 1) := by decide +kernel
theorem dX6_say_27 : decode cX6_say 27 = .ok (.getfield 20, 3) := by decide +kernel
theorem dX6_say_30 : decode cX6_say 30 = .ok (.aload_n 0, 1) := by decide +kernel
theorem dX6_say_31 : decode cX6_say 31 = .ok (.getfield 61, 3) := by decide +kernel
theorem dX6_say_34 : decode cX6_say 34 = .ok (.iload_n 1, 1) := by decide +kernel
theorem dX6_say_35 : decode cX6_say 35 = .ok (.iastore, 1) := by decide +kernel
theorem dX6_say_36 : decode cX6_say 36 = .ok (.aload_n 0, 1) := by decide +kernel
theorem dX6_say_37 : decode cX6_say 37 = .ok (.dup, 1) := by decide +kernel
theorem dX6_say_38 : decode cX6_say 38 = .ok (.getfield 61, 3) := by decide +kernel
theorem dX6_say_41 : decode cX6_say 41 = .ok (.iconst 1, 1) := by decide +kernel
theorem dX6_say_42 : decode cX6_say 42 = .ok (.iadd, 1) := by decide +kernel
theorem dX6_say_43 : decode cX6_say 43 = .ok (.putfield 61, 3) := by decide +kernel
theorem dX6_say_46 : decode cX6_say 46 = .ok (.aload_n 0, 1) := by decide +kernel
theorem dX6_say_47 : decode cX6_say 47 = .ok (.getfield 61, 3) := by decide +kernel
theorem dX6_say_50 : decode cX6_say 50 = .ok (.ireturn, 1) := by decide +kernel
theorem dX6_wipe_0 : decode cX6_wipe 0 = .ok (.aload_n 0, 1) := by decide +kernel
theorem dX6_wipe_1 : decode cX6_wipe 1 = .ok (.getfield 61, 3) := by decide +kernel
theorem dX6_wipe_4 : decode cX6_wipe 4 = .ok (.istore_n 1, 1) := by decide +kernel
theorem dX6_wipe_5 : decode cX6_wipe 5 = .ok (.aload_n 0, 1) := by decide +kernel
theorem dX6_wipe_6 : decode cX6_wipe 6 = .ok (.iconst 0, 1) := by decide +kernel
theorem dX6_wipe_7 : decode cX6_wipe 7 = .ok (.putfield 61, 3) := by decide +kernel
theorem dX6_wipe_10 : decode cX6_wipe 10 = .ok (.iload_n 1, 1) := by decide +kernel
theorem dX6_wipe_11 : decode cX6_wipe 11 = .ok (.ireturn, 1) := by decide +kernel
theorem dX6_kindBy_0 : decode cX6_kindBy 0 = .ok (.iload_n 0, 1) := by decide +kernel
theorem dX6_kindBy_1 : decode cX6_kindBy 1 = .ok (.bipush 67, 2) := by decide +kernel
theorem dX6_kindBy_3 : decode cX6_kindBy 3 = .ok (.if_icmp .ne 7, 3) := by decide +kernel
theorem dX6_kindBy_6 : decode cX6_kindBy 6 = .ok (.iconst 0, 1) := by decide +kernel
theorem dX6_kindBy_7 : decode cX6_kindBy 7 = .ok (.goto 45, 3) := by decide +kernel
theorem dX6_kindBy_10 : decode cX6_kindBy 10 = .ok (.iload_n 0, 1) := by decide +kernel
theorem dX6_kindBy_11 : decode cX6_kindBy 11 = .ok (.bipush 68, 2) := by decide +kernel
theorem dX6_kindBy_13 : decode cX6_kindBy 13 = .ok (.if_icmp .ne 7, 3) := by decide +kernel
theorem dX6_kindBy_16 : decode cX6_kindBy 16 = .ok (.iconst 1, 1) := by decide +kernel
theorem dX6_kindBy_17 : decode cX6_kindBy 17 = .ok (.goto 35, 3) := by decide +kernel
theorem dX6_kindBy_20 : decode cX6_kindBy 20 = .ok (.iload_n 0, 1) := by decide +kernel
theorem dX6_kindBy_21 : decode cX6_kindBy 21 = .ok (.bipush 84, 2) := by decide +kernel
theorem dX6_kindBy_23 : decode cX6_kindBy 23 = .ok (.if_icmp .ne 7, 3) := by decide +kernel
theorem dX6_kindBy_26 : decode cX6_kindBy 26 = .ok (.iconst 2, 1) := by decide +kernel
theorem dX6_kindBy_27 : decode cX6_kindBy 27 = .ok (.goto 25, 3) := by decide +kernel
theorem dX6_kindBy_30 : decode cX6_kindBy 30 = .ok (.iload_n 0, 1) := by decide +kernel
theorem dX6_kindBy_31 : decode cX6_kindBy 31 = .ok (.bipush 85, 2) := by decide +kernel
theorem dX6_kindBy_33 : decode cX6_kindBy 33 = .ok (.if_icmp .ne 7, 3) := by decide +kernel
theorem dX6_kindBy_36 : decode cX6_kindBy 36 = .ok (.iconst 3, 1) := by decide +kernel
theorem dX6_kindBy_37 : decode cX6_kindBy 37 = .ok (.goto 15, 3) := by decide +kernel
theorem dX6_kindBy_40 : decode cX6_kindBy 40 = .ok (.iload_n 0, 1) := by decide +kernel
theorem dX6_kindBy_41 : decode cX6_kindBy 41 = .ok (.bipush 80, 2) := by decide +kernel
theorem dX6_kindBy_43 : decode cX6_kindBy 43 = .ok (.if_icmp .ne 7, 3) := by decide +kernel
theorem dX6_kindBy_46 : decode cX6_kindBy 46 = .ok (.iconst 4, 1) := by decide +kernel
theorem dX6_kindBy_47 : decode cX6_kindBy 47 = .ok (.goto 5, 3) := by decide +kernel
theorem dX6_kindBy_50 : decode cX6_kindBy 50 = .ok (.bipush (-6), 2) := by decide +kernel
theorem dX6_kindBy_52 : decode cX6_kindBy 52 = .ok (.ireturn, 1) := by decide +kernel
theorem dX6_fault_0 : decode cX6_fault 0 = .ok (.iconst 0, 1) := by decide +kernel
theorem dX6_fault_1 : decode cX6_fault 1 = .ok (.istore_n 1, 1) := by decide +kernel
theorem dX6_fault_2 : decode cX6_fault 2 = .ok (.iconst 0, 1) := by decide +kernel
theorem dX6_fault_3 : decode cX6_fault 3 = .ok (.istore_n 2, 1) := by decide +kernel
theorem dX6_fault_4 : decode cX6_fault 4 = .ok (.iconst 0, 1) := by decide +kernel
theorem dX6_fault_5 : decode cX6_fault 5 = .ok (.istore_n 3, 1) := by decide +kernel
theorem dX6_fault_6 : decode cX6_fault 6 = .ok (.iload_n 3, 1) := by decide +kernel
theorem dX6_fault_7 : decode cX6_fault 7 = .ok (.aload_n 0, 1) := by decide +kernel
theorem dX6_fault_8 : decode cX6_fault 8 = .ok (.getfield 61, 3) := by decide +kernel
theorem dX6_fault_11 : decode cX6_fault 11 = .ok (.if_icmp .ge 103, 3) := by decide +kernel
theorem dX6_fault_14 : decode cX6_fault 14 = .ok (.aload_n 0, 1) := by decide +kernel
theorem dX6_fault_15 : decode cX6_fault 15 = .ok (.getfield 20, 3) := by decide +kernel
theorem dX6_fault_18 : decode cX6_fault 18 = .ok (.iload_n 3, 1) := by decide +kernel
theorem dX6_fault_19 : decode cX6_fault 19 = .ok (.iaload, 1) := by decide +kernel
theorem dX6_fault_20 : decode cX6_fault 20 = .ok (.istore 4, 2) := by decide +kernel
theorem dX6_fault_22 : decode cX6_fault 22 = .ok (.iload_n 2, 1) := by decide +kernel
theorem dX6_fault_23 : decode cX6_fault 23 = .ok (.ifCond .eq 22, 3) := by decide +kernel
theorem dX6_fault_26 : decode cX6_fault 26 = .ok (.iload 4, 2) := by decide +kernel
theorem dX6_fault_28 : decode cX6_fault 28 = .ok (.bipush 49, 2) := by decide +kernel
theorem dX6_fault_30 : decode cX6_fault 30 = .ok (.bipush 57, 2) := by decide +kernel
theorem dX6_fault_32 : decode cX6_fault 32 = .ok (.invokestatic 57, 3) := by decide +kernel
theorem dX6_fault_35 : decode cX6_fault 35 = .ok (.ifCond .ne 5, 3) := by decide +kernel
theorem dX6_fault_38 : decode cX6_fault 38 = .ok (.iload_n 3, 1) := by decide +kernel
theorem dX6_fault_39 : decode cX6_fault 39 = .ok (.ireturn, 1) := by decide +kernel
theorem dX6_fault_40 : decode cX6_fault 40 = .ok (.iconst 0, 1) := by decide +kernel
theorem dX6_fault_41 : decode cX6_fault 41 = .ok (.istore_n 2, 1) := by decide +kernel
theorem dX6_fault_42 : decode cX6_fault 42 = .ok (.goto 66, 3) := by decide +kernel
theorem dX6_fault_45 : decode cX6_fault 45 = .ok (.iload 4, 2) := by decide +kernel
theorem dX6_fault_47 : decode cX6_fault 47 = .ok (.bipush 40, 2) := by decide +kernel
theorem dX6_fault_49 : decode cX6_fault 49 = .ok (.if_icmp .ne 16, 3) := by decide +kernel
theorem dX6_fault_52 : decode cX6_fault 52 = .ok (.iload_n 1, 1) := by decide +kernel
theorem dX6_fault_53 : decode cX6_fault 53 = .ok (.iconst 3, 1) := by decide +kernel
theorem dX6_fault_54 : decode cX6_fault 54 = .ok (.if_icmp .ne 5, 3) := by decide +kernel
theorem dX6_fault_57 : decode cX6_fault 57 = .ok (.iload_n 3, 1) := by decide +kernel
theorem dX6_fault_58 : decode cX6_fault 58 = .ok (.ireturn, 1) := by decide +kernel
theorem dX6_fault_59 : decode cX6_fault 59 = .ok (.iinc 1 1, 3) := by decide +kernel
theorem dX6_fault_62 : decode cX6_fault 62 = .ok (.goto 46, 3) := by decide +kernel
theorem dX6_fault_65 : decode cX6_fault 65 = .ok (.iload 4, 2) := by decide +kernel
theorem dX6_fault_67 : decode cX6_fault 67 = .ok (.bipush 41, 2) := by decide +kernel
theorem dX6_fault_69 : decode cX6_fault 69 = .ok (.if_icmp .ne 17, 3) := by decide +kernel
theorem dX6_fault_72 : decode cX6_fault 72 = .ok (.iload_n 1, 1) := by decide +kernel
theorem dX6_fault_73 : decode cX6_fault 73 = .ok (.ifCond .ne 5, 3) := by decide +kernel
theorem dX6_fault_76 : decode cX6_fault 76 = .ok (.iload_n 3, 1) := by decide +kernel
theorem dX6_fault_77 : decode cX6_fault 77 = .ok (.ireturn, 1) := by decide +kernel
theorem dX6_fault_78 : decode cX6_fault 78 = .ok (.iinc 1 (-1), 3) := by decide +kernel
theorem dX6_fault_81 : decode cX6_fault 81 = .ok (.iconst 1, 1) := by decide +kernel
theorem dX6_fault_82 : decode cX6_fault 82 = .ok (.istore_n 2, 1) := by decide +kernel
theorem dX6_fault_83 : decode cX6_fault 83 = .ok (.goto 25, 3) := by decide +kernel
theorem dX6_fault_86 : decode cX6_fault 86 = .ok (.iload 4, 2) := by decide +kernel
theorem dX6_fault_88 : decode cX6_fault 88 = .ok (.invokestatic 64, 3) := by decide +kernel
theorem dX6_fault_91 : decode cX6_fault 91 = .ok (.ifCond .ge 17, 3) := by decide +kernel
theorem dX6_fault_94 : decode cX6_fault 94 = .ok (.iload 4, 2) := by decide +kernel
theorem dX6_fault_96 : decode cX6_fault 96 = .ok (.bipush 48, 2) := by decide +kernel
theorem dX6_fault_98 : decode cX6_fault 98 = .ok (.bipush 50, 2) := by decide +kernel
theorem dX6_fault_100 : decode cX6_fault 100 = .ok (.invokestatic 57, 3) := by decide +kernel
theorem dX6_fault_103 : decode cX6_fault 103 = .ok (.ifCond .ne 5, 3) := by decide +kernel
theorem dX6_fault_106 : decode cX6_fault 106 = .ok (.iload_n 3, 1) := by decide +kernel
theorem dX6_fault_107 : decode cX6_fault 107 = .ok (.ireturn, 1) := by decide +kernel
theorem dX6_fault_108 : decode cX6_fault 108 = .ok (.iinc 3 1, 3) := by decide +kernel
theorem dX6_fault_111 : decode cX6_fault 111 = .ok (.goto (-105), 3) := by decide +kernel
theorem dX6_fault_114 : decode cX6_fault 114 = .ok (.iload_n 1, 1) := by decide +kernel
theorem dX6_fault_115 : decode cX6_fault 115 = .ok (.ifCond .gt 7, 3) := by decide +kernel
theorem dX6_fault_118 : decode cX6_fault 118 = .ok (.iload_n 2, 1) := by decide +kernel
theorem dX6_fault_119 : decode cX6_fault 119 = .ok (.ifCond .eq 10, 3) := by decide +kernel
theorem dX6_fault_122 : decode cX6_fault 122 = .ok (.aload_n 0, 1) := by decide +kernel
theorem dX6_fault_123 : decode cX6_fault 123 = .ok (.getfield 61, 3) := by decide +kernel
theorem dX6_fault_126 : decode cX6_fault 126 = .ok (.goto 5, 3) := by decide +kernel
theorem dX6_fault_129 : decode cX6_fault 129 = .ok (.bipush (-6), 2) := by decide +kernel
theorem dX6_fault_131 : decode cX6_fault 131 = .ok (.ireturn, 1) := by decide +kernel
theorem dX6_endOf_0 : decode cX6_endOf 0 = .ok (.iconst 0, 1) := by decide +kernel
theorem dX6_endOf_1 : decode cX6_endOf 1 = .ok (.istore_n 2, 1) := by decide +kernel
theorem dX6_endOf_2 : decode cX6_endOf 2 = .ok (.iload_n 1, 1) := by decide +kernel
theorem dX6_endOf_3 : decode cX6_endOf 3 = .ok (.istore_n 3, 1) := by decide +kernel
theorem dX6_endOf_4 : decode cX6_endOf 4 = .ok (.iconst 1, 1) := by decide +kernel
theorem dX6_endOf_5 : decode cX6_endOf 5 = .ok (.istore 4, 2) := by decide +kernel
theorem dX6_endOf_7 : decode cX6_endOf 7 = .ok (.iload 4, 2) := by decide +kernel
theorem dX6_endOf_9 : decode cX6_endOf 9 = .ok (.ifCond .eq 64, 3) := by decide +kernel
theorem dX6_endOf_12 : decode cX6_endOf 12 = .ok (.iload_n 2, 1) := by decide +kernel
theorem dX6_endOf_13 : decode cX6_endOf 13 = .ok (.aload_n 0, 1) := by decide +kernel
theorem dX6_endOf_14 : decode cX6_endOf 14 = .ok (.getfield 20, 3) := by decide +kernel
theorem dX6_endOf_17 : decode cX6_endOf 17 = .ok (.iload_n 3, 1) := by decide +kernel
theorem dX6_endOf_18 : decode cX6_endOf 18 = .ok (.iaload, 1) := by decide +kernel
theorem dX6_endOf_19 : decode cX6_endOf 19 = .ok (.bipush 40, 2) := by decide +kernel
theorem dX6_endOf_21 : decode cX6_endOf 21 = .ok (.if_icmp .ne 7, 3) := by decide +kernel
theorem dX6_endOf_24 : decode cX6_endOf 24 = .ok (.iconst 1, 1) := by decide +kernel
theorem dX6_endOf_25 : decode cX6_endOf 25 = .ok (.goto 19, 3) := by decide +kernel
theorem dX6_endOf_28 : decode cX6_endOf 28 = .ok (.aload_n 0, 1) := by decide +kernel
theorem dX6_endOf_29 : decode cX6_endOf 29 = .ok (.getfield 20, 3) := by decide +kernel
theorem dX6_endOf_32 : decode cX6_endOf 32 = .ok (.iload_n 3, 1) := by decide +kernel
theorem dX6_endOf_33 : decode cX6_endOf 33 = .ok (.iaload, 1) := by decide +kernel
theorem dX6_endOf_34 : decode cX6_endOf 34 = .ok (.bipush 41, 2) := by decide +kernel
theorem dX6_endOf_36 : decode cX6_endOf 36 = .ok (.if_icmp .ne 7, 3) := by decide +kernel
theorem dX6_endOf_39 : decode cX6_endOf 39 = .ok (.iconst (-1), 1) := by decide +kernel
theorem dX6_endOf_40 : decode cX6_endOf 40 = .ok (.goto 4, 3) := by decide +kernel
theorem dX6_endOf_43 : decode cX6_endOf 43 = .ok (.iconst 0, 1) := by decide +kernel
theorem dX6_endOf_44 : decode cX6_endOf 44 = .ok (.iadd, 1) := by decide +kernel
theorem dX6_endOf_45 : decode cX6_endOf 45 = .ok (.istore_n 2, 1) := by decide +kernel
theorem dX6_endOf_46 : decode cX6_endOf 46 = .ok (.iload_n 2, 1) := by decide +kernel
theorem dX6_endOf_47 : decode cX6_endOf 47 = .ok (.ifCond .le 7, 3) := by decide +kernel
theorem dX6_endOf_50 : decode cX6_endOf 50 = .ok (.iconst 1, 1) := by decide +kernel
theorem dX6_endOf_51 : decode cX6_endOf 51 = .ok (.goto 4, 3) := by decide +kernel
theorem dX6_endOf_54 : decode cX6_endOf 54 = .ok (.iconst 0, 1) := by decide +kernel
theorem dX6_endOf_55 : decode cX6_endOf 55 = .ok (.istore 4, 2) := by decide +kernel
theorem dX6_endOf_57 : decode cX6_endOf 57 = .ok (.iload_n 3, 1) := by decide +kernel
theorem dX6_endOf_58 : decode cX6_endOf 58 = .ok (.iload 4, 2) := by decide +kernel
theorem dX6_endOf_60 : decode cX6_endOf 60 = .ok (.ifCond .eq 7, 3) := by decide +kernel
theorem dX6_endOf_63 : decode cX6_endOf 63 = .ok (.iconst 1, 1) := by decide +kernel
theorem dX6_endOf_64 : decode cX6_endOf 64 = .ok (.goto 4, 3) := by decide +kernel
theorem dX6_endOf_67 : decode cX6_endOf 67 = .ok (.iconst 0, 1) := by decide +kernel
theorem dX6_endOf_68 : decode cX6_endOf 68 = .ok (.iadd, 1) := by decide +kernel
theorem dX6_endOf_69 : decode cX6_endOf 69 = .ok (.istore_n 3, 1) := by decide +kernel
theorem dX6_endOf_70 : decode cX6_endOf 70 = .ok (.goto (-63), 3) := by decide +kernel
theorem dX6_endOf_73 : decode cX6_endOf 73 = .ok (.iload_n 3, 1) := by decide +kernel
theorem dX6_endOf_74 : decode cX6_endOf 74 = .ok (.ireturn, 1) := by decide +kernel
theorem dX6_unfold_0 : decode cX6_unfold 0 = .ok (.iconst 0, 1) := by decide +kernel
theorem dX6_unfold_1 : decode cX6_unfold 1 = .ok (.istore_n 1, 1) := by decide +kernel
theorem dX6_unfold_2 : decode cX6_unfold 2 = .ok (.iconst 0, 1) := by decide +kernel
theorem dX6_unfold_3 : decode cX6_unfold 3 = .ok (.istore_n 2, 1) := by decide +kernel
theorem dX6_unfold_4 : decode cX6_unfold 4 = .ok (.iconst 0, 1) := by decide +kernel
theorem dX6_unfold_5 : decode cX6_unfold 5 = .ok (.istore_n 3, 1) := by decide +kernel
theorem dX6_unfold_6 : decode cX6_unfold 6 = .ok (.iconst 0, 1) := by decide +kernel
theorem dX6_unfold_7 : decode cX6_unfold 7 = .ok (.istore 4, 2) := by decide +kernel
theorem dX6_unfold_9 : decode cX6_unfold 9 = .ok (.iload 4, 2) := by decide +kernel
theorem dX6_unfold_11 : decode cX6_unfold 11 = .ok (.aload_n 0, 1) := by decide +kernel
theorem dX6_unfold_12 : decode cX6_unfold 12 = .ok (.getfield 61, 3) := by decide +kernel
theorem dX6_unfold_15 : decode cX6_unfold 15 = .ok (.if_icmp .ge 166, 3) := by decide +kernel
theorem dX6_unfold_18 : decode cX6_unfold 18 = .ok (.aload_n 0, 1) := by decide +kernel
theorem dX6_unfold_19 : decode cX6_unfold 19 = .ok (.getfield 20, 3) := by decide +kernel
theorem dX6_unfold_22 : decode cX6_unfold 22 = .ok (.iload 4, 2) := by decide +kernel
theorem dX6_unfold_24 : decode cX6_unfold 24 = .ok (.iaload, 1) := by decide +kernel
theorem dX6_unfold_25 : decode cX6_unfold 25 = .ok (.istore 5, 2) := by decide +kernel
theorem dX6_unfold_27 : decode cX6_unfold 27 = .ok (.iload 5, 2) := by decide +kernel
theorem dX6_unfold_29 : decode cX6_unfold 29 = .ok (.bipush 40, 2) := by decide +kernel
theorem dX6_unfold_31 : decode cX6_unfold 31 = .ok (.if_icmp .ne 44, 3) := by decide +kernel
theorem dX6_unfold_34 : decode cX6_unfold 34 = .ok (.aload_n 0, 1) := by decide +kernel
theorem dX6_unfold_35 : decode cX6_unfold 35 = .ok (.getfield 27, 3) := by decide +kernel
theorem dX6_unfold_38 : decode cX6_unfold 38 = .ok (.iload_n 3, 1) := by decide +kernel
theorem dX6_unfold_39 : decode cX6_unfold 39 = .ok (.iload 4, 2) := by decide +kernel
theorem dX6_unfold_41 : decode cX6_unfold 41 = .ok (.iconst 1, 1) := by decide +kernel
theorem dX6_unfold_42 : decode cX6_unfold 42 = .ok (.iadd, 1) := by decide +kernel
theorem dX6_unfold_43 : decode cX6_unfold 43 = .ok (.iastore, 1) := by decide +kernel
theorem dX6_unfold_44 : decode cX6_unfold 44 = .ok (.aload_n 0, 1) := by decide +kernel
theorem dX6_unfold_45 : decode cX6_unfold 45 = .ok (.getfield 30, 3) := by decide +kernel
theorem dX6_unfold_48 : decode cX6_unfold 48 = .ok (.iload_n 3, 1) := by decide +kernel
theorem dX6_unfold_49 : decode cX6_unfold 49 = .ok (.aload_n 0, 1) := by decide +kernel
theorem dX6_unfold_50 : decode cX6_unfold 50 = .ok (.getfield 20, 3) := by decide +kernel
theorem dX6_unfold_53 : decode cX6_unfold 53 = .ok (.aload_n 0, 1) := by decide +kernel
theorem dX6_unfold_54 : decode cX6_unfold 54 = .ok (.iload 4, 2) := by decide +kernel
theorem dX6_unfold_56 : decode cX6_unfold 56 = .ok (.invokevirtual 68, 3) := by decide +kernel
theorem dX6_unfold_59 : decode cX6_unfold 59 = .ok (.iconst 1, 1) := by decide +kernel
theorem dX6_unfold_60 : decode cX6_unfold 60 = .ok (.iadd, 1) := by decide +kernel
theorem dX6_unfold_61 : decode cX6_unfold 61 = .ok (.iaload, 1) := by decide +kernel
theorem dX6_unfold_62 : decode cX6_unfold 62 = .ok (.bipush 48, 2) := by decide +kernel
theorem dX6_unfold_64 : decode cX6_unfold 64 = .ok (.isub, 1) := by decide +kernel
theorem dX6_unfold_65 : decode cX6_unfold 65 = .ok (.iastore, 1) := by decide +kernel
theorem dX6_unfold_66 : decode cX6_unfold 66 = .ok (.iinc 3 1, 3) := by decide +kernel
theorem dX6_unfold_69 : decode cX6_unfold 69 = .ok (.iinc 4 1, 3) := by decide +kernel
theorem dX6_unfold_72 : decode cX6_unfold 72 = .ok (.goto 106, 3) := by decide +kernel
theorem dX6_unfold_75 : decode cX6_unfold 75 = .ok (.iload 5, 2) := by decide +kernel
theorem dX6_unfold_77 : decode cX6_unfold 77 = .ok (.bipush 41, 2) := by decide +kernel
theorem dX6_unfold_79 : decode cX6_unfold 79 = .ok (.if_icmp .ne 48, 3) := by decide +kernel
theorem dX6_unfold_82 : decode cX6_unfold 82 = .ok (.aload_n 0, 1) := by decide +kernel
theorem dX6_unfold_83 : decode cX6_unfold 83 = .ok (.getfield 30, 3) := by decide +kernel
theorem dX6_unfold_86 : decode cX6_unfold 86 = .ok (.iload_n 3, 1) := by decide +kernel
theorem dX6_unfold_87 : decode cX6_unfold 87 = .ok (.iconst 1, 1) := by decide +kernel
theorem dX6_unfold_88 : decode cX6_unfold 88 = .ok (.isub, 1) := by decide +kernel
theorem dX6_unfold_89 : decode cX6_unfold 89 = .ok (.dup2, 1) := by decide +kernel
theorem dX6_unfold_90 : decode cX6_unfold 90 = .ok (.iaload, 1) := by decide +kernel
theorem dX6_unfold_91 : decode cX6_unfold 91 = .ok (.iconst 1, 1) := by decide +kernel
theorem dX6_unfold_92 : decode cX6_unfold 92 = .ok (.isub, 1) := by decide +kernel
theorem dX6_unfold_93 : decode cX6_unfold 93 = .ok (.iastore, 1) := by decide +kernel
theorem dX6_unfold_94 : decode cX6_unfold 94 = .ok (.aload_n 0, 1) := by decide +kernel
theorem dX6_unfold_95 : decode cX6_unfold 95 = .ok (.getfield 30, 3) := by decide +kernel
theorem dX6_unfold_98 : decode cX6_unfold 98 = .ok (.iload_n 3, 1) := by decide +kernel
theorem dX6_unfold_99 : decode cX6_unfold 99 = .ok (.iconst 1, 1) := by decide +kernel
theorem dX6_unfold_100 : decode cX6_unfold 100 = .ok (.isub, 1) := by decide +kernel
theorem dX6_unfold_101 : decode cX6_unfold 101 = .ok (.iaload, 1) := by decide +kernel
theorem dX6_unfold_102 : decode cX6_unfold 102 = .ok (.ifCond .le 16, 3) := by decide +kernel
theorem dX6_unfold_105 : decode cX6_unfold 105 = .ok (.aload_n 0, 1) := by decide +kernel
theorem dX6_unfold_106 : decode cX6_unfold 106 = .ok (.getfield 27, 3) := by decide +kernel
theorem dX6_unfold_109 : decode cX6_unfold 109 = .ok (.iload_n 3, 1) := by decide +kernel
theorem dX6_unfold_110 : decode cX6_unfold 110 = .ok (.iconst 1, 1) := by decide +kernel
theorem dX6_unfold_111 : decode cX6_unfold 111 = .ok (.isub, 1) := by decide +kernel
theorem dX6_unfold_112 : decode cX6_unfold 112 = .ok (.iaload, 1) := by decide +kernel
theorem dX6_unfold_113 : decode cX6_unfold 113 = .ok (.istore 4, 2) := by decide +kernel
theorem dX6_unfold_115 : decode cX6_unfold 115 = .ok (.goto 63, 3) := by decide +kernel
theorem dX6_unfold_118 : decode cX6_unfold 118 = .ok (.iinc 3 (-1), 3) := by decide +kernel
theorem dX6_unfold_121 : decode cX6_unfold 121 = .ok (.iinc 4 2, 3) := by decide +kernel
theorem dX6_unfold_124 : decode cX6_unfold 124 = .ok (.goto 54, 3) := by decide +kernel
theorem dX6_unfold_127 : decode cX6_unfold 127 = .ok (.iload 5, 2) := by decide +kernel
theorem dX6_unfold_129 : decode cX6_unfold 129 = .ok (.bipush 48, 2) := by decide +kernel
theorem dX6_unfold_131 : decode cX6_unfold 131 = .ok (.bipush 50, 2) := by decide +kernel
theorem dX6_unfold_133 : decode cX6_unfold 133 = .ok (.invokestatic 57, 3) := by decide +kernel
theorem dX6_unfold_136 : decode cX6_unfold 136 = .ok (.ifCond .eq 12, 3) := by decide +kernel
theorem dX6_unfold_139 : decode cX6_unfold 139 = .ok (.iload 5, 2) := by decide +kernel
theorem dX6_unfold_141 : decode cX6_unfold 141 = .ok (.bipush 48, 2) := by decide +kernel
theorem dX6_unfold_143 : decode cX6_unfold 143 = .ok (.isub, 1) := by decide +kernel
theorem dX6_unfold_144 : decode cX6_unfold 144 = .ok (.istore_n 2, 1) := by decide +kernel
theorem dX6_unfold_145 : decode cX6_unfold 145 = .ok (.goto 30, 3) := by decide +kernel
theorem dX6_unfold_148 : decode cX6_unfold 148 = .ok (.iload_n 1, 1) := by decide +kernel
theorem dX6_unfold_149 : decode cX6_unfold 149 = .ok (.bipush 60, 2) := by decide +kernel
theorem dX6_unfold_151 : decode cX6_unfold 151 = .ok (.if_icmp .ne 6, 3) := by decide +kernel
theorem dX6_unfold_154 : decode cX6_unfold 154 = .ok (.bipush (-6), 2) := by decide +kernel
theorem dX6_unfold_156 : decode cX6_unfold 156 = .ok (.ireturn, 1) := by decide +kernel
theorem dX6_unfold_157 : decode cX6_unfold 157 = .ok (.aload_n 0, 1) := by decide +kernel
theorem dX6_unfold_158 : decode cX6_unfold 158 = .ok (.getfield 33, 3) := by decide +kernel
theorem dX6_unfold_161 : decode cX6_unfold 161 = .ok (.iload_n 1, 1) := by decide +kernel
theorem dX6_unfold_162 : decode cX6_unfold 162 = .ok (.iconst 3, 1) := by decide +kernel
theorem dX6_unfold_163 : decode cX6_unfold 163 = .ok (.iload 5, 2) := by decide +kernel
theorem dX6_unfold_165 : decode cX6_unfold 165 = .ok (.invokestatic 64, 3) := by decide +kernel
theorem dX6_unfold_168 : decode cX6_unfold 168 = .ok (.imul, 1) := by decide +kernel
theorem dX6_unfold_169 : decode cX6_unfold 169 = .ok (.iload_n 2, 1) := by decide +kernel
theorem dX6_unfold_170 : decode cX6_unfold 170 = .ok (.iadd, 1) := by decide +kernel
theorem dX6_unfold_171 : decode cX6_unfold 171 = .ok (.iastore, 1) := by decide +kernel
theorem dX6_unfold_172 : decode cX6_unfold 172 = .ok (.iinc 1 1, 3) := by decide +kernel
theorem dX6_unfold_175 : decode cX6_unfold 175 = .ok (.iinc 4 1, 3) := by decide +kernel
theorem dX6_unfold_178 : decode cX6_unfold 178 = .ok (.goto (-169), 3) := by decide +kernel
theorem dX6_unfold_181 : decode cX6_unfold 181 = .ok (.iload_n 1, 1) := by decide +kernel
theorem dX6_unfold_182 : decode cX6_unfold 182 = .ok (.ireturn, 1) := by decide +kernel
theorem dX6_take_0 : decode cX6_take 0 = .ok (.iconst 0, 1) := by decide +kernel
theorem dX6_take_1 : decode cX6_take 1 = .ok (.istore_n 3, 1) := by decide +kernel
theorem dX6_take_2 : decode cX6_take 2 = .ok (.iload_n 3, 1) := by decide +kernel
theorem dX6_take_3 : decode cX6_take 3 = .ok (.iload_n 2, 1) := by decide +kernel
theorem dX6_take_4 : decode cX6_take 4 = .ok (.if_icmp .ge 26, 3) := by decide +kernel
theorem dX6_take_7 : decode cX6_take 7 = .ok (.aload_n 0, 1) := by decide +kernel
theorem dX6_take_8 : decode cX6_take 8 = .ok (.getfield 7, 3) := by decide +kernel
theorem dX6_take_11 : decode cX6_take 11 = .ok (.bipush 60, 2) := by decide +kernel
theorem dX6_take_13 : decode cX6_take 13 = .ok (.iload_n 1, 1) := by decide +kernel
theorem dX6_take_14 : decode cX6_take 14 = .ok (.imul, 1) := by decide +kernel
theorem dX6_take_15 : decode cX6_take 15 = .ok (.iload_n 3, 1) := by decide +kernel
theorem dX6_take_16 : decode cX6_take 16 = .ok (.iadd, 1) := by decide +kernel
theorem dX6_take_17 : decode cX6_take 17 = .ok (.aload_n 0, 1) := by decide +kernel
theorem dX6_take_18 : decode cX6_take 18 = .ok (.getfield 33, 3) := by decide +kernel
theorem dX6_take_21 : decode cX6_take 21 = .ok (.iload_n 3, 1) := by decide +kernel
theorem dX6_take_22 : decode cX6_take 22 = .ok (.iaload, 1) := by decide +kernel
theorem dX6_take_23 : decode cX6_take 23 = .ok (.iastore, 1) := by decide +kernel
theorem dX6_take_24 : decode cX6_take 24 = .ok (.iinc 3 1, 3) := by decide +kernel
theorem dX6_take_27 : decode cX6_take 27 = .ok (.goto (-25), 3) := by decide +kernel
theorem dX6_take_30 : decode cX6_take 30 = .ok (.aload_n 0, 1) := by decide +kernel
theorem dX6_take_31 : decode cX6_take 31 = .ok (.getfield 7, 3) := by decide +kernel
theorem dX6_take_34 : decode cX6_take 34 = .ok (.sipush 240, 3) := by decide +kernel
theorem dX6_take_37 : decode cX6_take 37 = .ok (.iload_n 1, 1) := by decide +kernel
theorem dX6_take_38 : decode cX6_take 38 = .ok (.iadd, 1) := by decide +kernel
theorem dX6_take_39 : decode cX6_take 39 = .ok (.iload_n 2, 1) := by decide +kernel
theorem dX6_take_40 : decode cX6_take 40 = .ok (.iastore, 1) := by decide +kernel
theorem dX6_take_41 : decode cX6_take 41 = .ok (.iload_n 2, 1) := by decide +kernel
theorem dX6_take_42 : decode cX6_take 42 = .ok (.ireturn, 1) := by decide +kernel
theorem dX6_work_0 : decode cX6_work 0 = .ok (.iload_n 1, 1) := by decide +kernel
theorem dX6_work_1 : decode cX6_work 1 = .ok (.invokestatic 71, 3) := by decide +kernel
theorem dX6_work_4 : decode cX6_work 4 = .ok (.ifCond .ne 5, 3) := by decide +kernel
theorem dX6_work_7 : decode cX6_work 7 = .ok (.iconst (-1), 1) := by decide +kernel
theorem dX6_work_8 : decode cX6_work 8 = .ok (.ireturn, 1) := by decide +kernel
theorem dX6_work_9 : decode cX6_work 9 = .ok (.aload_n 0, 1) := by decide +kernel
theorem dX6_work_10 : decode cX6_work 10 = .ok (.invokevirtual 75, 3) := by decide +kernel
theorem dX6_work_13 : decode cX6_work 13 = .ok (.istore_n 2, 1) := by decide +kernel
theorem dX6_work_14 : decode cX6_work 14 = .ok (.iload_n 2, 1) := by decide +kernel
theorem dX6_work_15 : decode cX6_work 15 = .ok (.ifCond .lt 11, 3) := by decide +kernel
theorem dX6_work_18 : decode cX6_work 18 = .ok (.aload_n 0, 1) := by decide +kernel
theorem dX6_work_19 : decode cX6_work 19 = .ok (.iload_n 2, 1) := by decide +kernel
theorem dX6_work_20 : decode cX6_work 20 = .ok (.putfield 23, 3) := by decide +kernel
theorem dX6_work_23 : decode cX6_work 23 = .ok (.bipush (-7), 2) := by decide +kernel
theorem dX6_work_25 : decode cX6_work 25 = .ok (.ireturn, 1) := by decide +kernel
theorem dX6_work_26 : decode cX6_work 26 = .ok (.aload_n 0, 1) := by decide +kernel
theorem dX6_work_27 : decode cX6_work 27 = .ok (.invokevirtual 79, 3) := by decide +kernel
theorem dX6_work_30 : decode cX6_work 30 = .ok (.istore_n 3, 1) := by decide +kernel
theorem dX6_work_31 : decode cX6_work 31 = .ok (.iload_n 3, 1) := by decide +kernel
theorem dX6_work_32 : decode cX6_work 32 = .ok (.ifCond .ge 6, 3) := by decide +kernel
theorem dX6_work_35 : decode cX6_work 35 = .ok (.bipush (-4), 2) := by decide +kernel
theorem dX6_work_37 : decode cX6_work 37 = .ok (.ireturn, 1) := by decide +kernel
theorem dX6_work_38 : decode cX6_work 38 = .ok (.aload_n 0, 1) := by decide +kernel
theorem dX6_work_39 : decode cX6_work 39 = .ok (.iconst 0, 1) := by decide +kernel
theorem dX6_work_40 : decode cX6_work 40 = .ok (.putfield 61, 3) := by decide +kernel
theorem dX6_work_43 : decode cX6_work 43 = .ok (.aload_n 0, 1) := by decide +kernel
theorem dX6_work_44 : decode cX6_work 44 = .ok (.iload_n 1, 1) := by decide +kernel
theorem dX6_work_45 : decode cX6_work 45 = .ok (.iload_n 3, 1) := by decide +kernel
theorem dX6_work_46 : decode cX6_work 46 = .ok (.invokevirtual 82, 3) := by decide +kernel
theorem dX6_work_49 : decode cX6_work 49 = .ok (.ireturn, 1) := by decide +kernel
theorem dX6_join_0 : decode cX6_join 0 = .ok (.iload_n 1, 1) := by decide +kernel
theorem dX6_join_1 : decode cX6_join 1 = .ok (.invokestatic 71, 3) := by decide +kernel
theorem dX6_join_4 : decode cX6_join 4 = .ok (.ifCond .eq 17, 3) := by decide +kernel
theorem dX6_join_7 : decode cX6_join 7 = .ok (.iload_n 2, 1) := by decide +kernel
theorem dX6_join_8 : decode cX6_join 8 = .ok (.invokestatic 71, 3) := by decide +kernel
theorem dX6_join_11 : decode cX6_join 11 = .ok (.ifCond .eq 10, 3) := by decide +kernel
theorem dX6_join_14 : decode cX6_join 14 = .ok (.iload_n 3, 1) := by decide +kernel
theorem dX6_join_15 : decode cX6_join 15 = .ok (.invokestatic 71, 3) := by decide +kernel
theorem dX6_join_18 : decode cX6_join 18 = .ok (.ifCond .ne 5, 3) := by decide +kernel
theorem dX6_join_21 : decode cX6_join 21 = .ok (.iconst (-1), 1) := by decide +kernel
theorem dX6_join_22 : decode cX6_join 22 = .ok (.ireturn, 1) := by decide +kernel
theorem dX6_join_23 : decode cX6_join 23 = .ok (.aload_n 0, 1) := by decide +kernel
theorem dX6_join_24 : decode cX6_join 24 = .ok (.iload_n 2, 1) := by decide +kernel
theorem dX6_join_25 : decode cX6_join 25 = .ok (.invokevirtual 86, 3) := by decide +kernel
theorem dX6_join_28 : decode cX6_join 28 = .ok (.aload_n 0, 1) := by decide +kernel
theorem dX6_join_29 : decode cX6_join 29 = .ok (.iload_n 3, 1) := by decide +kernel
theorem dX6_join_30 : decode cX6_join 30 = .ok (.invokevirtual 86, 3) := by decide +kernel
theorem dX6_join_33 : decode cX6_join 33 = .ok (.iadd, 1) := by decide +kernel
theorem dX6_join_34 : decode cX6_join 34 = .ok (.bipush 60, 2) := by decide +kernel
theorem dX6_join_36 : decode cX6_join 36 = .ok (.if_icmp .le 6, 3) := by decide +kernel
theorem dX6_join_39 : decode cX6_join 39 = .ok (.bipush (-4), 2) := by decide +kernel
theorem dX6_join_41 : decode cX6_join 41 = .ok (.ireturn, 1) := by decide +kernel
theorem dX6_join_42 : decode cX6_join 42 = .ok (.iconst 0, 1) := by decide +kernel
theorem dX6_join_43 : decode cX6_join 43 = .ok (.istore 4, 2) := by decide +kernel
theorem dX6_join_45 : decode cX6_join 45 = .ok (.iconst 0, 1) := by decide +kernel
theorem dX6_join_46 : decode cX6_join 46 = .ok (.istore 5, 2) := by decide +kernel
theorem dX6_join_48 : decode cX6_join 48 = .ok (.iload 5, 2) := by decide +kernel
theorem dX6_join_50 : decode cX6_join 50 = .ok (.aload_n 0, 1) := by decide +kernel
theorem dX6_join_51 : decode cX6_join 51 = .ok (.iload_n 2, 1) := by decide +kernel
theorem dX6_join_52 : decode cX6_join 52 = .ok (.invokevirtual 86, 3) := by decide +kernel
theorem dX6_join_55 : decode cX6_join 55 = .ok (.if_icmp .ge 31, 3) := by decide +kernel
theorem dX6_join_58 : decode cX6_join 58 = .ok (.aload_n 0, 1) := by decide +kernel
theorem dX6_join_59 : decode cX6_join 59 = .ok (.getfield 33, 3) := by decide +kernel
theorem dX6_join_62 : decode cX6_join 62 = .ok (.iload 4, 2) := by decide +kernel
theorem dX6_join_64 : decode cX6_join 64 = .ok (.aload_n 0, 1) := by decide +kernel
theorem dX6_join_65 : decode cX6_join 65 = .ok (.getfield 7, 3) := by decide +kernel
theorem dX6_join_68 : decode cX6_join 68 = .ok (.bipush 60, 2) := by decide +kernel
theorem dX6_join_70 : decode cX6_join 70 = .ok (.iload_n 2, 1) := by decide +kernel
theorem dX6_join_71 : decode cX6_join 71 = .ok (.imul, 1) := by decide +kernel
theorem dX6_join_72 : decode cX6_join 72 = .ok (.iload 5, 2) := by decide +kernel
theorem dX6_join_74 : decode cX6_join 74 = .ok (.iadd, 1) := by decide +kernel
theorem dX6_join_75 : decode cX6_join 75 = .ok (.iaload, 1) := by decide +kernel
theorem dX6_join_76 : decode cX6_join 76 = .ok (.iastore, 1) := by decide +kernel
theorem dX6_join_77 : decode cX6_join 77 = .ok (.iinc 4 1, 3) := by decide +kernel
theorem dX6_join_80 : decode cX6_join 80 = .ok (.iinc 5 1, 3) := by decide +kernel
theorem dX6_join_83 : decode cX6_join 83 = .ok (.goto (-35), 3) := by decide +kernel
theorem dX6_join_86 : decode cX6_join 86 = .ok (.iconst 0, 1) := by decide +kernel
theorem dX6_join_87 : decode cX6_join 87 = .ok (.istore 5, 2) := by decide +kernel
theorem dX6_join_89 : decode cX6_join 89 = .ok (.iload 5, 2) := by decide +kernel
theorem dX6_join_91 : decode cX6_join 91 = .ok (.aload_n 0, 1) := by decide +kernel
theorem dX6_join_92 : decode cX6_join 92 = .ok (.iload_n 3, 1) := by decide +kernel
theorem dX6_join_93 : decode cX6_join 93 = .ok (.invokevirtual 86, 3) := by decide +kernel
theorem dX6_join_96 : decode cX6_join 96 = .ok (.if_icmp .ge 31, 3) := by decide +kernel
theorem dX6_join_99 : decode cX6_join 99 = .ok (.aload_n 0, 1) := by decide +kernel
theorem dX6_join_100 : decode cX6_join 100 = .ok (.getfield 33, 3) := by decide +kernel
theorem dX6_join_103 : decode cX6_join 103 = .ok (.iload 4, 2) := by decide +kernel
theorem dX6_join_105 : decode cX6_join 105 = .ok (.aload_n 0, 1) := by decide +kernel
theorem dX6_join_106 : decode cX6_join 106 = .ok (.getfield 7, 3) := by decide +kernel
theorem dX6_join_109 : decode cX6_join 109 = .ok (.bipush 60, 2) := by decide +kernel
theorem dX6_join_111 : decode cX6_join 111 = .ok (.iload_n 3, 1) := by decide +kernel
theorem dX6_join_112 : decode cX6_join 112 = .ok (.imul, 1) := by decide +kernel
theorem dX6_join_113 : decode cX6_join 113 = .ok (.iload 5, 2) := by decide +kernel
theorem dX6_join_115 : decode cX6_join 115 = .ok (.iadd, 1) := by decide +kernel
theorem dX6_join_116 : decode cX6_join 116 = .ok (.iaload, 1) := by decide +kernel
theorem dX6_join_117 : decode cX6_join 117 = .ok (.iastore, 1) := by decide +kernel
theorem dX6_join_118 : decode cX6_join 118 = .ok (.iinc 4 1, 3) := by decide +kernel
theorem dX6_join_121 : decode cX6_join 121 = .ok (.iinc 5 1, 3) := by decide +kernel
theorem dX6_join_124 : decode cX6_join 124 = .ok (.goto (-35), 3) := by decide +kernel
theorem dX6_join_127 : decode cX6_join 127 = .ok (.aload_n 0, 1) := by decide +kernel
theorem dX6_join_128 : decode cX6_join 128 = .ok (.iload_n 1, 1) := by decide +kernel
theorem dX6_join_129 : decode cX6_join 129 = .ok (.iload 4, 2) := by decide +kernel
theorem dX6_join_131 : decode cX6_join 131 = .ok (.invokevirtual 82, 3) := by decide +kernel
theorem dX6_join_134 : decode cX6_join 134 = .ok (.ireturn, 1) := by decide +kernel
theorem dX6_undone_0 : decode cX6_undone 0 = .ok (.iload_n 1, 1) := by decide +kernel
theorem dX6_undone_1 : decode cX6_undone 1 = .ok (.invokestatic 71, 3) := by decide +kernel
theorem dX6_undone_4 : decode cX6_undone 4 = .ok (.ifCond .eq 10, 3) := by decide +kernel
theorem dX6_undone_7 : decode cX6_undone 7 = .ok (.iload_n 2, 1) := by decide +kernel
theorem dX6_undone_8 : decode cX6_undone 8 = .ok (.invokestatic 71, 3) := by decide +kernel
theorem dX6_undone_11 : decode cX6_undone 11 = .ok (.ifCond .ne 5, 3) := by decide +kernel
theorem dX6_undone_14 : decode cX6_undone 14 = .ok (.iconst (-1), 1) := by decide +kernel
theorem dX6_undone_15 : decode cX6_undone 15 = .ok (.ireturn, 1) := by decide +kernel
theorem dX6_undone_16 : decode cX6_undone 16 = .ok (.aload_n 0, 1) := by decide +kernel
theorem dX6_undone_17 : decode cX6_undone 17 = .ok (.iload_n 2, 1) := by decide +kernel
theorem dX6_undone_18 : decode cX6_undone 18 = .ok (.invokevirtual 86, 3) := by decide +kernel
theorem dX6_undone_21 : decode cX6_undone 21 = .ok (.istore_n 3, 1) := by decide +kernel
theorem dX6_undone_22 : decode cX6_undone 22 = .ok (.iconst 0, 1) := by decide +kernel
theorem dX6_undone_23 : decode cX6_undone 23 = .ok (.istore 4, 2) := by decide +kernel
theorem dX6_undone_25 : decode cX6_undone 25 = .ok (.iload 4, 2) := by decide +kernel
theorem dX6_undone_27 : decode cX6_undone 27 = .ok (.iload_n 3, 1) := by decide +kernel
theorem dX6_undone_28 : decode cX6_undone 28 = .ok (.if_icmp .ge 75, 3) := by decide +kernel
theorem dX6_undone_31 : decode cX6_undone 31 = .ok (.aload_n 0, 1) := by decide +kernel
theorem dX6_undone_32 : decode cX6_undone 32 = .ok (.iload_n 2, 1) := by decide +kernel
theorem dX6_undone_33 : decode cX6_undone 33 = .ok (.iload_n 3, 1) := by decide +kernel
theorem dX6_undone_34 : decode cX6_undone 34 = .ok (.iconst 1, 1) := by decide +kernel
theorem dX6_undone_35 : decode cX6_undone 35 = .ok (.isub, 1) := by decide +kernel
theorem dX6_undone_36 : decode cX6_undone 36 = .ok (.iload 4, 2) := by decide +kernel
theorem dX6_undone_38 : decode cX6_undone 38 = .ok (.isub, 1) := by decide +kernel
theorem dX6_undone_39 : decode cX6_undone 39 = .ok (.invokevirtual 89, 3) := by decide +kernel
theorem dX6_undone_42 : decode cX6_undone 42 = .ok (.istore 5, 2) := by decide +kernel
theorem dX6_undone_44 : decode cX6_undone 44 = .ok (.iload 5, 2) := by decide +kernel
theorem dX6_undone_46 : decode cX6_undone 46 = .ok (.iconst 4, 1) := by decide +kernel
theorem dX6_undone_47 : decode cX6_undone 47 = .ok (.if_icmp .ne 7, 3) := by decide +kernel
theorem dX6_undone_50 : decode cX6_undone 50 = .ok (.iconst 4, 1) := by decide +kernel
theorem dX6_undone_51 : decode cX6_undone 51 = .ok (.goto 21, 3) := by decide +kernel
theorem dX6_undone_54 : decode cX6_undone 54 = .ok (.iload 5, 2) := by decide +kernel
theorem dX6_undone_56 : decode cX6_undone 56 = .ok (.iconst 2, 1) := by decide +kernel
theorem dX6_undone_57 : decode cX6_undone 57 = .ok (.irem, 1) := by decide +kernel
theorem dX6_undone_58 : decode cX6_undone 58 = .ok (.ifCond .ne 10, 3) := by decide +kernel
theorem dX6_undone_61 : decode cX6_undone 61 = .ok (.iload 5, 2) := by decide +kernel
theorem dX6_undone_63 : decode cX6_undone 63 = .ok (.iconst 1, 1) := by decide +kernel
theorem dX6_undone_64 : decode cX6_undone 64 = .ok (.iadd, 1) := by decide +kernel
theorem dX6_undone_65 : decode cX6_undone 65 = .ok (.goto 7, 3) := by decide +kernel
theorem dX6_undone_68 : decode cX6_undone 68 = .ok (.iload 5, 2) := by decide +kernel
theorem dX6_undone_70 : decode cX6_undone 70 = .ok (.iconst 1, 1) := by decide +kernel
theorem dX6_undone_71 : decode cX6_undone 71 = .ok (.isub, 1) := by decide +kernel
theorem dX6_undone_72 : decode cX6_undone 72 = .ok (.istore 6, 2) := by decide +kernel
theorem dX6_undone_74 : decode cX6_undone 74 = .ok (.aload_n 0, 1) := by decide +kernel
theorem dX6_undone_75 : decode cX6_undone 75 = .ok (.getfield 33, 3) := by decide +kernel
theorem dX6_undone_78 : decode cX6_undone 78 = .ok (.iload 4, 2) := by decide +kernel
theorem dX6_undone_80 : decode cX6_undone 80 = .ok (.iconst 3, 1) := by decide +kernel
theorem dX6_undone_81 : decode cX6_undone 81 = .ok (.iload 6, 2) := by decide +kernel
theorem dX6_undone_83 : decode cX6_undone 83 = .ok (.imul, 1) := by decide +kernel
theorem dX6_undone_84 : decode cX6_undone 84 = .ok (.aload_n 0, 1) := by decide +kernel
theorem dX6_undone_85 : decode cX6_undone 85 = .ok (.iload_n 2, 1) := by decide +kernel
theorem dX6_undone_86 : decode cX6_undone 86 = .ok (.iload_n 3, 1) := by decide +kernel
theorem dX6_undone_87 : decode cX6_undone 87 = .ok (.iconst 1, 1) := by decide +kernel
theorem dX6_undone_88 : decode cX6_undone 88 = .ok (.isub, 1) := by decide +kernel
theorem dX6_undone_89 : decode cX6_undone 89 = .ok (.iload 4, 2) := by decide +kernel
theorem dX6_undone_91 : decode cX6_undone 91 = .ok (.isub, 1) := by decide +kernel
theorem dX6_undone_92 : decode cX6_undone 92 = .ok (.invokevirtual 92, 3) := by decide +kernel
theorem dX6_undone_95 : decode cX6_undone 95 = .ok (.iadd, 1) := by decide +kernel
theorem dX6_undone_96 : decode cX6_undone 96 = .ok (.iastore, 1) := by decide +kernel
theorem dX6_undone_97 : decode cX6_undone 97 = .ok (.iinc 4 1, 3) := by decide +kernel
theorem dX6_undone_100 : decode cX6_undone 100 = .ok (.goto (-75), 3) := by decide +kernel
theorem dX6_undone_103 : decode cX6_undone 103 = .ok (.aload_n 0, 1) := by decide +kernel
theorem dX6_undone_104 : decode cX6_undone 104 = .ok (.iload_n 1, 1) := by decide +kernel
theorem dX6_undone_105 : decode cX6_undone 105 = .ok (.iload_n 3, 1) := by decide +kernel
theorem dX6_undone_106 : decode cX6_undone 106 = .ok (.invokevirtual 82, 3) := by decide +kernel
theorem dX6_undone_109 : decode cX6_undone 109 = .ok (.ireturn, 1) := by decide +kernel
theorem dX6_step_0 : decode cX6_step 0 = .ok (.iload_n 1, 1) := by decide +kernel
theorem dX6_step_1 : decode cX6_step 1 = .ok (.invokestatic 71, 3) := by decide +kernel
theorem dX6_step_4 : decode cX6_step 4 = .ok (.ifCond .ne 5, 3) := by decide +kernel
theorem dX6_step_7 : decode cX6_step 7 = .ok (.iconst (-1), 1) := by decide +kernel
theorem dX6_step_8 : decode cX6_step 8 = .ok (.ireturn, 1) := by decide +kernel
theorem dX6_step_9 : decode cX6_step 9 = .ok (.iload_n 2, 1) := by decide +kernel
theorem dX6_step_10 : decode cX6_step 10 = .ok (.iconst (-1), 1) := by decide +kernel
theorem dX6_step_11 : decode cX6_step 11 = .ok (.if_icmp .lt 12, 3) := by decide +kernel
theorem dX6_step_14 : decode cX6_step 14 = .ok (.iload_n 3, 1) := by decide +kernel
theorem dX6_step_15 : decode cX6_step 15 = .ok (.iconst 0, 1) := by decide +kernel
theorem dX6_step_16 : decode cX6_step 16 = .ok (.iconst 1, 1) := by decide +kernel
theorem dX6_step_17 : decode cX6_step 17 = .ok (.invokestatic 57, 3) := by decide +kernel
theorem dX6_step_20 : decode cX6_step 20 = .ok (.ifCond .ne 6, 3) := by decide +kernel
theorem dX6_step_23 : decode cX6_step 23 = .ok (.bipush (-2), 2) := by decide +kernel
theorem dX6_step_25 : decode cX6_step 25 = .ok (.ireturn, 1) := by decide +kernel
theorem dX6_step_26 : decode cX6_step 26 = .ok (.iload_n 2, 1) := by decide +kernel
theorem dX6_step_27 : decode cX6_step 27 = .ok (.iconst (-1), 1) := by decide +kernel
theorem dX6_step_28 : decode cX6_step 28 = .ok (.if_icmp .ne 9, 3) := by decide +kernel
theorem dX6_step_31 : decode cX6_step 31 = .ok (.aload_n 0, 1) := by decide +kernel
theorem dX6_step_32 : decode cX6_step 32 = .ok (.iload_n 1, 1) := by decide +kernel
theorem dX6_step_33 : decode cX6_step 33 = .ok (.invokevirtual 86, 3) := by decide +kernel
theorem dX6_step_36 : decode cX6_step 36 = .ok (.ireturn, 1) := by decide +kernel
theorem dX6_step_37 : decode cX6_step 37 = .ok (.iload_n 2, 1) := by decide +kernel
theorem dX6_step_38 : decode cX6_step 38 = .ok (.aload_n 0, 1) := by decide +kernel
theorem dX6_step_39 : decode cX6_step 39 = .ok (.iload_n 1, 1) := by decide +kernel
theorem dX6_step_40 : decode cX6_step 40 = .ok (.invokevirtual 86, 3) := by decide +kernel
theorem dX6_step_43 : decode cX6_step 43 = .ok (.if_icmp .lt 8, 3) := by decide +kernel
theorem dX6_step_46 : decode cX6_step 46 = .ok (.bipush (-6), 2) := by decide +kernel
theorem dX6_step_48 : decode cX6_step 48 = .ok (.goto 22, 3) := by decide +kernel
theorem dX6_step_51 : decode cX6_step 51 = .ok (.iload_n 3, 1) := by decide +kernel
theorem dX6_step_52 : decode cX6_step 52 = .ok (.ifCond .ne 12, 3) := by decide +kernel
theorem dX6_step_55 : decode cX6_step 55 = .ok (.aload_n 0, 1) := by decide +kernel
theorem dX6_step_56 : decode cX6_step 56 = .ok (.iload_n 1, 1) := by decide +kernel
theorem dX6_step_57 : decode cX6_step 57 = .ok (.iload_n 2, 1) := by decide +kernel
theorem dX6_step_58 : decode cX6_step 58 = .ok (.invokevirtual 89, 3) := by decide +kernel
theorem dX6_step_61 : decode cX6_step 61 = .ok (.goto 9, 3) := by decide +kernel
theorem dX6_step_64 : decode cX6_step 64 = .ok (.aload_n 0, 1) := by decide +kernel
theorem dX6_step_65 : decode cX6_step 65 = .ok (.iload_n 1, 1) := by decide +kernel
theorem dX6_step_66 : decode cX6_step 66 = .ok (.iload_n 2, 1) := by decide +kernel
theorem dX6_step_67 : decode cX6_step 67 = .ok (.invokevirtual 92, 3) := by decide +kernel
theorem dX6_step_70 : decode cX6_step 70 = .ok (.ireturn, 1) := by decide +kernel
theorem dX6_signOf_0 : decode cX6_signOf 0 = .ok (.iload_n 0, 1) := by decide +kernel
theorem dX6_signOf_1 : decode cX6_signOf 1 = .ok (.ifCond .ne 8, 3) := by decide +kernel
theorem dX6_signOf_4 : decode cX6_signOf 4 = .ok (.bipush 67, 2) := by decide +kernel
theorem dX6_signOf_6 : decode cX6_signOf 6 = .ok (.goto 35, 3) := by decide +kernel
theorem dX6_signOf_9 : decode cX6_signOf 9 = .ok (.iload_n 0, 1) := by decide +kernel
theorem dX6_signOf_10 : decode cX6_signOf 10 = .ok (.iconst 1, 1) := by decide +kernel
theorem dX6_signOf_11 : decode cX6_signOf 11 = .ok (.if_icmp .ne 8, 3) := by decide +kernel
theorem dX6_signOf_14 : decode cX6_signOf 14 = .ok (.bipush 68, 2) := by decide +kernel
theorem dX6_signOf_16 : decode cX6_signOf 16 = .ok (.goto 25, 3) := by decide +kernel
theorem dX6_signOf_19 : decode cX6_signOf 19 = .ok (.iload_n 0, 1) := by decide +kernel
theorem dX6_signOf_20 : decode cX6_signOf 20 = .ok (.iconst 2, 1) := by decide +kernel
theorem dX6_signOf_21 : decode cX6_signOf 21 = .ok (.if_icmp .ne 8, 3) := by decide +kernel
theorem dX6_signOf_24 : decode cX6_signOf 24 = .ok (.bipush 84, 2) := by decide +kernel
theorem dX6_signOf_26 : decode cX6_signOf 26 = .ok (.goto 15, 3) := by decide +kernel
theorem dX6_signOf_29 : decode cX6_signOf 29 = .ok (.iload_n 0, 1) := by decide +kernel
theorem dX6_signOf_30 : decode cX6_signOf 30 = .ok (.iconst 3, 1) := by decide +kernel
theorem dX6_signOf_31 : decode cX6_signOf 31 = .ok (.if_icmp .ne 8, 3) := by decide +kernel
theorem dX6_signOf_34 : decode cX6_signOf 34 = .ok (.bipush 85, 2) := by decide +kernel
theorem dX6_signOf_36 : decode cX6_signOf 36 = .ok (.goto 5, 3) := by decide +kernel
theorem dX6_signOf_39 : decode cX6_signOf 39 = .ok (.bipush 80, 2) := by decide +kernel
theorem dX6_signOf_41 : decode cX6_signOf 41 = .ok (.ireturn, 1) := by decide +kernel
theorem dX6_written_0 : decode cX6_written 0 = .ok (.iload_n 1, 1) := by decide +kernel
theorem dX6_written_1 : decode cX6_written 1 = .ok (.invokestatic 71, 3) := by decide +kernel
theorem dX6_written_4 : decode cX6_written 4 = .ok (.ifCond .ne 5, 3) := by decide +kernel
theorem dX6_written_7 : decode cX6_written 7 = .ok (.iconst (-1), 1) := by decide +kernel
theorem dX6_written_8 : decode cX6_written 8 = .ok (.ireturn, 1) := by decide +kernel
theorem dX6_written_9 : decode cX6_written 9 = .ok (.iload_n 2, 1) := by decide +kernel
theorem dX6_written_10 : decode cX6_written 10 = .ok (.iconst (-1), 1) := by decide +kernel
theorem dX6_written_11 : decode cX6_written 11 = .ok (.if_icmp .ge 6, 3) := by decide +kernel
theorem dX6_written_14 : decode cX6_written 14 = .ok (.bipush (-2), 2) := by decide +kernel
theorem dX6_written_16 : decode cX6_written 16 = .ok (.ireturn, 1) := by decide +kernel
theorem dX6_written_17 : decode cX6_written 17 = .ok (.iconst 0, 1) := by decide +kernel
theorem dX6_written_18 : decode cX6_written 18 = .ok (.istore_n 3, 1) := by decide +kernel
theorem dX6_written_19 : decode cX6_written 19 = .ok (.iconst 0, 1) := by decide +kernel
theorem dX6_written_20 : decode cX6_written 20 = .ok (.istore 4, 2) := by decide +kernel
theorem dX6_written_22 : decode cX6_written 22 = .ok (.iload 4, 2) := by decide +kernel
theorem dX6_written_24 : decode cX6_written 24 = .ok (.aload_n 0, 1) := by decide +kernel
theorem dX6_written_25 : decode cX6_written 25 = .ok (.iload_n 1, 1) := by decide +kernel
theorem dX6_written_26 : decode cX6_written 26 = .ok (.invokevirtual 86, 3) := by decide +kernel
theorem dX6_written_29 : decode cX6_written 29 = .ok (.if_icmp .ge 71, 3) := by decide +kernel
theorem dX6_written_32 : decode cX6_written 32 = .ok (.iload 4, 2) := by decide +kernel
theorem dX6_written_34 : decode cX6_written 34 = .ok (.ifCond .eq 22, 3) := by decide +kernel
theorem dX6_written_37 : decode cX6_written 37 = .ok (.aload_n 0, 1) := by decide +kernel
theorem dX6_written_38 : decode cX6_written 38 = .ok (.iload_n 1, 1) := by decide +kernel
theorem dX6_written_39 : decode cX6_written 39 = .ok (.iload 4, 2) := by decide +kernel
theorem dX6_written_41 : decode cX6_written 41 = .ok (.invokevirtual 92, 3) := by decide +kernel
theorem dX6_written_44 : decode cX6_written 44 = .ok (.aload_n 0, 1) := by decide +kernel
theorem dX6_written_45 : decode cX6_written 45 = .ok (.iload_n 1, 1) := by decide +kernel
theorem dX6_written_46 : decode cX6_written 46 = .ok (.iload 4, 2) := by decide +kernel
theorem dX6_written_48 : decode cX6_written 48 = .ok (.iconst 1, 1) := by decide +kernel
theorem dX6_written_49 : decode cX6_written 49 = .ok (.isub, 1) := by decide +kernel
theorem dX6_written_50 : decode cX6_written 50 = .ok (.invokevirtual 92, 3) := by decide +kernel
theorem dX6_written_53 : decode cX6_written 53 = .ok (.if_icmp .eq 22, 3) := by decide +kernel
theorem dX6_written_56 : decode cX6_written 56 = .ok (.aload_n 0, 1) := by decide +kernel
theorem dX6_written_57 : decode cX6_written 57 = .ok (.getfield 36, 3) := by decide +kernel
theorem dX6_written_60 : decode cX6_written 60 = .ok (.iload_n 3, 1) := by decide +kernel
theorem dX6_written_61 : decode cX6_written 61 = .ok (.bipush 48, 2) := by decide +kernel
theorem dX6_written_63 : decode cX6_written 63 = .ok (.aload_n 0, 1) := by decide +kernel
theorem dX6_written_64 : decode cX6_written 64 = .ok (.iload_n 1, 1) := by decide +kernel
theorem dX6_written_65 : decode cX6_written 65 = .ok (.iload 4, 2) := by decide +kernel
theorem dX6_written_67 : decode cX6_written 67 = .ok (.invokevirtual 92, 3) := by decide +kernel
theorem dX6_written_70 : decode cX6_written 70 = .ok (.iadd, 1) := by decide +kernel
theorem dX6_written_71 : decode cX6_written 71 = .ok (.iastore, 1) := by decide +kernel
theorem dX6_written_72 : decode cX6_written 72 = .ok (.iinc 3 1, 3) := by decide +kernel
theorem dX6_written_75 : decode cX6_written 75 = .ok (.aload_n 0, 1) := by decide +kernel
theorem dX6_written_76 : decode cX6_written 76 = .ok (.getfield 36, 3) := by decide +kernel
theorem dX6_written_79 : decode cX6_written 79 = .ok (.iload_n 3, 1) := by decide +kernel
