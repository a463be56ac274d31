theorem dX4_row_14 : decode cX4_row 14 = .ok (.getfield 11, 3) := by decide +kernel
theorem dX4_row_17 : decode cX4_row 17 = .ok (.iload_n 1, 1) := by decide +kernel
theorem dX4_row_18 : decode cX4_row 18 = .ok (.aaload, 1) := by decide +kernel
theorem dX4_row_19 : decode cX4_row 19 = .ok (.goto 4, 3) := by decide +kernel
theorem dX4_row_22 : decode cX4_row 22 = .ok (.aconst_null, 1) := by decide +kernel
theorem dX4_row_23 : decode cX4_row 23 = .ok (.areturn, 1) := by decide +kernel
theorem dX4_become_0 : decode cX4_become 0 = .ok (.iconst 0, 1) := by decide +kernel
theorem dX4_become_1 : decode cX4_become 1 = .ok (.istore_n 2, 1) := by decide +kernel
theorem dX4_become_2 : decode cX4_become 2 = .ok (.iload_n 2, 1) := by decide +kernel
theorem dX4_become_3 : decode cX4_become 3 = .ok (.aload_n 0, 1) := by decide +kernel
theorem dX4_become_4 : decode cX4_become 4 = .ok (.getfield 11, 3) := by decide +kernel
theorem dX4_become_7 : decode cX4_become 7 = .ok (.arraylength, 1) := by decide +kernel
theorem dX4_become_8 : decode cX4_become 8 = .ok (.if_icmp .ge 29, 3) := by decide +kernel
theorem dX4_become_11 : decode cX4_become 11 = .ok (.aload_n 1, 1) := by decide +kernel
theorem dX4_become_12 : decode cX4_become 12 = .ok (.iload_n 2, 1) := by decide +kernel
theorem dX4_become_13 : decode cX4_become 13 = .ok (.invokevirtual 20, 3) := by decide +kernel
theorem dX4_become_16 : decode cX4_become 16 = .ok (.astore_n 3, 1) := by decide +kernel
theorem dX4_become_17 : decode cX4_become 17 = .ok (.aload_n 3, 1) := by decide +kernel
theorem dX4_become_18 : decode cX4_become 18 = .ok (.ifnull 13, 3) := by decide +kernel
theorem dX4_become_21 : decode cX4_become 21 = .ok (.aload_n 0, 1) := by decide +kernel
theorem dX4_become_22 : decode cX4_become 22 = .ok (.getfield 11, 3) := by decide +kernel
theorem dX4_become_25 : decode cX4_become 25 = .ok (.iload_n 2, 1) := by decide +kernel
theorem dX4_become_26 : decode cX4_become 26 = .ok (.aaload, 1) := by decide +kernel
theorem dX4_become_27 : decode cX4_become 27 = .ok (.aload_n 3, 1) := by decide +kernel
theorem dX4_become_28 : decode cX4_become 28 = .ok (.invokevirtual 24, 3) := by decide +kernel
theorem dX4_become_31 : decode cX4_become 31 = .ok (.iinc 2 1, 3) := by decide +kernel
theorem dX4_become_34 : decode cX4_become 34 = .ok (.goto (-32), 3) := by decide +kernel
theorem dX4_become_37 : decode cX4_become 37 = .ok (.return_, 1) := by decide +kernel
theorem dX4_stepsInAll_0 : decode cX4_stepsInAll 0 = .ok (.iconst 0, 1) := by decide +kernel
theorem dX4_stepsInAll_1 : decode cX4_stepsInAll 1 = .ok (.istore_n 1, 1) := by decide +kernel
theorem dX4_stepsInAll_2 : decode cX4_stepsInAll 2 = .ok (.iconst 0, 1) := by decide +kernel
theorem dX4_stepsInAll_3 : decode cX4_stepsInAll 3 = .ok (.istore_n 2, 1) := by decide +kernel
theorem dX4_stepsInAll_4 : decode cX4_stepsInAll 4 = .ok (.iload_n 2, 1) := by decide +kernel
theorem dX4_stepsInAll_5 : decode cX4_stepsInAll 5 = .ok (.aload_n 0, 1) := by decide +kernel
theorem dX4_stepsInAll_6 : decode cX4_stepsInAll 6 = .ok (.getfield 11, 3) := by decide +kernel
theorem dX4_stepsInAll_9 : decode cX4_stepsInAll 9 = .ok (.arraylength, 1) := by decide +kernel
theorem dX4_stepsInAll_10 : decode cX4_stepsInAll 10 = .ok (.if_icmp .ge 21, 3) := by decide +kernel
theorem dX4_stepsInAll_13 : decode cX4_stepsInAll 13 = .ok (.iload_n 1, 1) := by decide +kernel
theorem dX4_stepsInAll_14 : decode cX4_stepsInAll 14 = .ok (.aload_n 0, 1) := by decide +kernel
theorem dX4_stepsInAll_15 : decode cX4_stepsInAll 15 = .ok (.getfield 11, 3) := by decide +kernel
theorem dX4_stepsInAll_18 : decode cX4_stepsInAll 18 = .ok (.iload_n 2, 1) := by decide +kernel
theorem dX4_stepsInAll_19 : decode cX4_stepsInAll 19 = .ok (.aaload, 1) := by decide +kernel
theorem dX4_stepsInAll_20 : decode cX4_stepsInAll 20 = .ok (.invokevirtual 28, 3) := by decide +kernel
theorem dX4_stepsInAll_23 : decode cX4_stepsInAll 23 = .ok (.iadd, 1) := by decide +kernel
theorem dX4_stepsInAll_24 : decode cX4_stepsInAll 24 = .ok (.istore_n 1, 1) := by decide +kernel
theorem dX4_stepsInAll_25 : decode cX4_stepsInAll 25 = .ok (.iinc 2 1, 3) := by decide +kernel
theorem dX4_stepsInAll_28 : decode cX4_stepsInAll 28 = .ok (.goto (-24), 3) := by decide +kernel
theorem dX4_stepsInAll_31 : decode cX4_stepsInAll 31 = .ok (.iload_n 1, 1) := by decide +kernel
theorem dX4_stepsInAll_32 : decode cX4_stepsInAll 32 = .ok (.ireturn, 1) := by decide +kernel
theorem dX5_init_0 : decode cX5_init 0 = .ok (.aload_n 0, 1) := by decide +kernel
theorem dX5_init_1 : decode cX5_init 1 = .ok (.invokespecial 3, 3) := by decide +kernel
theorem dX5_init_4 : decode cX5_init 4 = .ok (.aload_n 0, 1) := by decide +kernel
theorem dX5_init_5 : decode cX5_init 5 = .ok (.new 9, 3) := by decide +kernel
theorem dX5_init_8 : decode cX5_init 8 = .ok (.dup, 1) := by decide +kernel
theorem dX5_init_9 : decode cX5_init 9 = .ok (.bipush 40, 2) := by decide +kernel
theorem dX5_init_11 : decode cX5_init 11 = .ok (.invokespecial 11, 3) := by decide +kernel
theorem dX5_init_14 : decode cX5_init 14 = .ok (.putfield 14, 3) := by decide +kernel
theorem dX5_init_17 : decode cX5_init 17 = .ok (.aload_n 0, 1) := by decide +kernel
theorem dX5_init_18 : decode cX5_init 18 = .ok (.new 9, 3) := by decide +kernel
theorem dX5_init_21 : decode cX5_init 21 = .ok (.dup, 1) := by decide +kernel
theorem dX5_init_22 : decode cX5_init 22 = .ok (.bipush 60, 2) := by decide +kernel
theorem dX5_init_24 : decode cX5_init 24 = .ok (.invokespecial 11, 3) := by decide +kernel
theorem dX5_init_27 : decode cX5_init 27 = .ok (.putfield 18, 3) := by decide +kernel
theorem dX5_init_30 : decode cX5_init 30 = .ok (.aload_n 0, 1) := by decide +kernel
theorem dX5_init_31 : decode cX5_init 31 = .ok (.new 9, 3) := by decide +kernel
theorem dX5_init_34 : decode cX5_init 34 = .ok (.dup, 1) := by decide +kernel
theorem dX5_init_35 : decode cX5_init 35 = .ok (.bipush 120, 2) := by decide +kernel
theorem dX5_init_37 : decode cX5_init 37 = .ok (.invokespecial 11, 3) := by decide +kernel
theorem dX5_init_40 : decode cX5_init 40 = .ok (.putfield 21, 3) := by decide +kernel
theorem dX5_init_43 : decode cX5_init 43 = .ok (.aload_n 0, 1) := by decide +kernel
theorem dX5_init_44 : decode cX5_init 44 = .ok (.new 9, 3) := by decide +kernel
theorem dX5_init_47 : decode cX5_init 47 = .ok (.dup, 1) := by decide +kernel
theorem dX5_init_48 : decode cX5_init 48 = .ok (.bipush 120, 2) := by decide +kernel
theorem dX5_init_50 : decode cX5_init 50 = .ok (.invokespecial 11, 3) := by decide +kernel
theorem dX5_init_53 : decode cX5_init 53 = .ok (.putfield 24, 3) := by decide +kernel
theorem dX5_init_56 : decode cX5_init 56 = .ok (.aload_n 0, 1) := by decide +kernel
theorem dX5_init_57 : decode cX5_init 57 = .ok (.new 9, 3) := by decide +kernel
theorem dX5_init_60 : decode cX5_init 60 = .ok (.dup, 1) := by decide +kernel
theorem dX5_init_61 : decode cX5_init 61 = .ok (.bipush 120, 2) := by decide +kernel
theorem dX5_init_63 : decode cX5_init 63 = .ok (.invokespecial 11, 3) := by decide +kernel
theorem dX5_init_66 : decode cX5_init 66 = .ok (.putfield 27, 3) := by decide +kernel
theorem dX5_init_69 : decode cX5_init 69 = .ok (.aload_n 0, 1) := by decide +kernel
theorem dX5_init_70 : decode cX5_init 70 = .ok (.new 9, 3) := by decide +kernel
theorem dX5_init_73 : decode cX5_init 73 = .ok (.dup, 1) := by decide +kernel
theorem dX5_init_74 : decode cX5_init 74 = .ok (.bipush 120, 2) := by decide +kernel
theorem dX5_init_76 : decode cX5_init 76 = .ok (.invokespecial 11, 3) := by decide +kernel
theorem dX5_init_79 : decode cX5_init 79 = .ok (.putfield 30, 3) := by decide +kernel
theorem dX5_init_82 : decode cX5_init 82 = .ok (.aload_n 0, 1) := by decide +kernel
theorem dX5_init_83 : decode cX5_init 83 = .ok (.new 9, 3) := by decide +kernel
theorem dX5_init_86 : decode cX5_init 86 = .ok (.dup, 1) := by decide +kernel
theorem dX5_init_87 : decode cX5_init 87 = .ok (.bipush 120, 2) := by decide +kernel
theorem dX5_init_89 : decode cX5_init 89 = .ok (.invokespecial 11, 3) := by decide +kernel
theorem dX5_init_92 : decode cX5_init 92 = .ok (.putfield 33, 3) := by decide +kernel
theorem dX5_init_95 : decode cX5_init 95 = .ok (.aload_n 0, 1) := by decide +kernel
theorem dX5_init_96 : decode cX5_init 96 = .ok (.new 36, 3) := by decide +kernel
theorem dX5_init_99 : decode cX5_init 99 = .ok (.dup, 1) := by decide +kernel
theorem dX5_init_100 : decode cX5_init 100 = .ok (.invokespecial 38, 3) := by decide +kernel
theorem dX5_init_103 : decode cX5_init 103 = .ok (.putfield 39, 3) := by decide +kernel
theorem dX5_init_106 : decode cX5_init 106 = .ok (.aload_n 0, 1) := by decide +kernel
theorem dX5_init_107 : decode cX5_init 107 = .ok (.iconst 2, 1) := by decide +kernel
theorem dX5_init_108 : decode cX5_init 108 = .ok (.anewarray 36, 3) := by decide +kernel
theorem dX5_init_111 : decode cX5_init 111 = .ok (.putfield 43, 3) := by decide +kernel
theorem dX5_init_114 : decode cX5_init 114 = .ok (.iconst 0, 1) := by decide +kernel
theorem dX5_init_115 : decode cX5_init 115 = .ok (.istore_n 1, 1) := by decide +kernel
theorem dX5_init_116 : decode cX5_init 116 = .ok (.iload_n 1, 1) := by decide +kernel
theorem dX5_init_117 : decode cX5_init 117 = .ok (.iconst 2, 1) := by decide +kernel
theorem dX5_init_118 : decode cX5_init 118 = .ok (.if_icmp .ge 22, 3) := by decide +kernel
theorem dX5_init_121 : decode cX5_init 121 = .ok (.aload_n 0, 1) := by decide +kernel
theorem dX5_init_122 : decode cX5_init 122 = .ok (.getfield 43, 3) := by decide +kernel
theorem dX5_init_125 : decode cX5_init 125 = .ok (.iload_n 1, 1) := by decide +kernel
theorem dX5_init_126 : decode cX5_init 126 = .ok (.new 36, 3) := by decide +kernel
theorem dX5_init_129 : decode cX5_init 129 = .ok (.dup, 1) := by decide +kernel
theorem dX5_init_130 : decode cX5_init 130 = .ok (.invokespecial 38, 3) := by decide +kernel
theorem dX5_init_133 : decode cX5_init 133 = .ok (.aastore, 1) := by decide +kernel
theorem dX5_init_134 : decode cX5_init 134 = .ok (.iinc 1 1, 3) := by decide +kernel
theorem dX5_init_137 : decode cX5_init 137 = .ok (.goto (-21), 3) := by decide +kernel
theorem dX5_init_140 : decode cX5_init 140 = .ok (.aload_n 0, 1) := by decide +kernel
theorem dX5_init_141 : decode cX5_init 141 = .ok (.new 47, 3) := by decide +kernel
theorem dX5_init_144 : decode cX5_init 144 = .ok (.dup, 1) := by decide +kernel
theorem dX5_init_145 : decode cX5_init 145 = .ok (.invokespecial 49, 3) := by decide +kernel
theorem dX5_init_148 : decode cX5_init 148 = .ok (.putfield 50, 3) := by decide +kernel
theorem dX5_init_151 : decode cX5_init 151 = .ok (.aload_n 0, 1) := by decide +kernel
theorem dX5_init_152 : decode cX5_init 152 = .ok (.new 54, 3) := by decide +kernel
theorem dX5_init_155 : decode cX5_init 155 = .ok (.dup, 1) := by decide +kernel
theorem dX5_init_156 : decode cX5_init 156 = .ok (.invokespecial 56, 3) := by decide +kernel
theorem dX5_init_159 : decode cX5_init 159 = .ok (.putfield 57, 3) := by decide +kernel
theorem dX5_init_162 : decode cX5_init 162 = .ok (.aload_n 0, 1) := by decide +kernel
theorem dX5_init_163 : decode cX5_init 163 = .ok (.new 61, 3) := by decide +kernel
theorem dX5_init_166 : decode cX5_init 166 = .ok (.dup, 1) := by decide +kernel
theorem dX5_init_167 : decode cX5_init 167 = .ok (.invokespecial 63, 3) := by decide +kernel
theorem dX5_init_170 : decode cX5_init 170 = .ok (.putfield 64, 3) := by decide +kernel
theorem dX5_init_173 : decode cX5_init 173 = .ok (.aload_n 0, 1) := by decide +kernel
theorem dX5_init_174 : decode cX5_init 174 = .ok (.iconst 0, 1) := by decide +kernel
theorem dX5_init_175 : decode cX5_init 175 = .ok (.putfield 68, 3) := by decide +kernel
theorem dX5_init_178 : decode cX5_init 178 = .ok (.aload_n 0, 1) := by decide +kernel
theorem dX5_init_179 : decode cX5_init 179 = .ok (.bipush (-6), 2) := by decide +kernel
theorem dX5_init_181 : decode cX5_init 181 = .ok (.putfield 72, 3) := by decide +kernel
theorem dX5_init_184 : decode cX5_init 184 = .ok (.return_, 1) := by decide +kernel
theorem dX5_say_0 : decode cX5_say 0 = .ok (.iload_n 1, 1) := by decide +kernel
theorem dX5_say_1 : decode cX5_say 1 = .ok (.bipush 33, 2) := by decide +kernel
theorem dX5_say_3 : decode cX5_say 3 = .ok (.if_icmp .lt 9, 3) := by decide +kernel
theorem dX5_say_6 : decode cX5_say 6 = .ok (.iload_n 1, 1) := by decide +kernel
theorem dX5_say_7 : decode cX5_say 7 = .ok (.bipush 126, 2) := by decide +kernel
theorem dX5_say_9 : decode cX5_say 9 = .ok (.if_icmp .le 6, 3) := by decide +kernel
theorem dX5_say_12 : decode cX5_say 12 = .ok (.bipush (-2), 2) := by decide +kernel
theorem dX5_say_14 : decode cX5_say 14 = .ok (.ireturn, 1) := by decide +kernel
theorem dX5_say_15 : decode cX5_say 15 = .ok (.aload_n 0, 1) := by decide +kernel
theorem dX5_say_16 : decode cX5_say 16 = .ok (.getfield 14, 3) := by decide +kernel
theorem dX5_say_19 : decode cX5_say 19 = .ok (.iload_n 1, 1) := by decide +kernel
theorem dX5_say_20 : decode cX5_say 20 = .ok (.invokevirtual 75, 3) := by decide +kernel
theorem dX5_say_23 : decode cX5_say 23 = .ok (.ifCond .eq 13, 3) := by decide +kernel
theorem dX5_say_26 : decode cX5_say 26 = .ok (.aload_n 0, 1) := by decide +kernel
theorem dX5_say_27 : decode cX5_say 27 = .ok (.getfield 14, 3) := by decide +kernel
theorem dX5_say_30 : decode cX5_say 30 = .ok (.invokevirtual 79, 3) := by decide +kernel
theorem dX5_say_33 : decode cX5_say 33 = .ok (.goto 5, 3) := by decide +kernel
theorem dX5_say_36 : decode cX5_say 36 = .ok (.bipush (-4), 2) := by decide +kernel
theorem dX5_say_38 : decode cX5_say 38 = .ok (.ireturn, 1) := by decide +kernel
theorem dX5_wipe_0 : decode cX5_wipe 0 = .ok (.aload_n 0, 1) := by decide +kernel
theorem dX5_wipe_1 : decode cX5_wipe 1 = .ok (.getfield 14, 3) := by decide +kernel
theorem dX5_wipe_4 : decode cX5_wipe 4 = .ok (.invokevirtual 79, 3) := by decide +kernel
theorem dX5_wipe_7 : decode cX5_wipe 7 = .ok (.istore_n 1, 1) := by decide +kernel
theorem dX5_wipe_8 : decode cX5_wipe 8 = .ok (.aload_n 0, 1) := by decide +kernel
theorem dX5_wipe_9 : decode cX5_wipe 9 = .ok (.getfield 14, 3) := by decide +kernel
theorem dX5_wipe_12 : decode cX5_wipe 12 = .ok (.invokevirtual 83, 3) := by decide +kernel
theorem dX5_wipe_15 : decode cX5_wipe 15 = .ok (.iload_n 1, 1) := by decide +kernel
theorem dX5_wipe_16 : decode cX5_wipe 16 = .ok (.ireturn, 1) := by decide +kernel
theorem dX5_fault_0 : decode cX5_fault 0 = .ok (.aload_n 0, 1) := by decide +kernel
theorem dX5_fault_1 : decode cX5_fault 1 = .ok (.getfield 14, 3) := by decide +kernel
theorem dX5_fault_4 : decode cX5_fault 4 = .ok (.invokestatic 86, 3) := by decide +kernel
theorem dX5_fault_7 : decode cX5_fault 7 = .ok (.ireturn, 1) := by decide +kernel
theorem dX5_work_0 : decode cX5_work 0 = .ok (.aload_n 0, 1) := by decide +kernel
theorem dX5_work_1 : decode cX5_work 1 = .ok (.getfield 39, 3) := by decide +kernel
theorem dX5_work_4 : decode cX5_work 4 = .ok (.iload_n 1, 1) := by decide +kernel
theorem dX5_work_5 : decode cX5_work 5 = .ok (.invokevirtual 90, 3) := by decide +kernel
theorem dX5_work_8 : decode cX5_work 8 = .ok (.astore_n 2, 1) := by decide +kernel
theorem dX5_work_9 : decode cX5_work 9 = .ok (.aload_n 2, 1) := by decide +kernel
theorem dX5_work_10 : decode cX5_work 10 = .ok (.ifnonnull 5, 3) := by decide +kernel
theorem dX5_work_13 : decode cX5_work 13 = .ok (.iconst (-1), 1) := by decide +kernel
theorem dX5_work_14 : decode cX5_work 14 = .ok (.ireturn, 1) := by decide +kernel
theorem dX5_work_15 : decode cX5_work 15 = .ok (.aload_n 0, 1) := by decide +kernel
theorem dX5_work_16 : decode cX5_work 16 = .ok (.getfield 14, 3) := by decide +kernel
theorem dX5_work_19 : decode cX5_work 19 = .ok (.invokestatic 86, 3) := by decide +kernel
theorem dX5_work_22 : decode cX5_work 22 = .ok (.istore_n 3, 1) := by decide +kernel
theorem dX5_work_23 : decode cX5_work 23 = .ok (.iload_n 3, 1) := by decide +kernel
theorem dX5_work_24 : decode cX5_work 24 = .ok (.bipush (-6), 2) := by decide +kernel
theorem dX5_work_26 : decode cX5_work 26 = .ok (.if_icmp .eq 11, 3) := by decide +kernel
theorem dX5_work_29 : decode cX5_work 29 = .ok (.aload_n 0, 1) := by decide +kernel
theorem dX5_work_30 : decode cX5_work 30 = .ok (.iload_n 3, 1) := by decide +kernel
theorem dX5_work_31 : decode cX5_work 31 = .ok (.putfield 72, 3) := by decide +kernel
theorem dX5_work_34 : decode cX5_work 34 = .ok (.bipush (-7), 2) := by decide +kernel
theorem dX5_work_36 : decode cX5_work 36 = .ok (.ireturn, 1) := by decide +kernel
theorem dX5_work_37 : decode cX5_work 37 = .ok (.aload_n 0, 1) := by decide +kernel
theorem dX5_work_38 : decode cX5_work 38 = .ok (.getfield 50, 3) := by decide +kernel
theorem dX5_work_41 : decode cX5_work 41 = .ok (.aload_n 0, 1) := by decide +kernel
theorem dX5_work_42 : decode cX5_work 42 = .ok (.getfield 14, 3) := by decide +kernel
theorem dX5_work_45 : decode cX5_work 45 = .ok (.aload_n 0, 1) := by decide +kernel
theorem dX5_work_46 : decode cX5_work 46 = .ok (.getfield 18, 3) := by decide +kernel
theorem dX5_work_49 : decode cX5_work 49 = .ok (.invokevirtual 94, 3) := by decide +kernel
theorem dX5_work_52 : decode cX5_work 52 = .ok (.ifCond .ne 6, 3) := by decide +kernel
theorem dX5_work_55 : decode cX5_work 55 = .ok (.bipush (-4), 2) := by decide +kernel
theorem dX5_work_57 : decode cX5_work 57 = .ok (.ireturn, 1) := by decide +kernel
theorem dX5_work_58 : decode cX5_work 58 = .ok (.aload_n 2, 1) := by decide +kernel
theorem dX5_work_59 : decode cX5_work 59 = .ok (.aload_n 0, 1) := by decide +kernel
theorem dX5_work_60 : decode cX5_work 60 = .ok (.getfield 18, 3) := by decide +kernel
theorem dX5_work_63 : decode cX5_work 63 = .ok (.invokevirtual 98, 3) := by decide +kernel
theorem dX5_work_66 : decode cX5_work 66 = .ok (.aload_n 0, 1) := by decide +kernel
theorem dX5_work_67 : decode cX5_work 67 = .ok (.getfield 14, 3) := by decide +kernel
theorem dX5_work_70 : decode cX5_work 70 = .ok (.invokevirtual 83, 3) := by decide +kernel
theorem dX5_work_73 : decode cX5_work 73 = .ok (.aload_n 2, 1) := by decide +kernel
theorem dX5_work_74 : decode cX5_work 74 = .ok (.invokevirtual 79, 3) := by decide +kernel
theorem dX5_work_77 : decode cX5_work 77 = .ok (.ireturn, 1) := by decide +kernel
theorem dX5_join_0 : decode cX5_join 0 = .ok (.aload_n 0, 1) := by decide +kernel
theorem dX5_join_1 : decode cX5_join 1 = .ok (.getfield 39, 3) := by decide +kernel
theorem dX5_join_4 : decode cX5_join 4 = .ok (.iload_n 1, 1) := by decide +kernel
theorem dX5_join_5 : decode cX5_join 5 = .ok (.invokevirtual 90, 3) := by decide +kernel
theorem dX5_join_8 : decode cX5_join 8 = .ok (.astore 4, 2) := by decide +kernel
theorem dX5_join_10 : decode cX5_join 10 = .ok (.aload_n 0, 1) := by decide +kernel
theorem dX5_join_11 : decode cX5_join 11 = .ok (.getfield 39, 3) := by decide +kernel
theorem dX5_join_14 : decode cX5_join 14 = .ok (.iload_n 2, 1) := by decide +kernel
theorem dX5_join_15 : decode cX5_join 15 = .ok (.invokevirtual 90, 3) := by decide +kernel
theorem dX5_join_18 : decode cX5_join 18 = .ok (.astore 5, 2) := by decide +kernel
theorem dX5_join_20 : decode cX5_join 20 = .ok (.aload_n 0, 1) := by decide +kernel
theorem dX5_join_21 : decode cX5_join 21 = .ok (.getfield 39, 3) := by decide +kernel
theorem dX5_join_24 : decode cX5_join 24 = .ok (.iload_n 3, 1) := by decide +kernel
theorem dX5_join_25 : decode cX5_join 25 = .ok (.invokevirtual 90, 3) := by decide +kernel
theorem dX5_join_28 : decode cX5_join 28 = .ok (.astore 6, 2) := by decide +kernel
theorem dX5_join_30 : decode cX5_join 30 = .ok (.aload 4, 2) := by decide +kernel
theorem dX5_join_32 : decode cX5_join 32 = .ok (.ifnull 13, 3) := by decide +kernel
theorem dX5_join_35 : decode cX5_join 35 = .ok (.aload 5, 2) := by decide +kernel
theorem dX5_join_37 : decode cX5_join 37 = .ok (.ifnull 8, 3) := by decide +kernel
theorem dX5_join_40 : decode cX5_join 40 = .ok (.aload 6, 2) := by decide +kernel
theorem dX5_join_42 : decode cX5_join 42 = .ok (.ifnonnull 5, 3) := by decide +kernel
theorem dX5_join_45 : decode cX5_join 45 = .ok (.iconst (-1), 1) := by decide +kernel
theorem dX5_join_46 : decode cX5_join 46 = .ok (.ireturn, 1) := by decide +kernel
theorem dX5_join_47 : decode cX5_join 47 = .ok (.aload 5, 2) := by decide +kernel
theorem dX5_join_49 : decode cX5_join 49 = .ok (.invokevirtual 79, 3) := by decide +kernel
theorem dX5_join_52 : decode cX5_join 52 = .ok (.aload 6, 2) := by decide +kernel
theorem dX5_join_54 : decode cX5_join 54 = .ok (.invokevirtual 79, 3) := by decide +kernel
theorem dX5_join_57 : decode cX5_join 57 = .ok (.iadd, 1) := by decide +kernel
theorem dX5_join_58 : decode cX5_join 58 = .ok (.bipush 60, 2) := by decide +kernel
theorem dX5_join_60 : decode cX5_join 60 = .ok (.if_icmp .le 6, 3) := by decide +kernel
theorem dX5_join_63 : decode cX5_join 63 = .ok (.bipush (-4), 2) := by decide +kernel
theorem dX5_join_65 : decode cX5_join 65 = .ok (.ireturn, 1) := by decide +kernel
theorem dX5_join_66 : decode cX5_join 66 = .ok (.aload_n 0, 1) := by decide +kernel
theorem dX5_join_67 : decode cX5_join 67 = .ok (.getfield 18, 3) := by decide +kernel
theorem dX5_join_70 : decode cX5_join 70 = .ok (.aload 5, 2) := by decide +kernel
theorem dX5_join_72 : decode cX5_join 72 = .ok (.invokevirtual 98, 3) := by decide +kernel
theorem dX5_join_75 : decode cX5_join 75 = .ok (.aload_n 0, 1) := by decide +kernel
theorem dX5_join_76 : decode cX5_join 76 = .ok (.getfield 18, 3) := by decide +kernel
theorem dX5_join_79 : decode cX5_join 79 = .ok (.aload 6, 2) := by decide +kernel
theorem dX5_join_81 : decode cX5_join 81 = .ok (.invokevirtual 102, 3) := by decide +kernel
theorem dX5_join_84 : decode cX5_join 84 = .ok (.aload 4, 2) := by decide +kernel
theorem dX5_join_86 : decode cX5_join 86 = .ok (.aload_n 0, 1) := by decide +kernel
theorem dX5_join_87 : decode cX5_join 87 = .ok (.getfield 18, 3) := by decide +kernel
theorem dX5_join_90 : decode cX5_join 90 = .ok (.invokevirtual 98, 3) := by decide +kernel
theorem dX5_join_93 : decode cX5_join 93 = .ok (.aload 4, 2) := by decide +kernel
theorem dX5_join_95 : decode cX5_join 95 = .ok (.invokevirtual 79, 3) := by decide +kernel
theorem dX5_join_98 : decode cX5_join 98 = .ok (.ireturn, 1) := by decide +kernel
theorem dX5_undone_0 : decode cX5_undone 0 = .ok (.aload_n 0, 1) := by decide +kernel
theorem dX5_undone_1 : decode cX5_undone 1 = .ok (.getfield 39, 3) := by decide +kernel
theorem dX5_undone_4 : decode cX5_undone 4 = .ok (.iload_n 1, 1) := by decide +kernel
theorem dX5_undone_5 : decode cX5_undone 5 = .ok (.invokevirtual 90, 3) := by decide +kernel
theorem dX5_undone_8 : decode cX5_undone 8 = .ok (.astore_n 3, 1) := by decide +kernel
theorem dX5_undone_9 : decode cX5_undone 9 = .ok (.aload_n 0, 1) := by decide +kernel
theorem dX5_undone_10 : decode cX5_undone 10 = .ok (.getfield 39, 3) := by decide +kernel
theorem dX5_undone_13 : decode cX5_undone 13 = .ok (.iload_n 2, 1) := by decide +kernel
theorem dX5_undone_14 : decode cX5_undone 14 = .ok (.invokevirtual 90, 3) := by decide +kernel
theorem dX5_undone_17 : decode cX5_undone 17 = .ok (.astore 4, 2) := by decide +kernel
theorem dX5_undone_19 : decode cX5_undone 19 = .ok (.aload_n 3, 1) := by decide +kernel
theorem dX5_undone_20 : decode cX5_undone 20 = .ok (.ifnull 8, 3) := by decide +kernel
theorem dX5_undone_23 : decode cX5_undone 23 = .ok (.aload 4, 2) := by decide +kernel
theorem dX5_undone_25 : decode cX5_undone 25 = .ok (.ifnonnull 5, 3) := by decide +kernel
theorem dX5_undone_28 : decode cX5_undone 28 = .ok (.iconst (-1), 1) := by decide +kernel
theorem dX5_undone_29 : decode cX5_undone 29 = .ok (.ireturn, 1) := by decide +kernel
theorem dX5_undone_30 : decode cX5_undone 30 = .ok (.aload_n 0, 1) := by decide +kernel
theorem dX5_undone_31 : decode cX5_undone 31 = .ok (.getfield 18, 3) := by decide +kernel
theorem dX5_undone_34 : decode cX5_undone 34 = .ok (.invokevirtual 83, 3) := by decide +kernel
theorem dX5_undone_37 : decode cX5_undone 37 = .ok (.aload 4, 2) := by decide +kernel
theorem dX5_undone_39 : decode cX5_undone 39 = .ok (.invokevirtual 79, 3) := by decide +kernel
theorem dX5_undone_42 : decode cX5_undone 42 = .ok (.iconst 1, 1) := by decide +kernel
theorem dX5_undone_43 : decode cX5_undone 43 = .ok (.isub, 1) := by decide +kernel
theorem dX5_undone_44 : decode cX5_undone 44 = .ok (.istore 5, 2) := by decide +kernel
theorem dX5_undone_46 : decode cX5_undone 46 = .ok (.iload 5, 2) := by decide +kernel
theorem dX5_undone_48 : decode cX5_undone 48 = .ok (.ifCond .lt 27, 3) := by decide +kernel
theorem dX5_undone_51 : decode cX5_undone 51 = .ok (.aload_n 0, 1) := by decide +kernel
theorem dX5_undone_52 : decode cX5_undone 52 = .ok (.getfield 18, 3) := by decide +kernel
theorem dX5_undone_55 : decode cX5_undone 55 = .ok (.aload 4, 2) := by decide +kernel
theorem dX5_undone_57 : decode cX5_undone 57 = .ok (.iload 5, 2) := by decide +kernel
theorem dX5_undone_59 : decode cX5_undone 59 = .ok (.invokevirtual 105, 3) := by decide +kernel
theorem dX5_undone_62 : decode cX5_undone 62 = .ok (.invokestatic 109, 3) := by decide +kernel
theorem dX5_undone_65 : decode cX5_undone 65 = .ok (.invokevirtual 75, 3) := by decide +kernel
theorem dX5_undone_68 : decode cX5_undone 68 = .ok (.pop, 1) := by decide +kernel
theorem dX5_undone_69 : decode cX5_undone 69 = .ok (.iinc 5 (-1), 3) := by decide +kernel
theorem dX5_undone_72 : decode cX5_undone 72 = .ok (.goto (-26), 3) := by decide +kernel
theorem dX5_undone_75 : decode cX5_undone 75 = .ok (.aload_n 3, 1) := by decide +kernel
theorem dX5_undone_76 : decode cX5_undone 76 = .ok (.aload_n 0, 1) := by decide +kernel
theorem dX5_undone_77 : decode cX5_undone 77 = .ok (.getfield 18, 3) := by decide +kernel
theorem dX5_undone_80 : decode cX5_undone 80 = .ok (.invokevirtual 98, 3) := by decide +kernel
theorem dX5_undone_83 : decode cX5_undone 83 = .ok (.aload_n 3, 1) := by decide +kernel
theorem dX5_undone_84 : decode cX5_undone 84 = .ok (.invokevirtual 79, 3) := by decide +kernel
theorem dX5_undone_87 : decode cX5_undone 87 = .ok (.ireturn, 1) := by decide +kernel
theorem dX5_step_0 : decode cX5_step 0 = .ok (.aload_n 0, 1) := by decide +kernel
theorem dX5_step_1 : decode cX5_step 1 = .ok (.getfield 39, 3) := by decide +kernel
theorem dX5_step_4 : decode cX5_step 4 = .ok (.iload_n 1, 1) := by decide +kernel
theorem dX5_step_5 : decode cX5_step 5 = .ok (.invokevirtual 90, 3) := by decide +kernel
theorem dX5_step_8 : decode cX5_step 8 = .ok (.astore 4, 2) := by decide +kernel
theorem dX5_step_10 : decode cX5_step 10 = .ok (.aload 4, 2) := by decide +kernel
theorem dX5_step_12 : decode cX5_step 12 = .ok (.ifnonnull 5, 3) := by decide +kernel
theorem dX5_step_15 : decode cX5_step 15 = .ok (.iconst (-1), 1) := by decide +kernel
theorem dX5_step_16 : decode cX5_step 16 = .ok (.ireturn, 1) := by decide +kernel
theorem dX5_step_17 : decode cX5_step 17 = .ok (.iload_n 2, 1) := by decide +kernel
theorem dX5_step_18 : decode cX5_step 18 = .ok (.iconst (-1), 1) := by decide +kernel
theorem dX5_step_19 : decode cX5_step 19 = .ok (.if_icmp .lt 12, 3) := by decide +kernel
theorem dX5_step_22 : decode cX5_step 22 = .ok (.iload_n 3, 1) := by decide +kernel
theorem dX5_step_23 : decode cX5_step 23 = .ok (.ifCond .lt 8, 3) := by decide +kernel
theorem dX5_step_26 : decode cX5_step 26 = .ok (.iload_n 3, 1) := by decide +kernel
theorem dX5_step_27 : decode cX5_step 27 = .ok (.iconst 1, 1) := by decide +kernel
theorem dX5_step_28 : decode cX5_step 28 = .ok (.if_icmp .le 6, 3) := by decide +kernel
theorem dX5_step_31 : decode cX5_step 31 = .ok (.bipush (-2), 2) := by decide +kernel
theorem dX5_step_33 : decode cX5_step 33 = .ok (.ireturn, 1) := by decide +kernel
theorem dX5_step_34 : decode cX5_step 34 = .ok (.iload_n 2, 1) := by decide +kernel
theorem dX5_step_35 : decode cX5_step 35 = .ok (.iconst (-1), 1) := by decide +kernel
theorem dX5_step_36 : decode cX5_step 36 = .ok (.if_icmp .ne 9, 3) := by decide +kernel
theorem dX5_step_39 : decode cX5_step 39 = .ok (.aload 4, 2) := by decide +kernel
theorem dX5_step_41 : decode cX5_step 41 = .ok (.invokevirtual 79, 3) := by decide +kernel
theorem dX5_step_44 : decode cX5_step 44 = .ok (.ireturn, 1) := by decide +kernel
theorem dX5_step_45 : decode cX5_step 45 = .ok (.iload_n 2, 1) := by decide +kernel
theorem dX5_step_46 : decode cX5_step 46 = .ok (.aload 4, 2) := by decide +kernel
theorem dX5_step_48 : decode cX5_step 48 = .ok (.invokevirtual 79, 3) := by decide +kernel
theorem dX5_step_51 : decode cX5_step 51 = .ok (.if_icmp .lt 6, 3) := by decide +kernel
theorem dX5_step_54 : decode cX5_step 54 = .ok (.bipush (-6), 2) := by decide +kernel
theorem dX5_step_56 : decode cX5_step 56 = .ok (.ireturn, 1) := by decide +kernel
theorem dX5_step_57 : decode cX5_step 57 = .ok (.iload_n 3, 1) := by decide +kernel
theorem dX5_step_58 : decode cX5_step 58 = .ok (.ifCond .ne 15, 3) := by decide +kernel
theorem dX5_step_61 : decode cX5_step 61 = .ok (.aload 4, 2) := by decide +kernel
theorem dX5_step_63 : decode cX5_step 63 = .ok (.iload_n 2, 1) := by decide +kernel
theorem dX5_step_64 : decode cX5_step 64 = .ok (.invokevirtual 105, 3) := by decide +kernel
theorem dX5_step_67 : decode cX5_step 67 = .ok (.invokestatic 112, 3) := by decide +kernel
theorem dX5_step_70 : decode cX5_step 70 = .ok (.goto 12, 3) := by decide +kernel
theorem dX5_step_73 : decode cX5_step 73 = .ok (.aload 4, 2) := by decide +kernel
theorem dX5_step_75 : decode cX5_step 75 = .ok (.iload_n 2, 1) := by decide +kernel
theorem dX5_step_76 : decode cX5_step 76 = .ok (.invokevirtual 105, 3) := by decide +kernel
theorem dX5_step_79 : decode cX5_step 79 = .ok (.invokestatic 115, 3) := by decide +kernel
theorem dX5_step_82 : decode cX5_step 82 = .ok (.ireturn, 1) := by decide +kernel
theorem dX5_written_0 : decode cX5_written 0 = .ok (.aload_n 0, 1) := by decide +kernel
theorem dX5_written_1 : decode cX5_written 1 = .ok (.getfield 39, 3) := by decide +kernel
theorem dX5_written_4 : decode cX5_written 4 = .ok (.iload_n 1, 1) := by decide +kernel
theorem dX5_written_5 : decode cX5_written 5 = .ok (.invokevirtual 90, 3) := by decide +kernel
theorem dX5_written_8 : decode cX5_written 8 = .ok (.astore_n 3, 1) := by decide +kernel
theorem dX5_written_9 : decode cX5_written 9 = .ok (.aload_n 3, 1) := by decide +kernel
theorem dX5_written_10 : decode cX5_written 10 = .ok (.ifnonnull 5, 3) := by decide +kernel
theorem dX5_written_13 : decode cX5_written 13 = .ok (.iconst (-1), 1) := by decide +kernel
theorem dX5_written_14 : decode cX5_written 14 = .ok (.ireturn, 1) := by decide +kernel
theorem dX5_written_15 : decode cX5_written 15 = .ok (.iload_n 2, 1) := by decide +kernel
theorem dX5_written_16 : decode cX5_written 16 = .ok (.iconst (-1), 1) := by decide +kernel
theorem dX5_written_17 : decode cX5_written 17 = .ok (.if_icmp .ge 6, 3) := by decide +kernel
theorem dX5_written_20 : decode cX5_written 20 = .ok (.bipush (-2), 2) := by decide +kernel
theorem dX5_written_22 : decode cX5_written 22 = .ok (.ireturn, 1) := by decide +kernel
theorem dX5_written_23 : decode cX5_written 23 = .ok (.aload_n 0, 1) := by decide +kernel
theorem dX5_written_24 : decode cX5_written 24 = .ok (.aload_n 3, 1) := by decide +kernel
theorem dX5_written_25 : decode cX5_written 25 = .ok (.invokevirtual 118, 3) := by decide +kernel
theorem dX5_written_28 : decode cX5_written 28 = .ok (.aload_n 0, 1) := by decide +kernel
theorem dX5_written_29 : decode cX5_written 29 = .ok (.getfield 21, 3) := by decide +kernel
theorem dX5_written_32 : decode cX5_written 32 = .ok (.iload_n 2, 1) := by decide +kernel
theorem dX5_written_33 : decode cX5_written 33 = .ok (.invokestatic 121, 3) := by decide +kernel
theorem dX5_written_36 : decode cX5_written 36 = .ok (.ireturn, 1) := by decide +kernel
theorem dX5_at_0 : decode cX5_at 0 = .ok (.aload_n 0, 1) := by decide +kernel
theorem dX5_at_1 : decode cX5_at 1 = .ok (.getfield 39, 3) := by decide +kernel
theorem dX5_at_4 : decode cX5_at 4 = .ok (.iload_n 1, 1) := by decide +kernel
theorem dX5_at_5 : decode cX5_at 5 = .ok (.invokevirtual 90, 3) := by decide +kernel
theorem dX5_at_8 : decode cX5_at 8 = .ok (.astore 4, 2) := by decide +kernel
theorem dX5_at_10 : decode cX5_at 10 = .ok (.aload 4, 2) := by decide +kernel
theorem dX5_at_12 : decode cX5_at 12 = .ok (.ifnonnull 5, 3) := by decide +kernel
theorem dX5_at_15 : decode cX5_at 15 = .ok (.iconst (-1), 1) := by decide +kernel
theorem dX5_at_16 : decode cX5_at 16 = .ok (.ireturn, 1) := by decide +kernel
theorem dX5_at_17 : decode cX5_at 17 = .ok (.iload_n 2, 1) := by decide +kernel
theorem dX5_at_18 : decode cX5_at 18 = .ok (.ifCond .lt 19, 3) := by decide +kernel
theorem dX5_at_21 : decode cX5_at 21 = .ok (.iload_n 2, 1) := by decide +kernel
theorem dX5_at_22 : decode cX5_at 22 = .ok (.aload 4, 2) := by decide +kernel
theorem dX5_at_24 : decode cX5_at 24 = .ok (.invokevirtual 79, 3) := by decide +kernel
theorem dX5_at_27 : decode cX5_at 27 = .ok (.if_icmp .gt 10, 3) := by decide +kernel
theorem dX5_at_30 : decode cX5_at 30 = .ok (.iload_n 3, 1) := by decide +kernel
theorem dX5_at_31 : decode cX5_at 31 = .ok (.invokestatic 125, 3) := by decide +kernel
theorem dX5_at_34 : decode cX5_at 34 = .ok (.ifCond .ne 6, 3) := by decide +kernel
theorem dX5_at_37 : decode cX5_at 37 = .ok (.bipush (-2), 2) := by decide +kernel
theorem dX5_at_39 : decode cX5_at 39 = .ok (.ireturn, 1) := by decide +kernel
theorem dX5_at_40 : decode cX5_at 40 = .ok (.aload_n 0, 1) := by decide +kernel
theorem dX5_at_41 : decode cX5_at 41 = .ok (.aload 4, 2) := by decide +kernel
theorem dX5_at_43 : decode cX5_at 43 = .ok (.iload_n 2, 1) := by decide +kernel
theorem dX5_at_44 : decode cX5_at 44 = .ok (.invokevirtual 128, 3) := by decide +kernel
theorem dX5_at_47 : decode cX5_at 47 = .ok (.aload_n 0, 1) := by decide +kernel
theorem dX5_at_48 : decode cX5_at 48 = .ok (.getfield 64, 3) := by decide +kernel
theorem dX5_at_51 : decode cX5_at 51 = .ok (.aload_n 0, 1) := by decide +kernel
theorem dX5_at_52 : decode cX5_at 52 = .ok (.getfield 24, 3) := by decide +kernel
theorem dX5_at_55 : decode cX5_at 55 = .ok (.invokevirtual 132, 3) := by decide +kernel
theorem dX5_at_58 : decode cX5_at 58 = .ok (.aload_n 0, 1) := by decide +kernel
theorem dX5_at_59 : decode cX5_at 59 = .ok (.getfield 64, 3) := by decide +kernel
theorem dX5_at_62 : decode cX5_at 62 = .ok (.iload_n 3, 1) := by decide +kernel
theorem dX5_at_63 : decode cX5_at 63 = .ok (.invokevirtual 135, 3) := by decide +kernel
theorem dX5_at_66 : decode cX5_at 66 = .ok (.ireturn, 1) := by decide +kernel
theorem dX5_met_0 : decode cX5_met 0 = .ok (.aload_n 0, 1) := by decide +kernel
theorem dX5_met_1 : decode cX5_met 1 = .ok (.getfield 39, 3) := by decide +kernel
theorem dX5_met_4 : decode cX5_met 4 = .ok (.iload_n 1, 1) := by decide +kernel
theorem dX5_met_5 : decode cX5_met 5 = .ok (.invokevirtual 90, 3) := by decide +kernel
theorem dX5_met_8 : decode cX5_met 8 = .ok (.astore 5, 2) := by decide +kernel
theorem dX5_met_10 : decode cX5_met 10 = .ok (.aload 5, 2) := by decide +kernel
theorem dX5_met_12 : decode cX5_met 12 = .ok (.ifnonnull 5, 3) := by decide +kernel
theorem dX5_met_15 : decode cX5_met 15 = .ok (.iconst (-1), 1) := by decide +kernel
theorem dX5_met_16 : decode cX5_met 16 = .ok (.ireturn, 1) := by decide +kernel
theorem dX5_met_17 : decode cX5_met 17 = .ok (.iload_n 2, 1) := by decide +kernel
theorem dX5_met_18 : decode cX5_met 18 = .ok (.invokestatic 125, 3) := by decide +kernel
theorem dX5_met_21 : decode cX5_met 21 = .ok (.ifCond .eq 26, 3) := by decide +kernel
theorem dX5_met_24 : decode cX5_met 24 = .ok (.iload_n 3, 1) := by decide +kernel
theorem dX5_met_25 : decode cX5_met 25 = .ok (.invokestatic 125, 3) := by decide +kernel
theorem dX5_met_28 : decode cX5_met 28 = .ok (.ifCond .eq 19, 3) := by decide +kernel
theorem dX5_met_31 : decode cX5_met 31 = .ok (.iload_n 2, 1) := by decide +kernel
theorem dX5_met_32 : decode cX5_met 32 = .ok (.iload_n 3, 1) := by decide +kernel
theorem dX5_met_33 : decode cX5_met 33 = .ok (.if_icmp .eq 14, 3) := by decide +kernel
theorem dX5_met_36 : decode cX5_met 36 = .ok (.iload 4, 2) := by decide +kernel
theorem dX5_met_38 : decode cX5_met 38 = .ok (.ifCond .lt 9, 3) := by decide +kernel
theorem dX5_met_41 : decode cX5_met 41 = .ok (.iload 4, 2) := by decide +kernel
theorem dX5_met_43 : decode cX5_met 43 = .ok (.iconst 2, 1) := by decide +kernel
theorem dX5_met_44 : decode cX5_met 44 = .ok (.if_icmp .le 6, 3) := by decide +kernel
theorem dX5_met_47 : decode cX5_met 47 = .ok (.bipush (-2), 2) := by decide +kernel
theorem dX5_met_49 : decode cX5_met 49 = .ok (.ireturn, 1) := by decide +kernel
theorem dX5_met_50 : decode cX5_met 50 = .ok (.aload_n 0, 1) := by decide +kernel
theorem dX5_met_51 : decode cX5_met 51 = .ok (.aload 5, 2) := by decide +kernel
theorem dX5_met_53 : decode cX5_met 53 = .ok (.aload 5, 2) := by decide +kernel
theorem dX5_met_55 : decode cX5_met 55 = .ok (.invokevirtual 79, 3) := by decide +kernel
theorem dX5_met_58 : decode cX5_met 58 = .ok (.invokevirtual 128, 3) := by decide +kernel
theorem dX5_met_61 : decode cX5_met 61 = .ok (.aload_n 0, 1) := by decide +kernel
theorem dX5_met_62 : decode cX5_met 62 = .ok (.iload_n 2, 1) := by decide +kernel
theorem dX5_met_63 : decode cX5_met 63 = .ok (.iload_n 3, 1) := by decide +kernel
theorem dX5_met_64 : decode cX5_met 64 = .ok (.iload 4, 2) := by decide +kernel
theorem dX5_met_66 : decode cX5_met 66 = .ok (.invokevirtual 138, 3) := by decide +kernel
theorem dX5_met_69 : decode cX5_met 69 = .ok (.ireturn, 1) := by decide +kernel
theorem dX5_told_0 : decode cX5_told 0 = .ok (.aload_n 0, 1) := by decide +kernel
theorem dX5_told_1 : decode cX5_told 1 = .ok (.getfield 39, 3) := by decide +kernel
theorem dX5_told_4 : decode cX5_told 4 = .ok (.iload_n 1, 1) := by decide +kernel
theorem dX5_told_5 : decode cX5_told 5 = .ok (.invokevirtual 90, 3) := by decide +kernel
theorem dX5_told_8 : decode cX5_told 8 = .ok (.astore_n 3, 1) := by decide +kernel
theorem dX5_told_9 : decode cX5_told 9 = .ok (.aload_n 3, 1) := by decide +kernel
theorem dX5_told_10 : decode cX5_told 10 = .ok (.ifnonnull 5, 3) := by decide +kernel
theorem dX5_told_13 : decode cX5_told 13 = .ok (.iconst (-1), 1) := by decide +kernel
theorem dX5_told_14 : decode cX5_told 14 = .ok (.ireturn, 1) := by decide +kernel
theorem dX5_told_15 : decode cX5_told 15 = .ok (.aload_n 0, 1) := by decide +kernel
theorem dX5_told_16 : decode cX5_told 16 = .ok (.aload_n 3, 1) := by decide +kernel
theorem dX5_told_17 : decode cX5_told 17 = .ok (.aload_n 3, 1) := by decide +kernel
theorem dX5_told_18 : decode cX5_told 18 = .ok (.invokevirtual 79, 3) := by decide +kernel
theorem dX5_told_21 : decode cX5_told 21 = .ok (.invokevirtual 128, 3) := by decide +kernel
theorem dX5_told_24 : decode cX5_told 24 = .ok (.aload_n 0, 1) := by decide +kernel
theorem dX5_told_25 : decode cX5_told 25 = .ok (.getfield 64, 3) := by decide +kernel
theorem dX5_told_28 : decode cX5_told 28 = .ok (.aload_n 0, 1) := by decide +kernel
theorem dX5_told_29 : decode cX5_told 29 = .ok (.getfield 24, 3) := by decide +kernel
theorem dX5_told_32 : decode cX5_told 32 = .ok (.invokevirtual 132, 3) := by decide +kernel
theorem dX5_told_35 : decode cX5_told 35 = .ok (.iload_n 2, 1) := by decide +kernel
theorem dX5_told_36 : decode cX5_told 36 = .ok (.tableswitch 79 0 5 #[40, 45, 53, 58, 66, 74], 40) := by decide +kernel
theorem dX5_told_76 : decode cX5_told 76 = .ok (.aload_n 3, 1) := by decide +kernel
theorem dX5_told_77 : decode cX5_told 77 = .ok (.invokevirtual 79, 3) := by decide +kernel
theorem dX5_told_80 : decode cX5_told 80 = .ok (.ireturn, 1) := by decide +kernel
theorem dX5_told_81 : decode cX5_told 81 = .ok (.aload_n 0, 1) := by decide +kernel
theorem dX5_told_82 : decode cX5_told 82 = .ok (.getfield 24, 3) := by decide +kernel
theorem dX5_told_85 : decode cX5_told 85 = .ok (.invokevirtual 79, 3) := by decide +kernel
theorem dX5_told_88 : decode cX5_told 88 = .ok (.ireturn, 1) := by decide +kernel
theorem dX5_told_89 : decode cX5_told 89 = .ok (.aload_n 3, 1) := by decide +kernel
theorem dX5_told_90 : decode cX5_told 90 = .ok (.invokestatic 142, 3) := by decide +kernel
theorem dX5_told_93 : decode cX5_told 93 = .ok (.ireturn, 1) := by decide +kernel
theorem dX5_told_94 : decode cX5_told 94 = .ok (.aload_n 0, 1) := by decide +kernel
theorem dX5_told_95 : decode cX5_told 95 = .ok (.getfield 64, 3) := by decide +kernel
theorem dX5_told_98 : decode cX5_told 98 = .ok (.invokevirtual 145, 3) := by decide +kernel
theorem dX5_told_101 : decode cX5_told 101 = .ok (.ireturn, 1) := by decide +kernel
theorem dX5_told_102 : decode cX5_told 102 = .ok (.aload_n 0, 1) := by decide +kernel
theorem dX5_told_103 : decode cX5_told 103 = .ok (.getfield 64, 3) := by decide +kernel
theorem dX5_told_106 : decode cX5_told 106 = .ok (.invokevirtual 148, 3) := by decide +kernel
theorem dX5_told_109 : decode cX5_told 109 = .ok (.ireturn, 1) := by decide +kernel
theorem dX5_told_110 : decode cX5_told 110 = .ok (.aload_n 0, 1) := by decide +kernel
theorem dX5_told_111 : decode cX5_told 111 = .ok (.invokevirtual 151, 3) := by decide +kernel
theorem dX5_told_114 : decode cX5_told 114 = .ok (.ireturn, 1) := by decide +kernel
theorem dX5_told_115 : decode cX5_told 115 = .ok (.bipush (-2), 2) := by decide +kernel
theorem dX5_told_117 : decode cX5_told 117 = .ok (.ireturn, 1) := by decide +kernel
theorem dX5_pin_0 : decode cX5_pin 0 = .ok (.aload_n 0, 1) := by decide +kernel
theorem dX5_pin_1 : decode cX5_pin 1 = .ok (.getfield 39, 3) := by decide +kernel
theorem dX5_pin_4 : decode cX5_pin 4 = .ok (.iload_n 1, 1) := by decide +kernel
theorem dX5_pin_5 : decode cX5_pin 5 = .ok (.invokevirtual 90, 3) := by decide +kernel
theorem dX5_pin_8 : decode cX5_pin 8 = .ok (.astore 4, 2) := by decide +kernel
theorem dX5_pin_10 : decode cX5_pin 10 = .ok (.aload 4, 2) := by decide +kernel
theorem dX5_pin_12 : decode cX5_pin 12 = .ok (.ifnonnull 5, 3) := by decide +kernel
theorem dX5_pin_15 : decode cX5_pin 15 = .ok (.iconst (-1), 1) := by decide +kernel
theorem dX5_pin_16 : decode cX5_pin 16 = .ok (.ireturn, 1) := by decide +kernel
theorem dX5_pin_17 : decode cX5_pin 17 = .ok (.iload_n 3, 1) := by decide +kernel
theorem dX5_pin_18 : decode cX5_pin 18 = .ok (.ifCond .lt 8, 3) := by decide +kernel
theorem dX5_pin_21 : decode cX5_pin 21 = .ok (.iload_n 3, 1) := by decide +kernel
theorem dX5_pin_22 : decode cX5_pin 22 = .ok (.iconst 3, 1) := by decide +kernel
theorem dX5_pin_23 : decode cX5_pin 23 = .ok (.if_icmp .le 6, 3) := by decide +kernel
theorem dX5_pin_26 : decode cX5_pin 26 = .ok (.bipush (-2), 2) := by decide +kernel
theorem dX5_pin_28 : decode cX5_pin 28 = .ok (.ireturn, 1) := by decide +kernel
theorem dX5_pin_29 : decode cX5_pin 29 = .ok (.aload 4, 2) := by decide +kernel
theorem dX5_pin_31 : decode cX5_pin 31 = .ok (.iload_n 2, 1) := by decide +kernel
theorem dX5_pin_32 : decode cX5_pin 32 = .ok (.invokestatic 154, 3) := by decide +kernel
theorem dX5_pin_35 : decode cX5_pin 35 = .ok (.istore 5, 2) := by decide +kernel
theorem dX5_pin_37 : decode cX5_pin 37 = .ok (.iload 5, 2) := by decide +kernel
theorem dX5_pin_39 : decode cX5_pin 39 = .ok (.bipush (-6), 2) := by decide +kernel
theorem dX5_pin_41 : decode cX5_pin 41 = .ok (.if_icmp .eq 7, 3) := by decide +kernel
theorem dX5_pin_44 : decode cX5_pin 44 = .ok (.iload_n 3, 1) := by decide +kernel
theorem dX5_pin_45 : decode cX5_pin 45 = .ok (.ifCond .ne 6, 3) := by decide +kernel
theorem dX5_pin_48 : decode cX5_pin 48 = .ok (.iload 5, 2) := by decide +kernel
theorem dX5_pin_50 : decode cX5_pin 50 = .ok (.ireturn, 1) := by decide +kernel
theorem dX5_pin_51 : decode cX5_pin 51 = .ok (.aload 4, 2) := by decide +kernel
theorem dX5_pin_53 : decode cX5_pin 53 = .ok (.iload 5, 2) := by decide +kernel
theorem dX5_pin_55 : decode cX5_pin 55 = .ok (.invokevirtual 105, 3) := by decide +kernel
theorem dX5_pin_58 : decode cX5_pin 58 = .ok (.invokestatic 115, 3) := by decide +kernel
theorem dX5_pin_61 : decode cX5_pin 61 = .ok (.istore 6, 2) := by decide +kernel
theorem dX5_pin_63 : decode cX5_pin 63 = .ok (.iload_n 3, 1) := by decide +kernel
theorem dX5_pin_64 : decode cX5_pin 64 = .ok (.iconst 1, 1) := by decide +kernel
theorem dX5_pin_65 : decode cX5_pin 65 = .ok (.if_icmp .ne 6, 3) := by decide +kernel
theorem dX5_pin_68 : decode cX5_pin 68 = .ok (.iload 6, 2) := by decide +kernel
theorem dX5_pin_70 : decode cX5_pin 70 = .ok (.ireturn, 1) := by decide +kernel
theorem dX5_pin_71 : decode cX5_pin 71 = .ok (.aload_n 0, 1) := by decide +kernel
theorem dX5_pin_72 : decode cX5_pin 72 = .ok (.aload 4, 2) := by decide +kernel
theorem dX5_pin_74 : decode cX5_pin 74 = .ok (.iload 5, 2) := by decide +kernel
theorem dX5_pin_76 : decode cX5_pin 76 = .ok (.invokevirtual 128, 3) := by decide +kernel
theorem dX5_pin_79 : decode cX5_pin 79 = .ok (.aload_n 0, 1) := by decide +kernel
theorem dX5_pin_80 : decode cX5_pin 80 = .ok (.getfield 64, 3) := by decide +kernel
theorem dX5_pin_83 : decode cX5_pin 83 = .ok (.aload_n 0, 1) := by decide +kernel
theorem dX5_pin_84 : decode cX5_pin 84 = .ok (.getfield 24, 3) := by decide +kernel
theorem dX5_pin_87 : decode cX5_pin 87 = .ok (.invokevirtual 132, 3) := by decide +kernel
theorem dX5_pin_90 : decode cX5_pin 90 = .ok (.aload_n 0, 1) := by decide +kernel
theorem dX5_pin_91 : decode cX5_pin 91 = .ok (.getfield 64, 3) := by decide +kernel
theorem dX5_pin_94 : decode cX5_pin 94 = .ok (.iconst 2, 1) := by decide +kernel
theorem dX5_pin_95 : decode cX5_pin 95 = .ok (.iload 6, 2) := by decide +kernel
theorem dX5_pin_97 : decode cX5_pin 97 = .ok (.imul, 1) := by decide +kernel
theorem dX5_pin_98 : decode cX5_pin 98 = .ok (.iload_n 3, 1) := by decide +kernel
theorem dX5_pin_99 : decode cX5_pin 99 = .ok (.iconst 2, 1) := by decide +kernel
theorem dX5_pin_100 : decode cX5_pin 100 = .ok (.if_icmp .ne 7, 3) := by decide +kernel
theorem dX5_pin_103 : decode cX5_pin 103 = .ok (.iconst 1, 1) := by decide +kernel
theorem dX5_pin_104 : decode cX5_pin 104 = .ok (.goto 4, 3) := by decide +kernel
theorem dX5_pin_107 : decode cX5_pin 107 = .ok (.iconst 2, 1) := by decide +kernel
theorem dX5_pin_108 : decode cX5_pin 108 = .ok (.iadd, 1) := by decide +kernel
theorem dX5_pin_109 : decode cX5_pin 109 = .ok (.invokevirtual 135, 3) := by decide +kernel
theorem dX5_pin_112 : decode cX5_pin 112 = .ok (.ireturn, 1) := by decide +kernel
theorem dX5_letter_0 : decode cX5_letter 0 = .ok (.aload_n 0, 1) := by decide +kernel
theorem dX5_letter_1 : decode cX5_letter 1 = .ok (.getfield 39, 3) := by decide +kernel
theorem dX5_letter_4 : decode cX5_letter 4 = .ok (.iload_n 1, 1) := by decide +kernel
theorem dX5_letter_5 : decode cX5_letter 5 = .ok (.invokevirtual 90, 3) := by decide +kernel
theorem dX5_letter_8 : decode cX5_letter 8 = .ok (.astore_n 3, 1) := by decide +kernel
theorem dX5_letter_9 : decode cX5_letter 9 = .ok (.aload_n 3, 1) := by decide +kernel
theorem dX5_letter_10 : decode cX5_letter 10 = .ok (.ifnonnull 5, 3) := by decide +kernel
theorem dX5_letter_13 : decode cX5_letter 13 = .ok (.iconst (-1), 1) := by decide +kernel
theorem dX5_letter_14 : decode cX5_letter 14 = .ok (.ireturn, 1) := by decide +kernel
theorem dX5_letter_15 : decode cX5_letter 15 = .ok (.iload_n 2, 1) := by decide +kernel
theorem dX5_letter_16 : decode cX5_letter 16 = .ok (.iconst (-1), 1) := by decide +kernel
theorem dX5_letter_17 : decode cX5_letter 17 = .ok (.if_icmp .ge 6, 3) := by decide +kernel
theorem dX5_letter_20 : decode cX5_letter 20 = .ok (.bipush (-2), 2) := by decide +kernel
theorem dX5_letter_22 : decode cX5_letter 22 = .ok (.ireturn, 1) := by decide +kernel
theorem dX5_letter_23 : decode cX5_letter 23 = .ok (.aload_n 0, 1) := by decide +kernel
theorem dX5_letter_24 : decode cX5_letter 24 = .ok (.aload_n 3, 1) := by decide +kernel
theorem dX5_letter_25 : decode cX5_letter 25 = .ok (.aload_n 3, 1) := by decide +kernel
theorem dX5_letter_26 : decode cX5_letter 26 = .ok (.invokevirtual 79, 3) := by decide +kernel
theorem dX5_letter_29 : decode cX5_letter 29 = .ok (.invokevirtual 128, 3) := by decide +kernel
theorem dX5_letter_32 : decode cX5_letter 32 = .ok (.aload_n 0, 1) := by decide +kernel
theorem dX5_letter_33 : decode cX5_letter 33 = .ok (.getfield 24, 3) := by decide +kernel
theorem dX5_letter_36 : decode cX5_letter 36 = .ok (.iload_n 2, 1) := by decide +kernel
theorem dX5_letter_37 : decode cX5_letter 37 = .ok (.invokestatic 121, 3) := by decide +kernel
theorem dX5_letter_40 : decode cX5_letter 40 = .ok (.ireturn, 1) := by decide +kernel
theorem dX5_shortest_0 : decode cX5_shortest 0 = .ok (.aload_n 0, 1) := by decide +kernel
theorem dX5_shortest_1 : decode cX5_shortest 1 = .ok (.getfield 39, 3) := by decide +kernel
theorem dX5_shortest_4 : decode cX5_shortest 4 = .ok (.iload_n 1, 1) := by decide +kernel
theorem dX5_shortest_5 : decode cX5_shortest 5 = .ok (.invokevirtual 90, 3) := by decide +kernel
theorem dX5_shortest_8 : decode cX5_shortest 8 = .ok (.astore_n 3, 1) := by decide +kernel
theorem dX5_shortest_9 : decode cX5_shortest 9 = .ok (.aload_n 3, 1) := by decide +kernel
theorem dX5_shortest_10 : decode cX5_shortest 10 = .ok (.ifnonnull 5, 3) := by decide +kernel
theorem dX5_shortest_13 : decode cX5_shortest 13 = .ok (.iconst (-1), 1) := by decide +kernel
theorem dX5_shortest_14 : decode cX5_shortest 14 = .ok (.ireturn, 1) := by decide +kernel
theorem dX5_shortest_15 : decode cX5_shortest 15 = .ok (.iload_n 2, 1) := by decide +kernel
theorem dX5_shortest_16 : decode cX5_shortest 16 = .ok (.iconst (-1), 1) := by decide +kernel
theorem dX5_shortest_17 : decode cX5_shortest 17 = .ok (.if_icmp .ge 6, 3) := by decide +kernel
theorem dX5_shortest_20 : decode cX5_shortest 20 = .ok (.bipush (-2), 2) := by decide +kernel
theorem dX5_shortest_22 : decode cX5_shortest 22 = .ok (.ireturn, 1) := by decide +kernel
theorem dX5_shortest_23 : decode cX5_shortest 23 = .ok (.aload_n 0, 1) := by decide +kernel
theorem dX5_shortest_24 : decode cX5_shortest 24 = .ok (.aload_n 3, 1) := by decide +kernel
theorem dX5_shortest_25 : decode cX5_shortest 25 = .ok (.aload_n 0, 1) := by decide +kernel
theorem dX5_shortest_26 : decode cX5_shortest 26 = .ok (.getfield 30, 3) := by decide +kernel
theorem dX5_shortest_29 : decode cX5_shortest 29 = .ok (.invokevirtual 157, 3) := by decide +kernel
theorem dX5_shortest_32 : decode cX5_shortest 32 = .ok (.aload_n 0, 1) := by decide +kernel
theorem dX5_shortest_33 : decode cX5_shortest 33 = .ok (.getfield 30, 3) := by decide +kernel
theorem dX5_shortest_36 : decode cX5_shortest 36 = .ok (.iload_n 2, 1) := by decide +kernel
theorem dX5_shortest_37 : decode cX5_shortest 37 = .ok (.invokestatic 121, 3) := by decide +kernel
theorem dX5_shortest_40 : decode cX5_shortest 40 = .ok (.ireturn, 1) := by decide +kernel
theorem dX5_same_0 : decode cX5_same 0 = .ok (.aload_n 0, 1) := by decide +kernel
theorem dX5_same_1 : decode cX5_same 1 = .ok (.getfield 39, 3) := by decide +kernel
theorem dX5_same_4 : decode cX5_same 4 = .ok (.iload_n 1, 1) := by decide +kernel
theorem dX5_same_5 : decode cX5_same 5 = .ok (.invokevirtual 90, 3) := by decide +kernel
theorem dX5_same_8 : decode cX5_same 8 = .ok (.astore_n 3, 1) := by decide +kernel
theorem dX5_same_9 : decode cX5_same 9 = .ok (.aload_n 0, 1) := by decide +kernel
theorem dX5_same_10 : decode cX5_same 10 = .ok (.getfield 39, 3) := by decide +kernel
theorem dX5_same_13 : decode cX5_same 13 = .ok (.iload_n 2, 1) := by decide +kernel
theorem dX5_same_14 : decode cX5_same 14 = .ok (.invokevirtual 90, 3) := by decide +kernel
theorem dX5_same_17 : decode cX5_same 17 = .ok (.astore 4, 2) := by decide +kernel
theorem dX5_same_19 : decode cX5_same 19 = .ok (.aload_n 3, 1) := by decide +kernel
theorem dX5_same_20 : decode cX5_same 20 = .ok (.ifnull 8, 3) := by decide +kernel
theorem dX5_same_23 : decode cX5_same 23 = .ok (.aload 4, 2) := by decide +kernel
theorem dX5_same_25 : decode cX5_same 25 = .ok (.ifnonnull 5, 3) := by decide +kernel
theorem dX5_same_28 : decode cX5_same 28 = .ok (.iconst (-1), 1) := by decide +kernel
theorem dX5_same_29 : decode cX5_same 29 = .ok (.ireturn, 1) := by decide +kernel
theorem dX5_same_30 : decode cX5_same 30 = .ok (.aload_n 0, 1) := by decide +kernel
theorem dX5_same_31 : decode cX5_same 31 = .ok (.aload_n 3, 1) := by decide +kernel
theorem dX5_same_32 : decode cX5_same 32 = .ok (.aload_n 0, 1) := by decide +kernel
theorem dX5_same_33 : decode cX5_same 33 = .ok (.getfield 30, 3) := by decide +kernel
theorem dX5_same_36 : decode cX5_same 36 = .ok (.invokevirtual 157, 3) := by decide +kernel
theorem dX5_same_39 : decode cX5_same 39 = .ok (.aload_n 0, 1) := by decide +kernel
theorem dX5_same_40 : decode cX5_same 40 = .ok (.aload 4, 2) := by decide +kernel
theorem dX5_same_42 : decode cX5_same 42 = .ok (.aload_n 0, 1) := by decide +kernel
theorem dX5_same_43 : decode cX5_same 43 = .ok (.getfield 33, 3) := by decide +kernel
theorem dX5_same_46 : decode cX5_same 46 = .ok (.invokevirtual 157, 3) := by decide +kernel
theorem dX5_same_49 : decode cX5_same 49 = .ok (.aload_n 0, 1) := by decide +kernel
theorem dX5_same_50 : decode cX5_same 50 = .ok (.getfield 30, 3) := by decide +kernel
theorem dX5_same_53 : decode cX5_same 53 = .ok (.aload_n 0, 1) := by decide +kernel
theorem dX5_same_54 : decode cX5_same 54 = .ok (.getfield 33, 3) := by decide +kernel
theorem dX5_same_57 : decode cX5_same 57 = .ok (.invokevirtual 161, 3) := by decide +kernel
theorem dX5_same_60 : decode cX5_same 60 = .ok (.ifCond .eq 7, 3) := by decide +kernel
theorem dX5_same_63 : decode cX5_same 63 = .ok (.iconst 1, 1) := by decide +kernel
theorem dX5_same_64 : decode cX5_same 64 = .ok (.goto 4, 3) := by decide +kernel
theorem dX5_same_67 : decode cX5_same 67 = .ok (.iconst 0, 1) := by decide +kernel
theorem dX5_same_68 : decode cX5_same 68 = .ok (.ireturn, 1) := by decide +kernel
theorem dX5_part_0 : decode cX5_part 0 = .ok (.aload_n 0, 1) := by decide +kernel
theorem dX5_part_1 : decode cX5_part 1 = .ok (.getfield 39, 3) := by decide +kernel
theorem dX5_part_4 : decode cX5_part 4 = .ok (.iload_n 1, 1) := by decide +kernel
theorem dX5_part_5 : decode cX5_part 5 = .ok (.invokevirtual 90, 3) := by decide +kernel
theorem dX5_part_8 : decode cX5_part 8 = .ok (.astore_n 2, 1) := by decide +kernel
theorem dX5_part_9 : decode cX5_part 9 = .ok (.aload_n 2, 1) := by decide +kernel
theorem dX5_part_10 : decode cX5_part 10 = .ok (.ifnonnull 5, 3) := by decide +kernel
theorem dX5_part_13 : decode cX5_part 13 = .ok (.iconst (-1), 1) := by decide +kernel
theorem dX5_part_14 : decode cX5_part 14 = .ok (.ireturn, 1) := by decide +kernel
theorem dX5_part_15 : decode cX5_part 15 = .ok (.iconst 1, 1) := by decide +kernel
theorem dX5_part_16 : decode cX5_part 16 = .ok (.istore_n 3, 1) := by decide +kernel
theorem dX5_part_17 : decode cX5_part 17 = .ok (.iload_n 3, 1) := by decide +kernel
theorem dX5_part_18 : decode cX5_part 18 = .ok (.aload_n 2, 1) := by decide +kernel
theorem dX5_part_19 : decode cX5_part 19 = .ok (.invokevirtual 79, 3) := by decide +kernel
theorem dX5_part_22 : decode cX5_part 22 = .ok (.if_icmp .ge 28, 3) := by decide +kernel
theorem dX5_part_25 : decode cX5_part 25 = .ok (.aload_n 2, 1) := by decide +kernel
theorem dX5_part_26 : decode cX5_part 26 = .ok (.invokevirtual 79, 3) := by decide +kernel
theorem dX5_part_29 : decode cX5_part 29 = .ok (.iload_n 3, 1) := by decide +kernel
theorem dX5_part_30 : decode cX5_part 30 = .ok (.irem, 1) := by decide +kernel
theorem dX5_part_31 : decode cX5_part 31 = .ok (.ifCond .ne 13, 3) := by decide +kernel
theorem dX5_part_34 : decode cX5_part 34 = .ok (.aload_n 2, 1) := by decide +kernel
theorem dX5_part_35 : decode cX5_part 35 = .ok (.iload_n 3, 1) := by decide +kernel
theorem dX5_part_36 : decode cX5_part 36 = .ok (.invokevirtual 165, 3) := by decide +kernel
theorem dX5_part_39 : decode cX5_part 39 = .ok (.ifCond .eq 5, 3) := by decide +kernel
theorem dX5_part_42 : decode cX5_part 42 = .ok (.iload_n 3, 1) := by decide +kernel
theorem dX5_part_43 : decode cX5_part 43 = .ok (.ireturn, 1) := by decide +kernel
theorem dX5_part_44 : decode cX5_part 44 = .ok (.iinc 3 1, 3) := by decide +kernel
theorem dX5_part_47 : decode cX5_part 47 = .ok (.goto (-30), 3) := by decide +kernel
theorem dX5_part_50 : decode cX5_part 50 = .ok (.aload_n 2, 1) := by decide +kernel
theorem dX5_part_51 : decode cX5_part 51 = .ok (.invokevirtual 79, 3) := by decide +kernel
theorem dX5_part_54 : decode cX5_part 54 = .ok (.ireturn, 1) := by decide +kernel
theorem dX5_image_0 : decode cX5_image 0 = .ok (.iload_n 1, 1) := by decide +kernel
theorem dX5_image_1 : decode cX5_image 1 = .ok (.ifCond .lt 8, 3) := by decide +kernel
theorem dX5_image_4 : decode cX5_image 4 = .ok (.iload_n 1, 1) := by decide +kernel
theorem dX5_image_5 : decode cX5_image 5 = .ok (.iconst 2, 1) := by decide +kernel
theorem dX5_image_6 : decode cX5_image 6 = .ok (.if_icmp .lt 6, 3) := by decide +kernel
theorem dX5_image_9 : decode cX5_image 9 = .ok (.bipush (-2), 2) := by decide +kernel
theorem dX5_image_11 : decode cX5_image 11 = .ok (.ireturn, 1) := by decide +kernel
theorem dX5_image_12 : decode cX5_image 12 = .ok (.aload_n 0, 1) := by decide +kernel
theorem dX5_image_13 : decode cX5_image 13 = .ok (.getfield 43, 3) := by decide +kernel
theorem dX5_image_16 : decode cX5_image 16 = .ok (.iload_n 1, 1) := by decide +kernel
theorem dX5_image_17 : decode cX5_image 17 = .ok (.aaload, 1) := by decide +kernel
theorem dX5_image_18 : decode cX5_image 18 = .ok (.aload_n 0, 1) := by decide +kernel
theorem dX5_image_19 : decode cX5_image 19 = .ok (.getfield 39, 3) := by decide +kernel
theorem dX5_image_22 : decode cX5_image 22 = .ok (.invokevirtual 168, 3) := by decide +kernel
theorem dX5_image_25 : decode cX5_image 25 = .ok (.aload_n 0, 1) := by decide +kernel
theorem dX5_image_26 : decode cX5_image 26 = .ok (.dup, 1) := by decide +kernel
theorem dX5_image_27 : decode cX5_image 27 = .ok (.getfield 68, 3) := by decide +kernel
theorem dX5_image_30 : decode cX5_image 30 = .ok (.iconst 1, 1) := by decide +kernel
theorem dX5_image_31 : decode cX5_image 31 = .ok (.iload_n 1, 1) := by decide +kernel
theorem dX5_image_32 : decode cX5_image 32 = .ok (.ishl, 1) := by decide +kernel
theorem dX5_image_33 : decode cX5_image 33 = .ok (.ior, 1) := by decide +kernel
theorem dX5_image_34 : decode cX5_image 34 = .ok (.putfield 68, 3) := by decide +kernel
theorem dX5_image_37 : decode cX5_image 37 = .ok (.iconst 1, 1) := by decide +kernel
theorem dX5_image_38 : decode cX5_image 38 = .ok (.ireturn, 1) := by decide +kernel
theorem dX5_restore_0 : decode cX5_restore 0 = .ok (.iload_n 1, 1) := by decide +kernel
theorem dX5_restore_1 : decode cX5_restore 1 = .ok (.ifCond .lt 8, 3) := by decide +kernel
theorem dX5_restore_4 : decode cX5_restore 4 = .ok (.iload_n 1, 1) := by decide +kernel
theorem dX5_restore_5 : decode cX5_restore 5 = .ok (.iconst 2, 1) := by decide +kernel
theorem dX5_restore_6 : decode cX5_restore 6 = .ok (.if_icmp .lt 6, 3) := by decide +kernel
theorem dX5_restore_9 : decode cX5_restore 9 = .ok (.bipush (-2), 2) := by decide +kernel
theorem dX5_restore_11 : decode cX5_restore 11 = .ok (.ireturn, 1) := by decide +kernel
theorem dX5_restore_12 : decode cX5_restore 12 = .ok (.aload_n 0, 1) := by decide +kernel
theorem dX5_restore_13 : decode cX5_restore 13 = .ok (.getfield 68, 3) := by decide +kernel
theorem dX5_restore_16 : decode cX5_restore 16 = .ok (.iconst 1, 1) := by decide +kernel
theorem dX5_restore_17 : decode cX5_restore 17 = .ok (.iload_n 1, 1) := by decide +kernel
theorem dX5_restore_18 : decode cX5_restore 18 = .ok (.ishl, 1) := by decide +kernel
theorem dX5_restore_19 : decode cX5_restore 19 = .ok (.iand, 1) := by decide +kernel
theorem dX5_restore_20 : decode cX5_restore 20 = .ok (.ifCond .ne 6, 3) := by decide +kernel
theorem dX5_restore_23 : decode cX5_restore 23 = .ok (.bipush (-3), 2) := by decide +kernel
theorem dX5_restore_25 : decode cX5_restore 25 = .ok (.ireturn, 1) := by decide +kernel
theorem dX5_restore_26 : decode cX5_restore 26 = .ok (.aload_n 0, 1) := by decide +kernel
theorem dX5_restore_27 : decode cX5_restore 27 = .ok (.getfield 39, 3) := by decide +kernel
theorem dX5_restore_30 : decode cX5_restore 30 = .ok (.aload_n 0, 1) := by decide +kernel
theorem dX5_restore_31 : decode cX5_restore 31 = .ok (.getfield 43, 3) := by decide +kernel
theorem dX5_restore_34 : decode cX5_restore 34 = .ok (.iload_n 1, 1) := by decide +kernel
theorem dX5_restore_35 : decode cX5_restore 35 = .ok (.aaload, 1) := by decide +kernel
theorem dX5_restore_36 : decode cX5_restore 36 = .ok (.invokevirtual 168, 3) := by decide +kernel
theorem dX5_restore_39 : decode cX5_restore 39 = .ok (.iconst 1, 1) := by decide +kernel
theorem dX5_restore_40 : decode cX5_restore 40 = .ok (.ireturn, 1) := by decide +kernel
theorem dX5_count_0 : decode cX5_count 0 = .ok (.iload_n 1, 1) := by decide +kernel
theorem dX5_count_1 : decode cX5_count 1 = .ok (.tableswitch 57 0 3 #[31, 39, 47, 52], 31) := by decide +kernel
theorem dX5_count_32 : decode cX5_count 32 = .ok (.aload_n 0, 1) := by decide +kernel
theorem dX5_count_33 : decode cX5_count 33 = .ok (.getfield 14, 3) := by decide +kernel
theorem dX5_count_36 : decode cX5_count 36 = .ok (.invokevirtual 79, 3) := by decide +kernel
theorem dX5_count_39 : decode cX5_count 39 = .ok (.ireturn, 1) := by decide +kernel
theorem dX5_count_40 : decode cX5_count 40 = .ok (.aload_n 0, 1) := by decide +kernel
theorem dX5_count_41 : decode cX5_count 41 = .ok (.getfield 39, 3) := by decide +kernel
theorem dX5_count_44 : decode cX5_count 44 = .ok (.invokevirtual 171, 3) := by decide +kernel
theorem dX5_count_47 : decode cX5_count 47 = .ok (.ireturn, 1) := by decide +kernel
theorem dX5_count_48 : decode cX5_count 48 = .ok (.aload_n 0, 1) := by decide +kernel
theorem dX5_count_49 : decode cX5_count 49 = .ok (.getfield 72, 3) := by decide +kernel
theorem dX5_count_52 : decode cX5_count 52 = .ok (.ireturn, 1) := by decide +kernel
theorem dX5_count_53 : decode cX5_count 53 = .ok (.aload_n 0, 1) := by decide +kernel
theorem dX5_count_54 : decode cX5_count 54 = .ok (.getfield 68, 3) := by decide +kernel
theorem dX5_count_57 : decode cX5_count 57 = .ok (.ireturn, 1) := by decide +kernel
theorem dX5_count_58 : decode cX5_count 58 = .ok (.bipush (-2), 2) := by decide +kernel
theorem dX5_count_60 : decode cX5_count 60 = .ok (.ireturn, 1) := by decide +kernel
theorem dX5_stepOf_0 : decode cX5_stepOf 0 = .ok (.iconst 3, 1) := by decide +kernel
theorem dX5_stepOf_1 : decode cX5_stepOf 1 = .ok (.iload_n 0, 1) := by decide +kernel
theorem dX5_stepOf_2 : decode cX5_stepOf 2 = .ok (.imul, 1) := by decide +kernel
theorem dX5_stepOf_3 : decode cX5_stepOf 3 = .ok (.iload_n 1, 1) := by decide +kernel
theorem dX5_stepOf_4 : decode cX5_stepOf 4 = .ok (.iadd, 1) := by decide +kernel
theorem dX5_stepOf_5 : decode cX5_stepOf 5 = .ok (.ireturn, 1) := by decide +kernel
theorem dX5_kindOf_0 : decode cX5_kindOf 0 = .ok (.iload_n 0, 1) := by decide +kernel
theorem dX5_kindOf_1 : decode cX5_kindOf 1 = .ok (.iconst 3, 1) := by decide +kernel
theorem dX5_kindOf_2 : decode cX5_kindOf 2 = .ok (.idiv, 1) := by decide +kernel
theorem dX5_kindOf_3 : decode cX5_kindOf 3 = .ok (.ireturn, 1) := by decide +kernel
theorem dX5_spotOf_0 : decode cX5_spotOf 0 = .ok (.iload_n 0, 1) := by decide +kernel
theorem dX5_spotOf_1 : decode cX5_spotOf 1 = .ok (.iconst 3, 1) := by decide +kernel
theorem dX5_spotOf_2 : decode cX5_spotOf 2 = .ok (.irem, 1) := by decide +kernel
theorem dX5_spotOf_3 : decode cX5_spotOf 3 = .ok (.ireturn, 1) := by decide +kernel
theorem dX5_opposite_0 : decode cX5_opposite 0 = .ok (.iload_n 0, 1) := by decide +kernel
theorem dX5_opposite_1 : decode cX5_opposite 1 = .ok (.invokestatic 112, 3) := by decide +kernel
theorem dX5_opposite_4 : decode cX5_opposite 4 = .ok (.istore_n 1, 1) := by decide +kernel
theorem dX5_opposite_5 : decode cX5_opposite 5 = .ok (.iload_n 1, 1) := by decide +kernel
theorem dX5_opposite_6 : decode cX5_opposite 6 = .ok (.iconst 4, 1) := by decide +kernel
theorem dX5_opposite_7 : decode cX5_opposite 7 = .ok (.if_icmp .ne 7, 3) := by decide +kernel
theorem dX5_opposite_10 : decode cX5_opposite 10 = .ok (.iload_n 0, 1) := by decide +kernel
theorem dX5_opposite_11 : decode cX5_opposite 11 = .ok (.goto 13, 3) := by decide +kernel
theorem dX5_opposite_14 : decode cX5_opposite 14 = .ok (.iload_n 1, 1) := by decide +kernel
theorem dX5_opposite_15 : decode cX5_opposite 15 = .ok (.iconst 1, 1) := by decide +kernel
theorem dX5_opposite_16 : decode cX5_opposite 16 = .ok (.ixor, 1) := by decide +kernel
theorem dX5_opposite_17 : decode cX5_opposite 17 = .ok (.iload_n 0, 1) := by decide +kernel
theorem dX5_opposite_18 : decode cX5_opposite 18 = .ok (.invokestatic 115, 3) := by decide +kernel
theorem dX5_opposite_21 : decode cX5_opposite 21 = .ok (.invokestatic 174, 3) := by decide +kernel
theorem dX5_opposite_24 : decode cX5_opposite 24 = .ok (.ireturn, 1) := by decide +kernel
theorem dX5_changesIn_0 : decode cX5_changesIn 0 = .ok (.iload_n 0, 1) := by decide +kernel
theorem dX5_changesIn_1 : decode cX5_changesIn 1 = .ok (.invokestatic 112, 3) := by decide +kernel
theorem dX5_changesIn_4 : decode cX5_changesIn 4 = .ok (.istore_n 1, 1) := by decide +kernel
theorem dX5_changesIn_5 : decode cX5_changesIn 5 = .ok (.iload_n 1, 1) := by decide +kernel
theorem dX5_changesIn_6 : decode cX5_changesIn 6 = .ok (.iconst 4, 1) := by decide +kernel
theorem dX5_changesIn_7 : decode cX5_changesIn 7 = .ok (.if_icmp .ne 5, 3) := by decide +kernel
theorem dX5_changesIn_10 : decode cX5_changesIn 10 = .ok (.iconst 0, 1) := by decide +kernel
theorem dX5_changesIn_11 : decode cX5_changesIn 11 = .ok (.ireturn, 1) := by decide +kernel
theorem dX5_changesIn_12 : decode cX5_changesIn 12 = .ok (.iload_n 1, 1) := by decide +kernel
theorem dX5_changesIn_13 : decode cX5_changesIn 13 = .ok (.iconst 2, 1) := by decide +kernel
theorem dX5_changesIn_14 : decode cX5_changesIn 14 = .ok (.if_icmp .eq 8, 3) := by decide +kernel
theorem dX5_changesIn_17 : decode cX5_changesIn 17 = .ok (.iload_n 1, 1) := by decide +kernel
theorem dX5_changesIn_18 : decode cX5_changesIn 18 = .ok (.iconst 3, 1) := by decide +kernel
theorem dX5_changesIn_19 : decode cX5_changesIn 19 = .ok (.if_icmp .ne 7, 3) := by decide +kernel
theorem dX5_changesIn_22 : decode cX5_changesIn 22 = .ok (.iconst 2, 1) := by decide +kernel
theorem dX5_changesIn_23 : decode cX5_changesIn 23 = .ok (.goto 4, 3) := by decide +kernel
theorem dX5_changesIn_26 : decode cX5_changesIn 26 = .ok (.iconst 1, 1) := by decide +kernel
theorem dX5_changesIn_27 : decode cX5_changesIn 27 = .ok (.ireturn, 1) := by decide +kernel
theorem dX5_letterOf_0 : decode cX5_letterOf 0 = .ok (.iload_n 0, 1) := by decide +kernel
theorem dX5_letterOf_1 : decode cX5_letterOf 1 = .ok (.invokestatic 112, 3) := by decide +kernel
theorem dX5_letterOf_4 : decode cX5_letterOf 4 = .ok (.istore_n 2, 1) := by decide +kernel
theorem dX5_letterOf_5 : decode cX5_letterOf 5 = .ok (.iload_n 2, 1) := by decide +kernel
theorem dX5_letterOf_6 : decode cX5_letterOf 6 = .ok (.iconst 2, 1) := by decide +kernel
theorem dX5_letterOf_7 : decode cX5_letterOf 7 = .ok (.if_icmp .eq 8, 3) := by decide +kernel
theorem dX5_letterOf_10 : decode cX5_letterOf 10 = .ok (.iload_n 2, 1) := by decide +kernel
theorem dX5_letterOf_11 : decode cX5_letterOf 11 = .ok (.iconst 3, 1) := by decide +kernel
theorem dX5_letterOf_12 : decode cX5_letterOf 12 = .ok (.if_icmp .ne 7, 3) := by decide +kernel
theorem dX5_letterOf_15 : decode cX5_letterOf 15 = .ok (.iconst 1, 1) := by decide +kernel
theorem dX5_letterOf_16 : decode cX5_letterOf 16 = .ok (.goto 4, 3) := by decide +kernel
theorem dX5_letterOf_19 : decode cX5_letterOf 19 = .ok (.iconst 0, 1) := by decide +kernel
theorem dX5_letterOf_20 : decode cX5_letterOf 20 = .ok (.istore_n 3, 1) := by decide +kernel
theorem dX5_letterOf_21 : decode cX5_letterOf 21 = .ok (.iconst 2, 1) := by decide +kernel
theorem dX5_letterOf_22 : decode cX5_letterOf 22 = .ok (.iload_n 0, 1) := by decide +kernel
theorem dX5_letterOf_23 : decode cX5_letterOf 23 = .ok (.invokestatic 115, 3) := by decide +kernel
theorem dX5_letterOf_26 : decode cX5_letterOf 26 = .ok (.imul, 1) := by decide +kernel
theorem dX5_letterOf_27 : decode cX5_letterOf 27 = .ok (.iload_n 3, 1) := by decide +kernel
theorem dX5_letterOf_28 : decode cX5_letterOf 28 = .ok (.ifCond .eq 9, 3) := by decide +kernel
theorem dX5_letterOf_31 : decode cX5_letterOf 31 = .ok (.iconst 2, 1) := by decide +kernel
theorem dX5_letterOf_32 : decode cX5_letterOf 32 = .ok (.iload_n 1, 1) := by decide +kernel
theorem dX5_letterOf_33 : decode cX5_letterOf 33 = .ok (.imul, 1) := by decide +kernel
theorem dX5_letterOf_34 : decode cX5_letterOf 34 = .ok (.goto 4, 3) := by decide +kernel
theorem dX5_letterOf_37 : decode cX5_letterOf 37 = .ok (.iconst 1, 1) := by decide +kernel
theorem dX5_letterOf_38 : decode cX5_letterOf 38 = .ok (.iadd, 1) := by decide +kernel
theorem dX5_letterOf_39 : decode cX5_letterOf 39 = .ok (.istore 4, 2) := by decide +kernel
theorem dX5_letterOf_41 : decode cX5_letterOf 41 = .ok (.bipush 10, 2) := by decide +kernel
theorem dX5_letterOf_43 : decode cX5_letterOf 43 = .ok (.iload 4, 2) := by decide +kernel
theorem dX5_letterOf_45 : decode cX5_letterOf 45 = .ok (.imul, 1) := by decide +kernel
theorem dX5_letterOf_46 : decode cX5_letterOf 46 = .ok (.iload_n 2, 1) := by decide +kernel
theorem dX5_letterOf_47 : decode cX5_letterOf 47 = .ok (.iconst 1, 1) := by decide +kernel
theorem dX5_letterOf_48 : decode cX5_letterOf 48 = .ok (.if_icmp .eq 8, 3) := by decide +kernel
theorem dX5_letterOf_51 : decode cX5_letterOf 51 = .ok (.iload_n 2, 1) := by decide +kernel
theorem dX5_letterOf_52 : decode cX5_letterOf 52 = .ok (.iconst 2, 1) := by decide +kernel
theorem dX5_letterOf_53 : decode cX5_letterOf 53 = .ok (.if_icmp .ne 7, 3) := by decide +kernel
theorem dX5_letterOf_56 : decode cX5_letterOf 56 = .ok (.iconst 1, 1) := by decide +kernel
theorem dX5_letterOf_57 : decode cX5_letterOf 57 = .ok (.goto 4, 3) := by decide +kernel
theorem dX5_letterOf_60 : decode cX5_letterOf 60 = .ok (.iconst 0, 1) := by decide +kernel
theorem dX5_letterOf_61 : decode cX5_letterOf 61 = .ok (.iadd, 1) := by decide +kernel
theorem dX5_letterOf_62 : decode cX5_letterOf 62 = .ok (.ireturn, 1) := by decide +kernel
theorem dX5_placeOf_0 : decode cX5_placeOf 0 = .ok (.iload_n 0, 1) := by decide +kernel
theorem dX5_placeOf_1 : decode cX5_placeOf 1 = .ok (.bipush 10, 2) := by decide +kernel
theorem dX5_placeOf_3 : decode cX5_placeOf 3 = .ok (.idiv, 1) := by decide +kernel
theorem dX5_placeOf_4 : decode cX5_placeOf 4 = .ok (.ireturn, 1) := by decide +kernel
theorem dX5_isRightOver_0 : decode cX5_isRightOver 0 = .ok (.iload_n 0, 1) := by decide +kernel
theorem dX5_isRightOver_1 : decode cX5_isRightOver 1 = .ok (.bipush 10, 2) := by decide +kernel
theorem dX5_isRightOver_3 : decode cX5_isRightOver 3 = .ok (.irem, 1) := by decide +kernel
theorem dX5_isRightOver_4 : decode cX5_isRightOver 4 = .ok (.iconst 1, 1) := by decide +kernel
theorem dX5_isRightOver_5 : decode cX5_isRightOver 5 = .ok (.if_icmp .ne 7, 3) := by decide +kernel
theorem dX5_isRightOver_8 : decode cX5_isRightOver 8 = .ok (.iconst 1, 1) := by decide +kernel
theorem dX5_isRightOver_9 : decode cX5_isRightOver 9 = .ok (.goto 4, 3) := by decide +kernel
theorem dX5_isRightOver_12 : decode cX5_isRightOver 12 = .ok (.iconst 0, 1) := by decide +kernel
theorem dX5_isRightOver_13 : decode cX5_isRightOver 13 = .ok (.ireturn, 1) := by decide +kernel
theorem dX5_isPlace_0 : decode cX5_isPlace 0 = .ok (.iload_n 0, 1) := by decide +kernel
theorem dX5_isPlace_1 : decode cX5_isPlace 1 = .ok (.ifCond .lt 13, 3) := by decide +kernel
theorem dX5_isPlace_4 : decode cX5_isPlace 4 = .ok (.iload_n 0, 1) := by decide +kernel
theorem dX5_isPlace_5 : decode cX5_isPlace 5 = .ok (.bipush 8, 2) := by decide +kernel
theorem dX5_isPlace_7 : decode cX5_isPlace 7 = .ok (.if_icmp .ge 7, 3) := by decide +kernel
theorem dX5_isPlace_10 : decode cX5_isPlace 10 = .ok (.iconst 1, 1) := by decide +kernel
theorem dX5_isPlace_11 : decode cX5_isPlace 11 = .ok (.goto 4, 3) := by decide +kernel
theorem dX5_isPlace_14 : decode cX5_isPlace 14 = .ok (.iconst 0, 1) := by decide +kernel
theorem dX5_isPlace_15 : decode cX5_isPlace 15 = .ok (.ireturn, 1) := by decide +kernel
theorem dX5_sizeOrItem_0 : decode cX5_sizeOrItem 0 = .ok (.iload_n 1, 1) := by decide +kernel
theorem dX5_sizeOrItem_1 : decode cX5_sizeOrItem 1 = .ok (.iconst (-1), 1) := by decide +kernel
theorem dX5_sizeOrItem_2 : decode cX5_sizeOrItem 2 = .ok (.if_icmp .ne 10, 3) := by decide +kernel
theorem dX5_sizeOrItem_5 : decode cX5_sizeOrItem 5 = .ok (.aload_n 0, 1) := by decide +kernel
theorem dX5_sizeOrItem_6 : decode cX5_sizeOrItem 6 = .ok (.invokevirtual 79, 3) := by decide +kernel
theorem dX5_sizeOrItem_9 : decode cX5_sizeOrItem 9 = .ok (.goto 8, 3) := by decide +kernel
theorem dX5_sizeOrItem_12 : decode cX5_sizeOrItem 12 = .ok (.aload_n 0, 1) := by decide +kernel
theorem dX5_sizeOrItem_13 : decode cX5_sizeOrItem 13 = .ok (.iload_n 1, 1) := by decide +kernel
theorem dX5_sizeOrItem_14 : decode cX5_sizeOrItem 14 = .ok (.invokevirtual 105, 3) := by decide +kernel
theorem dX5_sizeOrItem_17 : decode cX5_sizeOrItem 17 = .ok (.ireturn, 1) := by decide +kernel
theorem dX5_writeOut_0 : decode cX5_writeOut 0 = .ok (.aload_n 0, 1) := by decide +kernel
theorem dX5_writeOut_1 : decode cX5_writeOut 1 = .ok (.getfield 21, 3) := by decide +kernel
theorem dX5_writeOut_4 : decode cX5_writeOut 4 = .ok (.invokevirtual 83, 3) := by decide +kernel
theorem dX5_writeOut_7 : decode cX5_writeOut 7 = .ok (.bipush (-6), 2) := by decide +kernel
theorem dX5_writeOut_9 : decode cX5_writeOut 9 = .ok (.istore_n 2, 1) := by decide +kernel
theorem dX5_writeOut_10 : decode cX5_writeOut 10 = .ok (.iconst 0, 1) := by decide +kernel
theorem dX5_writeOut_11 : decode cX5_writeOut 11 = .ok (.istore_n 3, 1) := by decide +kernel
theorem dX5_writeOut_12 : decode cX5_writeOut 12 = .ok (.iload_n 3, 1) := by decide +kernel
theorem dX5_writeOut_13 : decode cX5_writeOut 13 = .ok (.aload_n 1, 1) := by decide +kernel
theorem dX5_writeOut_14 : decode cX5_writeOut 14 = .ok (.invokevirtual 79, 3) := by decide +kernel
theorem dX5_writeOut_17 : decode cX5_writeOut 17 = .ok (.if_icmp .ge 59, 3) := by decide +kernel
theorem dX5_writeOut_20 : decode cX5_writeOut 20 = .ok (.aload_n 1, 1) := by decide +kernel
theorem dX5_writeOut_21 : decode cX5_writeOut 21 = .ok (.iload_n 3, 1) := by decide +kernel
theorem dX5_writeOut_22 : decode cX5_writeOut 22 = .ok (.invokevirtual 105, 3) := by decide +kernel
theorem dX5_writeOut_25 : decode cX5_writeOut 25 = .ok (.istore 4, 2) := by decide +kernel
theorem dX5_writeOut_27 : decode cX5_writeOut 27 = .ok (.iload 4, 2) := by decide +kernel
theorem dX5_writeOut_29 : decode cX5_writeOut 29 = .ok (.invokestatic 115, 3) := by decide +kernel
theorem dX5_writeOut_32 : decode cX5_writeOut 32 = .ok (.iload_n 2, 1) := by decide +kernel
theorem dX5_writeOut_33 : decode cX5_writeOut 33 = .ok (.if_icmp .eq 21, 3) := by decide +kernel
theorem dX5_writeOut_36 : decode cX5_writeOut 36 = .ok (.iload 4, 2) := by decide +kernel
theorem dX5_writeOut_38 : decode cX5_writeOut 38 = .ok (.invokestatic 115, 3) := by decide +kernel
theorem dX5_writeOut_41 : decode cX5_writeOut 41 = .ok (.istore_n 2, 1) := by decide +kernel
theorem dX5_writeOut_42 : decode cX5_writeOut 42 = .ok (.aload_n 0, 1) := by decide +kernel
theorem dX5_writeOut_43 : decode cX5_writeOut 43 = .ok (.getfield 21, 3) := by decide +kernel
theorem dX5_writeOut_46 : decode cX5_writeOut 46 = .ok (.bipush 48, 2) := by decide +kernel
theorem dX5_writeOut_48 : decode cX5_writeOut 48 = .ok (.iload_n 2, 1) := by decide +kernel
theorem dX5_writeOut_49 : decode cX5_writeOut 49 = .ok (.iadd, 1) := by decide +kernel
theorem dX5_writeOut_50 : decode cX5_writeOut 50 = .ok (.invokevirtual 75, 3) := by decide +kernel
theorem dX5_writeOut_53 : decode cX5_writeOut 53 = .ok (.pop, 1) := by decide +kernel
theorem dX5_writeOut_54 : decode cX5_writeOut 54 = .ok (.aload_n 0, 1) := by decide +kernel
theorem dX5_writeOut_55 : decode cX5_writeOut 55 = .ok (.getfield 21, 3) := by decide +kernel
theorem dX5_writeOut_58 : decode cX5_writeOut 58 = .ok (.iload 4, 2) := by decide +kernel
theorem dX5_writeOut_60 : decode cX5_writeOut 60 = .ok (.invokestatic 112, 3) := by decide +kernel
theorem dX5_writeOut_63 : decode cX5_writeOut 63 = .ok (.invokestatic 178, 3) := by decide +kernel
theorem dX5_writeOut_66 : decode cX5_writeOut 66 = .ok (.invokevirtual 75, 3) := by decide +kernel
theorem dX5_writeOut_69 : decode cX5_writeOut 69 = .ok (.pop, 1) := by decide +kernel
theorem dX5_writeOut_70 : decode cX5_writeOut 70 = .ok (.iinc 3 1, 3) := by decide +kernel
theorem dX5_writeOut_73 : decode cX5_writeOut 73 = .ok (.goto (-61), 3) := by decide +kernel
theorem dX5_writeOut_76 : decode cX5_writeOut 76 = .ok (.return_, 1) := by decide +kernel
theorem dX5_signOf_0 : decode cX5_signOf 0 = .ok (.iload_n 0, 1) := by decide +kernel
theorem dX5_signOf_1 : decode cX5_signOf 1 = .ok (.ifCond .lt 21, 3) := by decide +kernel
theorem dX5_signOf_4 : decode cX5_signOf 4 = .ok (.iload_n 0, 1) := by decide +kernel
theorem dX5_signOf_5 : decode cX5_signOf 5 = .ok (.ldc 181, 2) := by decide +kernel
theorem dX5_signOf_7 : decode cX5_signOf 7 = .ok (.invokevirtual 183, 3) := by decide +kernel
theorem dX5_signOf_10 : decode cX5_signOf 10 = .ok (.if_icmp .ge 12, 3) := by decide +kernel
theorem dX5_signOf_13 : decode cX5_signOf 13 = .ok (.ldc 181, 2) := by decide +kernel
theorem dX5_signOf_15 : decode cX5_signOf 15 = .ok (.iload_n 0, 1) := by decide +kernel
theorem dX5_signOf_16 : decode cX5_signOf 16 = .ok (.invokevirtual 188, 3) := by decide +kernel
theorem dX5_signOf_19 : decode cX5_signOf 19 = .ok (.goto 5, 3) := by decide +kernel
theorem dX5_signOf_22 : decode cX5_signOf 22 = .ok (.bipush (-6), 2) := by decide +kernel
theorem dX5_signOf_24 : decode cX5_signOf 24 = .ok (.ireturn, 1) := by decide +kernel
theorem dX5_spell_0 : decode cX5_spell 0 = .ok (.aload_n 0, 1) := by decide +kernel
theorem dX5_spell_1 : decode cX5_spell 1 = .ok (.getfield 24, 3) := by decide +kernel
theorem dX5_spell_4 : decode cX5_spell 4 = .ok (.invokevirtual 83, 3) := by decide +kernel
theorem dX5_spell_7 : decode cX5_spell 7 = .ok (.aload_n 0, 1) := by decide +kernel
theorem dX5_spell_8 : decode cX5_spell 8 = .ok (.getfield 27, 3) := by decide +kernel
theorem dX5_spell_11 : decode cX5_spell 11 = .ok (.invokevirtual 83, 3) := by decide +kernel
theorem dX5_spell_14 : decode cX5_spell 14 = .ok (.iconst 0, 1) := by decide +kernel
theorem dX5_spell_15 : decode cX5_spell 15 = .ok (.istore_n 3, 1) := by decide +kernel
