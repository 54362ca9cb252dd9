theorem dX0_init_0 : decode cX0_init 0 = .ok (.aload_n 0, 1) := by decide +kernel
theorem dX0_init_1 : decode cX0_init 1 = .ok (.invokespecial 3, 3) := by decide +kernel
theorem dX0_init_4 : decode cX0_init 4 = .ok (.return_, 1) := by decide +kernel
theorem dX0_run_0 : decode cX0_run 0 = .ok (.aload_n 0, 1) := by decide +kernel
theorem dX0_run_1 : decode cX0_run 1 = .ok (.ldc 9, 2) := by decide +kernel
theorem dX0_run_3 : decode cX0_run 3 = .ok (.putfield 10, 3) := by decide +kernel
theorem dX0_run_6 : decode cX0_run 6 = .ok (.aload_n 0, 1) := by decide +kernel
theorem dX0_run_7 : decode cX0_run 7 = .ok (.iconst 0, 1) := by decide +kernel
theorem dX0_run_8 : decode cX0_run 8 = .ok (.putfield 16, 3) := by decide +kernel
theorem dX0_run_11 : decode cX0_run 11 = .ok (.aload_n 0, 1) := by decide +kernel
theorem dX0_run_12 : decode cX0_run 12 = .ok (.getfield 16, 3) := by decide +kernel
theorem dX0_run_15 : decode cX0_run 15 = .ok (.aload_n 1, 1) := by decide +kernel
theorem dX0_run_16 : decode cX0_run 16 = .ok (.getfield 19, 3) := by decide +kernel
theorem dX0_run_19 : decode cX0_run 19 = .ok (.if_icmp .ge 72, 3) := by decide +kernel
theorem dX0_run_22 : decode cX0_run 22 = .ok (.aload_n 1, 1) := by decide +kernel
theorem dX0_run_23 : decode cX0_run 23 = .ok (.aload_n 2, 1) := by decide +kernel
theorem dX0_run_24 : decode cX0_run 24 = .ok (.aload_n 0, 1) := by decide +kernel
theorem dX0_run_25 : decode cX0_run 25 = .ok (.getfield 16, 3) := by decide +kernel
theorem dX0_run_28 : decode cX0_run 28 = .ok (.iload_n 3, 1) := by decide +kernel
theorem dX0_run_29 : decode cX0_run 29 = .ok (.iload 5, 2) := by decide +kernel
theorem dX0_run_31 : decode cX0_run 31 = .ok (.invokevirtual 24, 3) := by decide +kernel
theorem dX0_run_34 : decode cX0_run 34 = .ok (.istore 6, 2) := by decide +kernel
theorem dX0_run_36 : decode cX0_run 36 = .ok (.aload_n 1, 1) := by decide +kernel
theorem dX0_run_37 : decode cX0_run 37 = .ok (.aload_n 2, 1) := by decide +kernel
theorem dX0_run_38 : decode cX0_run 38 = .ok (.aload_n 0, 1) := by decide +kernel
theorem dX0_run_39 : decode cX0_run 39 = .ok (.getfield 16, 3) := by decide +kernel
theorem dX0_run_42 : decode cX0_run 42 = .ok (.invokevirtual 28, 3) := by decide +kernel
theorem dX0_run_45 : decode cX0_run 45 = .ok (.ifCond .eq 9, 3) := by decide +kernel
theorem dX0_run_48 : decode cX0_run 48 = .ok (.aload_n 0, 1) := by decide +kernel
theorem dX0_run_49 : decode cX0_run 49 = .ok (.iconst 1, 1) := by decide +kernel
theorem dX0_run_50 : decode cX0_run 50 = .ok (.putfield 32, 3) := by decide +kernel
theorem dX0_run_53 : decode cX0_run 53 = .ok (.return_, 1) := by decide +kernel
theorem dX0_run_54 : decode cX0_run 54 = .ok (.iload 6, 2) := by decide +kernel
theorem dX0_run_56 : decode cX0_run 56 = .ok (.ifCond .ge 9, 3) := by decide +kernel
theorem dX0_run_59 : decode cX0_run 59 = .ok (.aload_n 0, 1) := by decide +kernel
theorem dX0_run_60 : decode cX0_run 60 = .ok (.iconst 2, 1) := by decide +kernel
theorem dX0_run_61 : decode cX0_run 61 = .ok (.putfield 32, 3) := by decide +kernel
theorem dX0_run_64 : decode cX0_run 64 = .ok (.return_, 1) := by decide +kernel
theorem dX0_run_65 : decode cX0_run 65 = .ok (.aload_n 0, 1) := by decide +kernel
theorem dX0_run_66 : decode cX0_run 66 = .ok (.aload_n 0, 1) := by decide +kernel
theorem dX0_run_67 : decode cX0_run 67 = .ok (.getfield 10, 3) := by decide +kernel
theorem dX0_run_70 : decode cX0_run 70 = .ok (.iload 6, 2) := by decide +kernel
theorem dX0_run_72 : decode cX0_run 72 = .ok (.invokestatic 35, 3) := by decide +kernel
theorem dX0_run_75 : decode cX0_run 75 = .ok (.putfield 10, 3) := by decide +kernel
theorem dX0_run_78 : decode cX0_run 78 = .ok (.aload_n 0, 1) := by decide +kernel
theorem dX0_run_79 : decode cX0_run 79 = .ok (.dup, 1) := by decide +kernel
theorem dX0_run_80 : decode cX0_run 80 = .ok (.getfield 16, 3) := by decide +kernel
theorem dX0_run_83 : decode cX0_run 83 = .ok (.iconst 1, 1) := by decide +kernel
theorem dX0_run_84 : decode cX0_run 84 = .ok (.iadd, 1) := by decide +kernel
theorem dX0_run_85 : decode cX0_run 85 = .ok (.putfield 16, 3) := by decide +kernel
theorem dX0_run_88 : decode cX0_run 88 = .ok (.goto (-77), 3) := by decide +kernel
theorem dX0_run_91 : decode cX0_run 91 = .ok (.aload_n 1, 1) := by decide +kernel
theorem dX0_run_92 : decode cX0_run 92 = .ok (.getfield 41, 3) := by decide +kernel
theorem dX0_run_95 : decode cX0_run 95 = .ok (.aload_n 1, 1) := by decide +kernel
theorem dX0_run_96 : decode cX0_run 96 = .ok (.getfield 19, 3) := by decide +kernel
theorem dX0_run_99 : decode cX0_run 99 = .ok (.iconst 1, 1) := by decide +kernel
theorem dX0_run_100 : decode cX0_run 100 = .ok (.invokestatic 45, 3) := by decide +kernel
theorem dX0_run_103 : decode cX0_run 103 = .ok (.iconst 1, 1) := by decide +kernel
theorem dX0_run_104 : decode cX0_run 104 = .ok (.isub, 1) := by decide +kernel
theorem dX0_run_105 : decode cX0_run 105 = .ok (.iaload, 1) := by decide +kernel
theorem dX0_run_106 : decode cX0_run 106 = .ok (.istore 6, 2) := by decide +kernel
theorem dX0_run_108 : decode cX0_run 108 = .ok (.aload_n 2, 1) := by decide +kernel
theorem dX0_run_109 : decode cX0_run 109 = .ok (.getfield 48, 3) := by decide +kernel
theorem dX0_run_112 : decode cX0_run 112 = .ok (.getfield 54, 3) := by decide +kernel
theorem dX0_run_115 : decode cX0_run 115 = .ok (.aload_n 2, 1) := by decide +kernel
theorem dX0_run_116 : decode cX0_run 116 = .ok (.getfield 48, 3) := by decide +kernel
theorem dX0_run_119 : decode cX0_run 119 = .ok (.getfield 60, 3) := by decide +kernel
theorem dX0_run_122 : decode cX0_run 122 = .ok (.iload 6, 2) := by decide +kernel
theorem dX0_run_124 : decode cX0_run 124 = .ok (.iaload, 1) := by decide +kernel
theorem dX0_run_125 : decode cX0_run 125 = .ok (.aaload, 1) := by decide +kernel
theorem dX0_run_126 : decode cX0_run 126 = .ok (.iload 4, 2) := by decide +kernel
theorem dX0_run_128 : decode cX0_run 128 = .ok (.iaload, 1) := by decide +kernel
theorem dX0_run_129 : decode cX0_run 129 = .ok (.istore 7, 2) := by decide +kernel
theorem dX0_run_131 : decode cX0_run 131 = .ok (.aload_n 0, 1) := by decide +kernel
theorem dX0_run_132 : decode cX0_run 132 = .ok (.iload 7, 2) := by decide +kernel
theorem dX0_run_134 : decode cX0_run 134 = .ok (.ldc 9, 2) := by decide +kernel
theorem dX0_run_136 : decode cX0_run 136 = .ok (.if_icmp .lt 7, 3) := by decide +kernel
theorem dX0_run_139 : decode cX0_run 139 = .ok (.iconst 3, 1) := by decide +kernel
theorem dX0_run_140 : decode cX0_run 140 = .ok (.goto 4, 3) := by decide +kernel
theorem dX0_run_143 : decode cX0_run 143 = .ok (.iconst 0, 1) := by decide +kernel
theorem dX0_run_144 : decode cX0_run 144 = .ok (.putfield 32, 3) := by decide +kernel
theorem dX0_run_147 : decode cX0_run 147 = .ok (.aload_n 0, 1) := by decide +kernel
theorem dX0_run_148 : decode cX0_run 148 = .ok (.aload_n 2, 1) := by decide +kernel
theorem dX0_run_149 : decode cX0_run 149 = .ok (.getfield 63, 3) := by decide +kernel
theorem dX0_run_152 : decode cX0_run 152 = .ok (.iload 6, 2) := by decide +kernel
theorem dX0_run_154 : decode cX0_run 154 = .ok (.iaload, 1) := by decide +kernel
theorem dX0_run_155 : decode cX0_run 155 = .ok (.iload 7, 2) := by decide +kernel
theorem dX0_run_157 : decode cX0_run 157 = .ok (.iadd, 1) := by decide +kernel
theorem dX0_run_158 : decode cX0_run 158 = .ok (.putfield 66, 3) := by decide +kernel
theorem dX0_run_161 : decode cX0_run 161 = .ok (.return_, 1) := by decide +kernel
theorem dX1_add_0 : decode cX1_add 0 = .ok (.aload_n 0, 1) := by decide +kernel
theorem dX1_add_1 : decode cX1_add 1 = .ok (.getfield 18, 3) := by decide +kernel
theorem dX1_add_4 : decode cX1_add 4 = .ok (.bipush 6, 2) := by decide +kernel
theorem dX1_add_6 : decode cX1_add 6 = .ok (.if_icmp .ge 33, 3) := by decide +kernel
theorem dX1_add_9 : decode cX1_add 9 = .ok (.aload_n 0, 1) := by decide +kernel
theorem dX1_add_10 : decode cX1_add 10 = .ok (.getfield 9, 3) := by decide +kernel
theorem dX1_add_13 : decode cX1_add 13 = .ok (.aload_n 0, 1) := by decide +kernel
theorem dX1_add_14 : decode cX1_add 14 = .ok (.getfield 18, 3) := by decide +kernel
theorem dX1_add_17 : decode cX1_add 17 = .ok (.iload_n 1, 1) := by decide +kernel
theorem dX1_add_18 : decode cX1_add 18 = .ok (.iastore, 1) := by decide +kernel
theorem dX1_add_19 : decode cX1_add 19 = .ok (.aload_n 0, 1) := by decide +kernel
theorem dX1_add_20 : decode cX1_add 20 = .ok (.getfield 15, 3) := by decide +kernel
theorem dX1_add_23 : decode cX1_add 23 = .ok (.aload_n 0, 1) := by decide +kernel
theorem dX1_add_24 : decode cX1_add 24 = .ok (.getfield 18, 3) := by decide +kernel
theorem dX1_add_27 : decode cX1_add 27 = .ok (.iload_n 2, 1) := by decide +kernel
theorem dX1_add_28 : decode cX1_add 28 = .ok (.iastore, 1) := by decide +kernel
theorem dX1_add_29 : decode cX1_add 29 = .ok (.aload_n 0, 1) := by decide +kernel
theorem dX1_add_30 : decode cX1_add 30 = .ok (.dup, 1) := by decide +kernel
theorem dX1_add_31 : decode cX1_add 31 = .ok (.getfield 18, 3) := by decide +kernel
theorem dX1_add_34 : decode cX1_add 34 = .ok (.iconst 1, 1) := by decide +kernel
theorem dX1_add_35 : decode cX1_add 35 = .ok (.iadd, 1) := by decide +kernel
theorem dX1_add_36 : decode cX1_add 36 = .ok (.putfield 18, 3) := by decide +kernel
theorem dX1_add_39 : decode cX1_add 39 = .ok (.return_, 1) := by decide +kernel
theorem dX1_areOn_0 : decode cX1_areOn 0 = .ok (.iconst 0, 1) := by decide +kernel
theorem dX1_areOn_1 : decode cX1_areOn 1 = .ok (.istore_n 3, 1) := by decide +kernel
theorem dX1_areOn_2 : decode cX1_areOn 2 = .ok (.iload_n 3, 1) := by decide +kernel
theorem dX1_areOn_3 : decode cX1_areOn 3 = .ok (.aload_n 0, 1) := by decide +kernel
theorem dX1_areOn_4 : decode cX1_areOn 4 = .ok (.getfield 18, 3) := by decide +kernel
theorem dX1_areOn_7 : decode cX1_areOn 7 = .ok (.if_icmp .ge 26, 3) := by decide +kernel
theorem dX1_areOn_10 : decode cX1_areOn 10 = .ok (.aload_n 1, 1) := by decide +kernel
theorem dX1_areOn_11 : decode cX1_areOn 11 = .ok (.getfield 59, 3) := by decide +kernel
theorem dX1_areOn_14 : decode cX1_areOn 14 = .ok (.aload_n 0, 1) := by decide +kernel
theorem dX1_areOn_15 : decode cX1_areOn 15 = .ok (.getfield 9, 3) := by decide +kernel
theorem dX1_areOn_18 : decode cX1_areOn 18 = .ok (.iload_n 3, 1) := by decide +kernel
theorem dX1_areOn_19 : decode cX1_areOn 19 = .ok (.iaload, 1) := by decide +kernel
theorem dX1_areOn_20 : decode cX1_areOn 20 = .ok (.iaload, 1) := by decide +kernel
theorem dX1_areOn_21 : decode cX1_areOn 21 = .ok (.iload_n 2, 1) := by decide +kernel
theorem dX1_areOn_22 : decode cX1_areOn 22 = .ok (.if_icmp .ne 5, 3) := by decide +kernel
theorem dX1_areOn_25 : decode cX1_areOn 25 = .ok (.iconst 1, 1) := by decide +kernel
theorem dX1_areOn_26 : decode cX1_areOn 26 = .ok (.ireturn, 1) := by decide +kernel
theorem dX1_areOn_27 : decode cX1_areOn 27 = .ok (.iinc 3 1, 3) := by decide +kernel
theorem dX1_areOn_30 : decode cX1_areOn 30 = .ok (.goto (-28), 3) := by decide +kernel
theorem dX1_areOn_33 : decode cX1_areOn 33 = .ok (.iconst 0, 1) := by decide +kernel
theorem dX1_areOn_34 : decode cX1_areOn 34 = .ok (.ireturn, 1) := by decide +kernel
theorem dX1_brokenBy_0 : decode cX1_brokenBy 0 = .ok (.iconst 1, 1) := by decide +kernel
theorem dX1_brokenBy_1 : decode cX1_brokenBy 1 = .ok (.istore 4, 2) := by decide +kernel
theorem dX1_brokenBy_3 : decode cX1_brokenBy 3 = .ok (.iload 4, 2) := by decide +kernel
theorem dX1_brokenBy_5 : decode cX1_brokenBy 5 = .ok (.aload_n 0, 1) := by decide +kernel
theorem dX1_brokenBy_6 : decode cX1_brokenBy 6 = .ok (.getfield 18, 3) := by decide +kernel
theorem dX1_brokenBy_9 : decode cX1_brokenBy 9 = .ok (.if_icmp .ge 90, 3) := by decide +kernel
theorem dX1_brokenBy_12 : decode cX1_brokenBy 12 = .ok (.aload_n 1, 1) := by decide +kernel
theorem dX1_brokenBy_13 : decode cX1_brokenBy 13 = .ok (.aload_n 0, 1) := by decide +kernel
theorem dX1_brokenBy_14 : decode cX1_brokenBy 14 = .ok (.getfield 15, 3) := by decide +kernel
theorem dX1_brokenBy_17 : decode cX1_brokenBy 17 = .ok (.iload 4, 2) := by decide +kernel
theorem dX1_brokenBy_19 : decode cX1_brokenBy 19 = .ok (.iconst 1, 1) := by decide +kernel
theorem dX1_brokenBy_20 : decode cX1_brokenBy 20 = .ok (.isub, 1) := by decide +kernel
theorem dX1_brokenBy_21 : decode cX1_brokenBy 21 = .ok (.iaload, 1) := by decide +kernel
theorem dX1_brokenBy_22 : decode cX1_brokenBy 22 = .ok (.aload_n 0, 1) := by decide +kernel
theorem dX1_brokenBy_23 : decode cX1_brokenBy 23 = .ok (.getfield 9, 3) := by decide +kernel
theorem dX1_brokenBy_26 : decode cX1_brokenBy 26 = .ok (.iload 4, 2) := by decide +kernel
theorem dX1_brokenBy_28 : decode cX1_brokenBy 28 = .ok (.iaload, 1) := by decide +kernel
theorem dX1_brokenBy_29 : decode cX1_brokenBy 29 = .ok (.invokevirtual 50, 3) := by decide +kernel
theorem dX1_brokenBy_32 : decode cX1_brokenBy 32 = .ok (.istore 5, 2) := by decide +kernel
theorem dX1_brokenBy_34 : decode cX1_brokenBy 34 = .ok (.aload_n 1, 1) := by decide +kernel
theorem dX1_brokenBy_35 : decode cX1_brokenBy 35 = .ok (.getfield 62, 3) := by decide +kernel
theorem dX1_brokenBy_38 : decode cX1_brokenBy 38 = .ok (.getfield 59, 3) := by decide +kernel
theorem dX1_brokenBy_41 : decode cX1_brokenBy 41 = .ok (.aload_n 0, 1) := by decide +kernel
theorem dX1_brokenBy_42 : decode cX1_brokenBy 42 = .ok (.getfield 9, 3) := by decide +kernel
theorem dX1_brokenBy_45 : decode cX1_brokenBy 45 = .ok (.iload 4, 2) := by decide +kernel
theorem dX1_brokenBy_47 : decode cX1_brokenBy 47 = .ok (.iaload, 1) := by decide +kernel
theorem dX1_brokenBy_48 : decode cX1_brokenBy 48 = .ok (.iaload, 1) := by decide +kernel
theorem dX1_brokenBy_49 : decode cX1_brokenBy 49 = .ok (.iload_n 2, 1) := by decide +kernel
theorem dX1_brokenBy_50 : decode cX1_brokenBy 50 = .ok (.if_icmp .ne 9, 3) := by decide +kernel
theorem dX1_brokenBy_53 : decode cX1_brokenBy 53 = .ok (.iload 5, 2) := by decide +kernel
theorem dX1_brokenBy_55 : decode cX1_brokenBy 55 = .ok (.iload_n 3, 1) := by decide +kernel
theorem dX1_brokenBy_56 : decode cX1_brokenBy 56 = .ok (.iadd, 1) := by decide +kernel
theorem dX1_brokenBy_57 : decode cX1_brokenBy 57 = .ok (.istore 5, 2) := by decide +kernel
theorem dX1_brokenBy_59 : decode cX1_brokenBy 59 = .ok (.aload_n 1, 1) := by decide +kernel
theorem dX1_brokenBy_60 : decode cX1_brokenBy 60 = .ok (.getfield 62, 3) := by decide +kernel
theorem dX1_brokenBy_63 : decode cX1_brokenBy 63 = .ok (.getfield 59, 3) := by decide +kernel
theorem dX1_brokenBy_66 : decode cX1_brokenBy 66 = .ok (.aload_n 0, 1) := by decide +kernel
theorem dX1_brokenBy_67 : decode cX1_brokenBy 67 = .ok (.getfield 15, 3) := by decide +kernel
theorem dX1_brokenBy_70 : decode cX1_brokenBy 70 = .ok (.iload 4, 2) := by decide +kernel
theorem dX1_brokenBy_72 : decode cX1_brokenBy 72 = .ok (.iconst 1, 1) := by decide +kernel
theorem dX1_brokenBy_73 : decode cX1_brokenBy 73 = .ok (.isub, 1) := by decide +kernel
theorem dX1_brokenBy_74 : decode cX1_brokenBy 74 = .ok (.iaload, 1) := by decide +kernel
theorem dX1_brokenBy_75 : decode cX1_brokenBy 75 = .ok (.iaload, 1) := by decide +kernel
theorem dX1_brokenBy_76 : decode cX1_brokenBy 76 = .ok (.iload_n 2, 1) := by decide +kernel
theorem dX1_brokenBy_77 : decode cX1_brokenBy 77 = .ok (.if_icmp .ne 9, 3) := by decide +kernel
theorem dX1_brokenBy_80 : decode cX1_brokenBy 80 = .ok (.iload 5, 2) := by decide +kernel
theorem dX1_brokenBy_82 : decode cX1_brokenBy 82 = .ok (.iload_n 3, 1) := by decide +kernel
theorem dX1_brokenBy_83 : decode cX1_brokenBy 83 = .ok (.isub, 1) := by decide +kernel
theorem dX1_brokenBy_84 : decode cX1_brokenBy 84 = .ok (.istore 5, 2) := by decide +kernel
theorem dX1_brokenBy_86 : decode cX1_brokenBy 86 = .ok (.iload 5, 2) := by decide +kernel
theorem dX1_brokenBy_88 : decode cX1_brokenBy 88 = .ok (.ifCond .ge 5, 3) := by decide +kernel
theorem dX1_brokenBy_91 : decode cX1_brokenBy 91 = .ok (.iconst 1, 1) := by decide +kernel
theorem dX1_brokenBy_92 : decode cX1_brokenBy 92 = .ok (.ireturn, 1) := by decide +kernel
theorem dX1_brokenBy_93 : decode cX1_brokenBy 93 = .ok (.iinc 4 1, 3) := by decide +kernel
theorem dX1_brokenBy_96 : decode cX1_brokenBy 96 = .ok (.goto (-93), 3) := by decide +kernel
theorem dX1_brokenBy_99 : decode cX1_brokenBy 99 = .ok (.iconst 0, 1) := by decide +kernel
theorem dX1_brokenBy_100 : decode cX1_brokenBy 100 = .ok (.ireturn, 1) := by decide +kernel
theorem dX1_clear_0 : decode cX1_clear 0 = .ok (.aload_n 0, 1) := by decide +kernel
theorem dX1_clear_1 : decode cX1_clear 1 = .ok (.iconst 0, 1) := by decide +kernel
theorem dX1_clear_2 : decode cX1_clear 2 = .ok (.putfield 18, 3) := by decide +kernel
theorem dX1_clear_5 : decode cX1_clear 5 = .ok (.return_, 1) := by decide +kernel
theorem dX1_copy_0 : decode cX1_copy 0 = .ok (.aload_n 0, 1) := by decide +kernel
theorem dX1_copy_1 : decode cX1_copy 1 = .ok (.invokevirtual 22, 3) := by decide +kernel
theorem dX1_copy_4 : decode cX1_copy 4 = .ok (.iconst 0, 1) := by decide +kernel
theorem dX1_copy_5 : decode cX1_copy 5 = .ok (.istore_n 2, 1) := by decide +kernel
theorem dX1_copy_6 : decode cX1_copy 6 = .ok (.iload_n 2, 1) := by decide +kernel
theorem dX1_copy_7 : decode cX1_copy 7 = .ok (.aload_n 1, 1) := by decide +kernel
theorem dX1_copy_8 : decode cX1_copy 8 = .ok (.getfield 18, 3) := by decide +kernel
theorem dX1_copy_11 : decode cX1_copy 11 = .ok (.if_icmp .ge 25, 3) := by decide +kernel
theorem dX1_copy_14 : decode cX1_copy 14 = .ok (.aload_n 0, 1) := by decide +kernel
theorem dX1_copy_15 : decode cX1_copy 15 = .ok (.aload_n 1, 1) := by decide +kernel
theorem dX1_copy_16 : decode cX1_copy 16 = .ok (.getfield 9, 3) := by decide +kernel
theorem dX1_copy_19 : decode cX1_copy 19 = .ok (.iload_n 2, 1) := by decide +kernel
theorem dX1_copy_20 : decode cX1_copy 20 = .ok (.iaload, 1) := by decide +kernel
theorem dX1_copy_21 : decode cX1_copy 21 = .ok (.aload_n 1, 1) := by decide +kernel
theorem dX1_copy_22 : decode cX1_copy 22 = .ok (.getfield 15, 3) := by decide +kernel
theorem dX1_copy_25 : decode cX1_copy 25 = .ok (.iload_n 2, 1) := by decide +kernel
theorem dX1_copy_26 : decode cX1_copy 26 = .ok (.iaload, 1) := by decide +kernel
theorem dX1_copy_27 : decode cX1_copy 27 = .ok (.invokevirtual 25, 3) := by decide +kernel
theorem dX1_copy_30 : decode cX1_copy 30 = .ok (.iinc 2 1, 3) := by decide +kernel
theorem dX1_copy_33 : decode cX1_copy 33 = .ok (.goto (-27), 3) := by decide +kernel
theorem dX1_copy_36 : decode cX1_copy 36 = .ok (.return_, 1) := by decide +kernel
theorem dX1_init_0 : decode cX1_init 0 = .ok (.aload_n 0, 1) := by decide +kernel
theorem dX1_init_1 : decode cX1_init 1 = .ok (.invokespecial 3, 3) := by decide +kernel
theorem dX1_init_4 : decode cX1_init 4 = .ok (.aload_n 0, 1) := by decide +kernel
theorem dX1_init_5 : decode cX1_init 5 = .ok (.bipush 6, 2) := by decide +kernel
theorem dX1_init_7 : decode cX1_init 7 = .ok (.newarray .int, 2) := by decide +kernel
theorem dX1_init_9 : decode cX1_init 9 = .ok (.putfield 9, 3) := by decide +kernel
theorem dX1_init_12 : decode cX1_init 12 = .ok (.aload_n 0, 1) := by decide +kernel
theorem dX1_init_13 : decode cX1_init 13 = .ok (.bipush 6, 2) := by decide +kernel
theorem dX1_init_15 : decode cX1_init 15 = .ok (.newarray .int, 2) := by decide +kernel
theorem dX1_init_17 : decode cX1_init 17 = .ok (.putfield 15, 3) := by decide +kernel
theorem dX1_init_20 : decode cX1_init 20 = .ok (.return_, 1) := by decide +kernel
theorem dX1_isCancelled_0 : decode cX1_isCancelled 0 = .ok (.aload_n 0, 1) := by decide +kernel
theorem dX1_isCancelled_1 : decode cX1_isCancelled 1 = .ok (.getfield 9, 3) := by decide +kernel
theorem dX1_isCancelled_4 : decode cX1_isCancelled 4 = .ok (.iload_n 2, 1) := by decide +kernel
theorem dX1_isCancelled_5 : decode cX1_isCancelled 5 = .ok (.iaload, 1) := by decide +kernel
theorem dX1_isCancelled_6 : decode cX1_isCancelled 6 = .ok (.istore_n 3, 1) := by decide +kernel
theorem dX1_isCancelled_7 : decode cX1_isCancelled 7 = .ok (.iload_n 3, 1) := by decide +kernel
theorem dX1_isCancelled_8 : decode cX1_isCancelled 8 = .ok (.aload_n 0, 1) := by decide +kernel
theorem dX1_isCancelled_9 : decode cX1_isCancelled 9 = .ok (.getfield 15, 3) := by decide +kernel
theorem dX1_isCancelled_12 : decode cX1_isCancelled 12 = .ok (.iload_n 2, 1) := by decide +kernel
theorem dX1_isCancelled_13 : decode cX1_isCancelled 13 = .ok (.iaload, 1) := by decide +kernel
theorem dX1_isCancelled_14 : decode cX1_isCancelled 14 = .ok (.if_icmp .gt 19, 3) := by decide +kernel
theorem dX1_isCancelled_17 : decode cX1_isCancelled 17 = .ok (.aload_n 1, 1) := by decide +kernel
theorem dX1_isCancelled_18 : decode cX1_isCancelled 18 = .ok (.iload_n 3, 1) := by decide +kernel
theorem dX1_isCancelled_19 : decode cX1_isCancelled 19 = .ok (.invokevirtual 66, 3) := by decide +kernel
theorem dX1_isCancelled_22 : decode cX1_isCancelled 22 = .ok (.ifCond .eq 5, 3) := by decide +kernel
theorem dX1_isCancelled_25 : decode cX1_isCancelled 25 = .ok (.iconst 1, 1) := by decide +kernel
theorem dX1_isCancelled_26 : decode cX1_isCancelled 26 = .ok (.ireturn, 1) := by decide +kernel
theorem dX1_isCancelled_27 : decode cX1_isCancelled 27 = .ok (.iinc 3 1, 3) := by decide +kernel
theorem dX1_isCancelled_30 : decode cX1_isCancelled 30 = .ok (.goto (-23), 3) := by decide +kernel
theorem dX1_isCancelled_33 : decode cX1_isCancelled 33 = .ok (.iconst 0, 1) := by decide +kernel
theorem dX1_isCancelled_34 : decode cX1_isCancelled 34 = .ok (.ireturn, 1) := by decide +kernel
theorem dX1_leastSlack_0 : decode cX1_leastSlack 0 = .ok (.ldc 49, 2) := by decide +kernel
theorem dX1_leastSlack_2 : decode cX1_leastSlack 2 = .ok (.istore_n 2, 1) := by decide +kernel
theorem dX1_leastSlack_3 : decode cX1_leastSlack 3 = .ok (.iconst 1, 1) := by decide +kernel
theorem dX1_leastSlack_4 : decode cX1_leastSlack 4 = .ok (.istore_n 3, 1) := by decide +kernel
theorem dX1_leastSlack_5 : decode cX1_leastSlack 5 = .ok (.iload_n 3, 1) := by decide +kernel
theorem dX1_leastSlack_6 : decode cX1_leastSlack 6 = .ok (.aload_n 0, 1) := by decide +kernel
theorem dX1_leastSlack_7 : decode cX1_leastSlack 7 = .ok (.getfield 18, 3) := by decide +kernel
theorem dX1_leastSlack_10 : decode cX1_leastSlack 10 = .ok (.if_icmp .ge 32, 3) := by decide +kernel
theorem dX1_leastSlack_13 : decode cX1_leastSlack 13 = .ok (.iload_n 2, 1) := by decide +kernel
theorem dX1_leastSlack_14 : decode cX1_leastSlack 14 = .ok (.aload_n 1, 1) := by decide +kernel
theorem dX1_leastSlack_15 : decode cX1_leastSlack 15 = .ok (.aload_n 0, 1) := by decide +kernel
theorem dX1_leastSlack_16 : decode cX1_leastSlack 16 = .ok (.getfield 15, 3) := by decide +kernel
theorem dX1_leastSlack_19 : decode cX1_leastSlack 19 = .ok (.iload_n 3, 1) := by decide +kernel
theorem dX1_leastSlack_20 : decode cX1_leastSlack 20 = .ok (.iconst 1, 1) := by decide +kernel
theorem dX1_leastSlack_21 : decode cX1_leastSlack 21 = .ok (.isub, 1) := by decide +kernel
theorem dX1_leastSlack_22 : decode cX1_leastSlack 22 = .ok (.iaload, 1) := by decide +kernel
theorem dX1_leastSlack_23 : decode cX1_leastSlack 23 = .ok (.aload_n 0, 1) := by decide +kernel
theorem dX1_leastSlack_24 : decode cX1_leastSlack 24 = .ok (.getfield 9, 3) := by decide +kernel
theorem dX1_leastSlack_27 : decode cX1_leastSlack 27 = .ok (.iload_n 3, 1) := by decide +kernel
theorem dX1_leastSlack_28 : decode cX1_leastSlack 28 = .ok (.iaload, 1) := by decide +kernel
theorem dX1_leastSlack_29 : decode cX1_leastSlack 29 = .ok (.invokevirtual 50, 3) := by decide +kernel
theorem dX1_leastSlack_32 : decode cX1_leastSlack 32 = .ok (.invokestatic 54, 3) := by decide +kernel
theorem dX1_leastSlack_35 : decode cX1_leastSlack 35 = .ok (.istore_n 2, 1) := by decide +kernel
theorem dX1_leastSlack_36 : decode cX1_leastSlack 36 = .ok (.iinc 3 1, 3) := by decide +kernel
theorem dX1_leastSlack_39 : decode cX1_leastSlack 39 = .ok (.goto (-34), 3) := by decide +kernel
theorem dX1_leastSlack_42 : decode cX1_leastSlack 42 = .ok (.iload_n 2, 1) := by decide +kernel
theorem dX1_leastSlack_43 : decode cX1_leastSlack 43 = .ok (.ireturn, 1) := by decide +kernel
theorem dX1_minutesOn_0 : decode cX1_minutesOn 0 = .ok (.iconst 0, 1) := by decide +kernel
theorem dX1_minutesOn_1 : decode cX1_minutesOn 1 = .ok (.istore_n 2, 1) := by decide +kernel
theorem dX1_minutesOn_2 : decode cX1_minutesOn 2 = .ok (.iconst 0, 1) := by decide +kernel
theorem dX1_minutesOn_3 : decode cX1_minutesOn 3 = .ok (.istore_n 3, 1) := by decide +kernel
theorem dX1_minutesOn_4 : decode cX1_minutesOn 4 = .ok (.iload_n 3, 1) := by decide +kernel
theorem dX1_minutesOn_5 : decode cX1_minutesOn 5 = .ok (.aload_n 0, 1) := by decide +kernel
theorem dX1_minutesOn_6 : decode cX1_minutesOn 6 = .ok (.getfield 18, 3) := by decide +kernel
theorem dX1_minutesOn_9 : decode cX1_minutesOn 9 = .ok (.if_icmp .ge 35, 3) := by decide +kernel
theorem dX1_minutesOn_12 : decode cX1_minutesOn 12 = .ok (.iload_n 2, 1) := by decide +kernel
theorem dX1_minutesOn_13 : decode cX1_minutesOn 13 = .ok (.aload_n 1, 1) := by decide +kernel
theorem dX1_minutesOn_14 : decode cX1_minutesOn 14 = .ok (.getfield 29, 3) := by decide +kernel
theorem dX1_minutesOn_17 : decode cX1_minutesOn 17 = .ok (.aload_n 0, 1) := by decide +kernel
theorem dX1_minutesOn_18 : decode cX1_minutesOn 18 = .ok (.getfield 15, 3) := by decide +kernel
theorem dX1_minutesOn_21 : decode cX1_minutesOn 21 = .ok (.iload_n 3, 1) := by decide +kernel
theorem dX1_minutesOn_22 : decode cX1_minutesOn 22 = .ok (.iaload, 1) := by decide +kernel
theorem dX1_minutesOn_23 : decode cX1_minutesOn 23 = .ok (.iaload, 1) := by decide +kernel
theorem dX1_minutesOn_24 : decode cX1_minutesOn 24 = .ok (.aload_n 1, 1) := by decide +kernel
theorem dX1_minutesOn_25 : decode cX1_minutesOn 25 = .ok (.getfield 34, 3) := by decide +kernel
theorem dX1_minutesOn_28 : decode cX1_minutesOn 28 = .ok (.aload_n 0, 1) := by decide +kernel
theorem dX1_minutesOn_29 : decode cX1_minutesOn 29 = .ok (.getfield 9, 3) := by decide +kernel
theorem dX1_minutesOn_32 : decode cX1_minutesOn 32 = .ok (.iload_n 3, 1) := by decide +kernel
theorem dX1_minutesOn_33 : decode cX1_minutesOn 33 = .ok (.iaload, 1) := by decide +kernel
theorem dX1_minutesOn_34 : decode cX1_minutesOn 34 = .ok (.iaload, 1) := by decide +kernel
theorem dX1_minutesOn_35 : decode cX1_minutesOn 35 = .ok (.isub, 1) := by decide +kernel
theorem dX1_minutesOn_36 : decode cX1_minutesOn 36 = .ok (.iadd, 1) := by decide +kernel
theorem dX1_minutesOn_37 : decode cX1_minutesOn 37 = .ok (.istore_n 2, 1) := by decide +kernel
theorem dX1_minutesOn_38 : decode cX1_minutesOn 38 = .ok (.iinc 3 1, 3) := by decide +kernel
theorem dX1_minutesOn_41 : decode cX1_minutesOn 41 = .ok (.goto (-37), 3) := by decide +kernel
theorem dX1_minutesOn_44 : decode cX1_minutesOn 44 = .ok (.iload_n 2, 1) := by decide +kernel
theorem dX1_minutesOn_45 : decode cX1_minutesOn 45 = .ok (.ireturn, 1) := by decide +kernel
theorem dX1_minutesWalked_0 : decode cX1_minutesWalked 0 = .ok (.iconst 0, 1) := by decide +kernel
theorem dX1_minutesWalked_1 : decode cX1_minutesWalked 1 = .ok (.istore 4, 2) := by decide +kernel
theorem dX1_minutesWalked_3 : decode cX1_minutesWalked 3 = .ok (.iload_n 2, 1) := by decide +kernel
theorem dX1_minutesWalked_4 : decode cX1_minutesWalked 4 = .ok (.istore 5, 2) := by decide +kernel
theorem dX1_minutesWalked_6 : decode cX1_minutesWalked 6 = .ok (.iconst 0, 1) := by decide +kernel
theorem dX1_minutesWalked_7 : decode cX1_minutesWalked 7 = .ok (.istore 6, 2) := by decide +kernel
theorem dX1_minutesWalked_9 : decode cX1_minutesWalked 9 = .ok (.iload 6, 2) := by decide +kernel
theorem dX1_minutesWalked_11 : decode cX1_minutesWalked 11 = .ok (.aload_n 0, 1) := by decide +kernel
theorem dX1_minutesWalked_12 : decode cX1_minutesWalked 12 = .ok (.getfield 18, 3) := by decide +kernel
theorem dX1_minutesWalked_15 : decode cX1_minutesWalked 15 = .ok (.if_icmp .ge 48, 3) := by decide +kernel
theorem dX1_minutesWalked_18 : decode cX1_minutesWalked 18 = .ok (.iload 4, 2) := by decide +kernel
theorem dX1_minutesWalked_20 : decode cX1_minutesWalked 20 = .ok (.aload_n 1, 1) := by decide +kernel
theorem dX1_minutesWalked_21 : decode cX1_minutesWalked 21 = .ok (.getfield 37, 3) := by decide +kernel
theorem dX1_minutesWalked_24 : decode cX1_minutesWalked 24 = .ok (.iload 5, 2) := by decide +kernel
theorem dX1_minutesWalked_26 : decode cX1_minutesWalked 26 = .ok (.aaload, 1) := by decide +kernel
theorem dX1_minutesWalked_27 : decode cX1_minutesWalked 27 = .ok (.aload_n 1, 1) := by decide +kernel
theorem dX1_minutesWalked_28 : decode cX1_minutesWalked 28 = .ok (.getfield 43, 3) := by decide +kernel
theorem dX1_minutesWalked_31 : decode cX1_minutesWalked 31 = .ok (.aload_n 0, 1) := by decide +kernel
theorem dX1_minutesWalked_32 : decode cX1_minutesWalked 32 = .ok (.getfield 9, 3) := by decide +kernel
theorem dX1_minutesWalked_35 : decode cX1_minutesWalked 35 = .ok (.iload 6, 2) := by decide +kernel
theorem dX1_minutesWalked_37 : decode cX1_minutesWalked 37 = .ok (.iaload, 1) := by decide +kernel
theorem dX1_minutesWalked_38 : decode cX1_minutesWalked 38 = .ok (.iaload, 1) := by decide +kernel
theorem dX1_minutesWalked_39 : decode cX1_minutesWalked 39 = .ok (.iaload, 1) := by decide +kernel
theorem dX1_minutesWalked_40 : decode cX1_minutesWalked 40 = .ok (.iadd, 1) := by decide +kernel
theorem dX1_minutesWalked_41 : decode cX1_minutesWalked 41 = .ok (.istore 4, 2) := by decide +kernel
theorem dX1_minutesWalked_43 : decode cX1_minutesWalked 43 = .ok (.aload_n 1, 1) := by decide +kernel
theorem dX1_minutesWalked_44 : decode cX1_minutesWalked 44 = .ok (.getfield 46, 3) := by decide +kernel
theorem dX1_minutesWalked_47 : decode cX1_minutesWalked 47 = .ok (.aload_n 0, 1) := by decide +kernel
theorem dX1_minutesWalked_48 : decode cX1_minutesWalked 48 = .ok (.getfield 15, 3) := by decide +kernel
theorem dX1_minutesWalked_51 : decode cX1_minutesWalked 51 = .ok (.iload 6, 2) := by decide +kernel
theorem dX1_minutesWalked_53 : decode cX1_minutesWalked 53 = .ok (.iaload, 1) := by decide +kernel
theorem dX1_minutesWalked_54 : decode cX1_minutesWalked 54 = .ok (.iaload, 1) := by decide +kernel
theorem dX1_minutesWalked_55 : decode cX1_minutesWalked 55 = .ok (.istore 5, 2) := by decide +kernel
theorem dX1_minutesWalked_57 : decode cX1_minutesWalked 57 = .ok (.iinc 6 1, 3) := by decide +kernel
theorem dX1_minutesWalked_60 : decode cX1_minutesWalked 60 = .ok (.goto (-51), 3) := by decide +kernel
theorem dX1_minutesWalked_63 : decode cX1_minutesWalked 63 = .ok (.iload 4, 2) := by decide +kernel
theorem dX1_minutesWalked_65 : decode cX1_minutesWalked 65 = .ok (.aload_n 1, 1) := by decide +kernel
theorem dX1_minutesWalked_66 : decode cX1_minutesWalked 66 = .ok (.getfield 37, 3) := by decide +kernel
theorem dX1_minutesWalked_69 : decode cX1_minutesWalked 69 = .ok (.iload 5, 2) := by decide +kernel
theorem dX1_minutesWalked_71 : decode cX1_minutesWalked 71 = .ok (.aaload, 1) := by decide +kernel
theorem dX1_minutesWalked_72 : decode cX1_minutesWalked 72 = .ok (.iload_n 3, 1) := by decide +kernel
theorem dX1_minutesWalked_73 : decode cX1_minutesWalked 73 = .ok (.iaload, 1) := by decide +kernel
theorem dX1_minutesWalked_74 : decode cX1_minutesWalked 74 = .ok (.iadd, 1) := by decide +kernel
theorem dX1_minutesWalked_75 : decode cX1_minutesWalked 75 = .ok (.ireturn, 1) := by decide +kernel
theorem dX1_rides_0 : decode cX1_rides 0 = .ok (.iconst 0, 1) := by decide +kernel
theorem dX1_rides_1 : decode cX1_rides 1 = .ok (.istore_n 1, 1) := by decide +kernel
theorem dX1_rides_2 : decode cX1_rides 2 = .ok (.iconst 0, 1) := by decide +kernel
theorem dX1_rides_3 : decode cX1_rides 3 = .ok (.istore_n 2, 1) := by decide +kernel
theorem dX1_rides_4 : decode cX1_rides 4 = .ok (.iload_n 2, 1) := by decide +kernel
theorem dX1_rides_5 : decode cX1_rides 5 = .ok (.aload_n 0, 1) := by decide +kernel
theorem dX1_rides_6 : decode cX1_rides 6 = .ok (.getfield 18, 3) := by decide +kernel
theorem dX1_rides_9 : decode cX1_rides 9 = .ok (.if_icmp .ge 27, 3) := by decide +kernel
theorem dX1_rides_12 : decode cX1_rides 12 = .ok (.iload_n 1, 1) := by decide +kernel
theorem dX1_rides_13 : decode cX1_rides 13 = .ok (.aload_n 0, 1) := by decide +kernel
theorem dX1_rides_14 : decode cX1_rides 14 = .ok (.getfield 15, 3) := by decide +kernel
theorem dX1_rides_17 : decode cX1_rides 17 = .ok (.iload_n 2, 1) := by decide +kernel
theorem dX1_rides_18 : decode cX1_rides 18 = .ok (.iaload, 1) := by decide +kernel
theorem dX1_rides_19 : decode cX1_rides 19 = .ok (.aload_n 0, 1) := by decide +kernel
theorem dX1_rides_20 : decode cX1_rides 20 = .ok (.getfield 9, 3) := by decide +kernel
theorem dX1_rides_23 : decode cX1_rides 23 = .ok (.iload_n 2, 1) := by decide +kernel
theorem dX1_rides_24 : decode cX1_rides 24 = .ok (.iaload, 1) := by decide +kernel
theorem dX1_rides_25 : decode cX1_rides 25 = .ok (.isub, 1) := by decide +kernel
theorem dX1_rides_26 : decode cX1_rides 26 = .ok (.iconst 1, 1) := by decide +kernel
theorem dX1_rides_27 : decode cX1_rides 27 = .ok (.iadd, 1) := by decide +kernel
theorem dX1_rides_28 : decode cX1_rides 28 = .ok (.iadd, 1) := by decide +kernel
theorem dX1_rides_29 : decode cX1_rides 29 = .ok (.istore_n 1, 1) := by decide +kernel
theorem dX1_rides_30 : decode cX1_rides 30 = .ok (.iinc 2 1, 3) := by decide +kernel
theorem dX1_rides_33 : decode cX1_rides 33 = .ok (.goto (-29), 3) := by decide +kernel
theorem dX1_rides_36 : decode cX1_rides 36 = .ok (.iload_n 1, 1) := by decide +kernel
theorem dX1_rides_37 : decode cX1_rides 37 = .ok (.ireturn, 1) := by decide +kernel
theorem dX1_timeToSpare_0 : decode cX1_timeToSpare 0 = .ok (.iload_n 2, 1) := by decide +kernel
theorem dX1_timeToSpare_1 : decode cX1_timeToSpare 1 = .ok (.ifCond .ne 8, 3) := by decide +kernel
theorem dX1_timeToSpare_4 : decode cX1_timeToSpare 4 = .ok (.iload 4, 2) := by decide +kernel
theorem dX1_timeToSpare_6 : decode cX1_timeToSpare 6 = .ok (.goto 16, 3) := by decide +kernel
theorem dX1_timeToSpare_9 : decode cX1_timeToSpare 9 = .ok (.aload_n 1, 1) := by decide +kernel
theorem dX1_timeToSpare_10 : decode cX1_timeToSpare 10 = .ok (.getfield 29, 3) := by decide +kernel
theorem dX1_timeToSpare_13 : decode cX1_timeToSpare 13 = .ok (.aload_n 0, 1) := by decide +kernel
theorem dX1_timeToSpare_14 : decode cX1_timeToSpare 14 = .ok (.getfield 15, 3) := by decide +kernel
theorem dX1_timeToSpare_17 : decode cX1_timeToSpare 17 = .ok (.iload_n 2, 1) := by decide +kernel
theorem dX1_timeToSpare_18 : decode cX1_timeToSpare 18 = .ok (.iconst 1, 1) := by decide +kernel
theorem dX1_timeToSpare_19 : decode cX1_timeToSpare 19 = .ok (.isub, 1) := by decide +kernel
theorem dX1_timeToSpare_20 : decode cX1_timeToSpare 20 = .ok (.iaload, 1) := by decide +kernel
theorem dX1_timeToSpare_21 : decode cX1_timeToSpare 21 = .ok (.iaload, 1) := by decide +kernel
theorem dX1_timeToSpare_22 : decode cX1_timeToSpare 22 = .ok (.istore 5, 2) := by decide +kernel
theorem dX1_timeToSpare_24 : decode cX1_timeToSpare 24 = .ok (.aload_n 1, 1) := by decide +kernel
theorem dX1_timeToSpare_25 : decode cX1_timeToSpare 25 = .ok (.getfield 34, 3) := by decide +kernel
theorem dX1_timeToSpare_28 : decode cX1_timeToSpare 28 = .ok (.aload_n 0, 1) := by decide +kernel
theorem dX1_timeToSpare_29 : decode cX1_timeToSpare 29 = .ok (.getfield 9, 3) := by decide +kernel
theorem dX1_timeToSpare_32 : decode cX1_timeToSpare 32 = .ok (.iload_n 2, 1) := by decide +kernel
theorem dX1_timeToSpare_33 : decode cX1_timeToSpare 33 = .ok (.iaload, 1) := by decide +kernel
theorem dX1_timeToSpare_34 : decode cX1_timeToSpare 34 = .ok (.iaload, 1) := by decide +kernel
theorem dX1_timeToSpare_35 : decode cX1_timeToSpare 35 = .ok (.iload 5, 2) := by decide +kernel
theorem dX1_timeToSpare_37 : decode cX1_timeToSpare 37 = .ok (.isub, 1) := by decide +kernel
theorem dX1_timeToSpare_38 : decode cX1_timeToSpare 38 = .ok (.aload_n 0, 1) := by decide +kernel
theorem dX1_timeToSpare_39 : decode cX1_timeToSpare 39 = .ok (.aload_n 1, 1) := by decide +kernel
theorem dX1_timeToSpare_40 : decode cX1_timeToSpare 40 = .ok (.getfield 62, 3) := by decide +kernel
theorem dX1_timeToSpare_43 : decode cX1_timeToSpare 43 = .ok (.iload_n 2, 1) := by decide +kernel
theorem dX1_timeToSpare_44 : decode cX1_timeToSpare 44 = .ok (.iload_n 3, 1) := by decide +kernel
theorem dX1_timeToSpare_45 : decode cX1_timeToSpare 45 = .ok (.invokevirtual 73, 3) := by decide +kernel
theorem dX1_timeToSpare_48 : decode cX1_timeToSpare 48 = .ok (.isub, 1) := by decide +kernel
theorem dX1_timeToSpare_49 : decode cX1_timeToSpare 49 = .ok (.ireturn, 1) := by decide +kernel
theorem dX1_wayTo_0 : decode cX1_wayTo 0 = .ok (.aload_n 1, 1) := by decide +kernel
theorem dX1_wayTo_1 : decode cX1_wayTo 1 = .ok (.getfield 43, 3) := by decide +kernel
theorem dX1_wayTo_4 : decode cX1_wayTo 4 = .ok (.aload_n 0, 1) := by decide +kernel
theorem dX1_wayTo_5 : decode cX1_wayTo 5 = .ok (.getfield 9, 3) := by decide +kernel
theorem dX1_wayTo_8 : decode cX1_wayTo 8 = .ok (.iload_n 2, 1) := by decide +kernel
theorem dX1_wayTo_9 : decode cX1_wayTo 9 = .ok (.iaload, 1) := by decide +kernel
theorem dX1_wayTo_10 : decode cX1_wayTo 10 = .ok (.iaload, 1) := by decide +kernel
theorem dX1_wayTo_11 : decode cX1_wayTo 11 = .ok (.istore 4, 2) := by decide +kernel
theorem dX1_wayTo_13 : decode cX1_wayTo 13 = .ok (.iload_n 2, 1) := by decide +kernel
theorem dX1_wayTo_14 : decode cX1_wayTo 14 = .ok (.ifCond .ne 15, 3) := by decide +kernel
theorem dX1_wayTo_17 : decode cX1_wayTo 17 = .ok (.aload_n 1, 1) := by decide +kernel
theorem dX1_wayTo_18 : decode cX1_wayTo 18 = .ok (.getfield 37, 3) := by decide +kernel
theorem dX1_wayTo_21 : decode cX1_wayTo 21 = .ok (.iload_n 3, 1) := by decide +kernel
theorem dX1_wayTo_22 : decode cX1_wayTo 22 = .ok (.aaload, 1) := by decide +kernel
theorem dX1_wayTo_23 : decode cX1_wayTo 23 = .ok (.iload 4, 2) := by decide +kernel
theorem dX1_wayTo_25 : decode cX1_wayTo 25 = .ok (.iaload, 1) := by decide +kernel
theorem dX1_wayTo_26 : decode cX1_wayTo 26 = .ok (.goto 24, 3) := by decide +kernel
theorem dX1_wayTo_29 : decode cX1_wayTo 29 = .ok (.aload_n 1, 1) := by decide +kernel
theorem dX1_wayTo_30 : decode cX1_wayTo 30 = .ok (.getfield 70, 3) := by decide +kernel
theorem dX1_wayTo_33 : decode cX1_wayTo 33 = .ok (.aload_n 1, 1) := by decide +kernel
theorem dX1_wayTo_34 : decode cX1_wayTo 34 = .ok (.getfield 46, 3) := by decide +kernel
theorem dX1_wayTo_37 : decode cX1_wayTo 37 = .ok (.aload_n 0, 1) := by decide +kernel
theorem dX1_wayTo_38 : decode cX1_wayTo 38 = .ok (.getfield 15, 3) := by decide +kernel
theorem dX1_wayTo_41 : decode cX1_wayTo 41 = .ok (.iload_n 2, 1) := by decide +kernel
theorem dX1_wayTo_42 : decode cX1_wayTo 42 = .ok (.iconst 1, 1) := by decide +kernel
theorem dX1_wayTo_43 : decode cX1_wayTo 43 = .ok (.isub, 1) := by decide +kernel
theorem dX1_wayTo_44 : decode cX1_wayTo 44 = .ok (.iaload, 1) := by decide +kernel
theorem dX1_wayTo_45 : decode cX1_wayTo 45 = .ok (.iaload, 1) := by decide +kernel
theorem dX1_wayTo_46 : decode cX1_wayTo 46 = .ok (.aaload, 1) := by decide +kernel
theorem dX1_wayTo_47 : decode cX1_wayTo 47 = .ok (.iload 4, 2) := by decide +kernel
theorem dX1_wayTo_49 : decode cX1_wayTo 49 = .ok (.iaload, 1) := by decide +kernel
theorem dX1_wayTo_50 : decode cX1_wayTo 50 = .ok (.ireturn, 1) := by decide +kernel
theorem dX2_addRide_0 : decode cX2_addRide 0 = .ok (.aload_n 0, 1) := by decide +kernel
theorem dX2_addRide_1 : decode cX2_addRide 1 = .ok (.getfield 54, 3) := by decide +kernel
theorem dX2_addRide_4 : decode cX2_addRide 4 = .ok (.bipush 60, 2) := by decide +kernel
theorem dX2_addRide_6 : decode cX2_addRide 6 = .ok (.if_icmp .ge 82, 3) := by decide +kernel
theorem dX2_addRide_9 : decode cX2_addRide 9 = .ok (.aload_n 0, 1) := by decide +kernel
theorem dX2_addRide_10 : decode cX2_addRide 10 = .ok (.getfield 29, 3) := by decide +kernel
theorem dX2_addRide_13 : decode cX2_addRide 13 = .ok (.aload_n 0, 1) := by decide +kernel
theorem dX2_addRide_14 : decode cX2_addRide 14 = .ok (.getfield 54, 3) := by decide +kernel
theorem dX2_addRide_17 : decode cX2_addRide 17 = .ok (.aload_n 0, 1) := by decide +kernel
theorem dX2_addRide_18 : decode cX2_addRide 18 = .ok (.getfield 51, 3) := by decide +kernel
theorem dX2_addRide_21 : decode cX2_addRide 21 = .ok (.iconst 1, 1) := by decide +kernel
theorem dX2_addRide_22 : decode cX2_addRide 22 = .ok (.isub, 1) := by decide +kernel
theorem dX2_addRide_23 : decode cX2_addRide 23 = .ok (.iastore, 1) := by decide +kernel
theorem dX2_addRide_24 : decode cX2_addRide 24 = .ok (.aload_n 0, 1) := by decide +kernel
theorem dX2_addRide_25 : decode cX2_addRide 25 = .ok (.getfield 32, 3) := by decide +kernel
theorem dX2_addRide_28 : decode cX2_addRide 28 = .ok (.aload_n 0, 1) := by decide +kernel
theorem dX2_addRide_29 : decode cX2_addRide 29 = .ok (.getfield 54, 3) := by decide +kernel
theorem dX2_addRide_32 : decode cX2_addRide 32 = .ok (.iload_n 1, 1) := by decide +kernel
theorem dX2_addRide_33 : decode cX2_addRide 33 = .ok (.iastore, 1) := by decide +kernel
theorem dX2_addRide_34 : decode cX2_addRide 34 = .ok (.aload_n 0, 1) := by decide +kernel
theorem dX2_addRide_35 : decode cX2_addRide 35 = .ok (.getfield 35, 3) := by decide +kernel
theorem dX2_addRide_38 : decode cX2_addRide 38 = .ok (.aload_n 0, 1) := by decide +kernel
theorem dX2_addRide_39 : decode cX2_addRide 39 = .ok (.getfield 54, 3) := by decide +kernel
theorem dX2_addRide_42 : decode cX2_addRide 42 = .ok (.iload 4, 2) := by decide +kernel
theorem dX2_addRide_44 : decode cX2_addRide 44 = .ok (.iastore, 1) := by decide +kernel
theorem dX2_addRide_45 : decode cX2_addRide 45 = .ok (.aload_n 0, 1) := by decide +kernel
theorem dX2_addRide_46 : decode cX2_addRide 46 = .ok (.getfield 38, 3) := by decide +kernel
theorem dX2_addRide_49 : decode cX2_addRide 49 = .ok (.aload_n 0, 1) := by decide +kernel
theorem dX2_addRide_50 : decode cX2_addRide 50 = .ok (.getfield 54, 3) := by decide +kernel
theorem dX2_addRide_53 : decode cX2_addRide 53 = .ok (.iload_n 2, 1) := by decide +kernel
theorem dX2_addRide_54 : decode cX2_addRide 54 = .ok (.iastore, 1) := by decide +kernel
theorem dX2_addRide_55 : decode cX2_addRide 55 = .ok (.aload_n 0, 1) := by decide +kernel
theorem dX2_addRide_56 : decode cX2_addRide 56 = .ok (.getfield 41, 3) := by decide +kernel
theorem dX2_addRide_59 : decode cX2_addRide 59 = .ok (.aload_n 0, 1) := by decide +kernel
theorem dX2_addRide_60 : decode cX2_addRide 60 = .ok (.getfield 54, 3) := by decide +kernel
theorem dX2_addRide_63 : decode cX2_addRide 63 = .ok (.iload_n 3, 1) := by decide +kernel
theorem dX2_addRide_64 : decode cX2_addRide 64 = .ok (.iastore, 1) := by decide +kernel
theorem dX2_addRide_65 : decode cX2_addRide 65 = .ok (.aload_n 0, 1) := by decide +kernel
theorem dX2_addRide_66 : decode cX2_addRide 66 = .ok (.dup, 1) := by decide +kernel
theorem dX2_addRide_67 : decode cX2_addRide 67 = .ok (.getfield 54, 3) := by decide +kernel
theorem dX2_addRide_70 : decode cX2_addRide 70 = .ok (.iconst 1, 1) := by decide +kernel
theorem dX2_addRide_71 : decode cX2_addRide 71 = .ok (.iadd, 1) := by decide +kernel
theorem dX2_addRide_72 : decode cX2_addRide 72 = .ok (.putfield 54, 3) := by decide +kernel
theorem dX2_addRide_75 : decode cX2_addRide 75 = .ok (.aload_n 0, 1) := by decide +kernel
theorem dX2_addRide_76 : decode cX2_addRide 76 = .ok (.getfield 26, 3) := by decide +kernel
theorem dX2_addRide_79 : decode cX2_addRide 79 = .ok (.aload_n 0, 1) := by decide +kernel
theorem dX2_addRide_80 : decode cX2_addRide 80 = .ok (.getfield 51, 3) := by decide +kernel
theorem dX2_addRide_83 : decode cX2_addRide 83 = .ok (.aload_n 0, 1) := by decide +kernel
theorem dX2_addRide_84 : decode cX2_addRide 84 = .ok (.getfield 54, 3) := by decide +kernel
theorem dX2_addRide_87 : decode cX2_addRide 87 = .ok (.iastore, 1) := by decide +kernel
theorem dX2_addRide_88 : decode cX2_addRide 88 = .ok (.return_, 1) := by decide +kernel
theorem dX2_addStop_0 : decode cX2_addStop 0 = .ok (.aload_n 0, 1) := by decide +kernel
theorem dX2_addStop_1 : decode cX2_addStop 1 = .ok (.getfield 44, 3) := by decide +kernel
theorem dX2_addStop_4 : decode cX2_addStop 4 = .ok (.bipush 10, 2) := by decide +kernel
theorem dX2_addStop_6 : decode cX2_addStop 6 = .ok (.if_icmp .ge 33, 3) := by decide +kernel
theorem dX2_addStop_9 : decode cX2_addStop 9 = .ok (.aload_n 0, 1) := by decide +kernel
theorem dX2_addStop_10 : decode cX2_addStop 10 = .ok (.getfield 9, 3) := by decide +kernel
theorem dX2_addStop_13 : decode cX2_addStop 13 = .ok (.aload_n 0, 1) := by decide +kernel
theorem dX2_addStop_14 : decode cX2_addStop 14 = .ok (.getfield 44, 3) := by decide +kernel
theorem dX2_addStop_17 : decode cX2_addStop 17 = .ok (.iload_n 1, 1) := by decide +kernel
theorem dX2_addStop_18 : decode cX2_addStop 18 = .ok (.iastore, 1) := by decide +kernel
theorem dX2_addStop_19 : decode cX2_addStop 19 = .ok (.aload_n 0, 1) := by decide +kernel
theorem dX2_addStop_20 : decode cX2_addStop 20 = .ok (.getfield 15, 3) := by decide +kernel
theorem dX2_addStop_23 : decode cX2_addStop 23 = .ok (.aload_n 0, 1) := by decide +kernel
theorem dX2_addStop_24 : decode cX2_addStop 24 = .ok (.getfield 44, 3) := by decide +kernel
theorem dX2_addStop_27 : decode cX2_addStop 27 = .ok (.iload_n 2, 1) := by decide +kernel
theorem dX2_addStop_28 : decode cX2_addStop 28 = .ok (.iastore, 1) := by decide +kernel
theorem dX2_addStop_29 : decode cX2_addStop 29 = .ok (.aload_n 0, 1) := by decide +kernel
theorem dX2_addStop_30 : decode cX2_addStop 30 = .ok (.dup, 1) := by decide +kernel
theorem dX2_addStop_31 : decode cX2_addStop 31 = .ok (.getfield 44, 3) := by decide +kernel
theorem dX2_addStop_34 : decode cX2_addStop 34 = .ok (.iconst 1, 1) := by decide +kernel
theorem dX2_addStop_35 : decode cX2_addStop 35 = .ok (.iadd, 1) := by decide +kernel
theorem dX2_addStop_36 : decode cX2_addStop 36 = .ok (.putfield 44, 3) := by decide +kernel
theorem dX2_addStop_39 : decode cX2_addStop 39 = .ok (.return_, 1) := by decide +kernel
theorem dX2_addTrip_0 : decode cX2_addTrip 0 = .ok (.aload_n 0, 1) := by decide +kernel
theorem dX2_addTrip_1 : decode cX2_addTrip 1 = .ok (.getfield 51, 3) := by decide +kernel
theorem dX2_addTrip_4 : decode cX2_addTrip 4 = .ok (.bipush 20, 2) := by decide +kernel
theorem dX2_addTrip_6 : decode cX2_addTrip 6 = .ok (.if_icmp .ge 39, 3) := by decide +kernel
theorem dX2_addTrip_9 : decode cX2_addTrip 9 = .ok (.aload_n 0, 1) := by decide +kernel
theorem dX2_addTrip_10 : decode cX2_addTrip 10 = .ok (.getfield 26, 3) := by decide +kernel
theorem dX2_addTrip_13 : decode cX2_addTrip 13 = .ok (.aload_n 0, 1) := by decide +kernel
theorem dX2_addTrip_14 : decode cX2_addTrip 14 = .ok (.getfield 51, 3) := by decide +kernel
theorem dX2_addTrip_17 : decode cX2_addTrip 17 = .ok (.aload_n 0, 1) := by decide +kernel
theorem dX2_addTrip_18 : decode cX2_addTrip 18 = .ok (.getfield 54, 3) := by decide +kernel
theorem dX2_addTrip_21 : decode cX2_addTrip 21 = .ok (.iastore, 1) := by decide +kernel
theorem dX2_addTrip_22 : decode cX2_addTrip 22 = .ok (.aload_n 0, 1) := by decide +kernel
theorem dX2_addTrip_23 : decode cX2_addTrip 23 = .ok (.dup, 1) := by decide +kernel
theorem dX2_addTrip_24 : decode cX2_addTrip 24 = .ok (.getfield 51, 3) := by decide +kernel
theorem dX2_addTrip_27 : decode cX2_addTrip 27 = .ok (.iconst 1, 1) := by decide +kernel
theorem dX2_addTrip_28 : decode cX2_addTrip 28 = .ok (.iadd, 1) := by decide +kernel
theorem dX2_addTrip_29 : decode cX2_addTrip 29 = .ok (.putfield 51, 3) := by decide +kernel
theorem dX2_addTrip_32 : decode cX2_addTrip 32 = .ok (.aload_n 0, 1) := by decide +kernel
theorem dX2_addTrip_33 : decode cX2_addTrip 33 = .ok (.getfield 26, 3) := by decide +kernel
theorem dX2_addTrip_36 : decode cX2_addTrip 36 = .ok (.aload_n 0, 1) := by decide +kernel
theorem dX2_addTrip_37 : decode cX2_addTrip 37 = .ok (.getfield 51, 3) := by decide +kernel
theorem dX2_addTrip_40 : decode cX2_addTrip 40 = .ok (.aload_n 0, 1) := by decide +kernel
theorem dX2_addTrip_41 : decode cX2_addTrip 41 = .ok (.getfield 54, 3) := by decide +kernel
theorem dX2_addTrip_44 : decode cX2_addTrip 44 = .ok (.iastore, 1) := by decide +kernel
theorem dX2_addTrip_45 : decode cX2_addTrip 45 = .ok (.return_, 1) := by decide +kernel
theorem dX2_addWalk_0 : decode cX2_addWalk 0 = .ok (.aload_n 0, 1) := by decide +kernel
theorem dX2_addWalk_1 : decode cX2_addWalk 1 = .ok (.getfield 20, 3) := by decide +kernel
theorem dX2_addWalk_4 : decode cX2_addWalk 4 = .ok (.iload_n 1, 1) := by decide +kernel
theorem dX2_addWalk_5 : decode cX2_addWalk 5 = .ok (.aaload, 1) := by decide +kernel
theorem dX2_addWalk_6 : decode cX2_addWalk 6 = .ok (.iload_n 2, 1) := by decide +kernel
theorem dX2_addWalk_7 : decode cX2_addWalk 7 = .ok (.aload_n 0, 1) := by decide +kernel
theorem dX2_addWalk_8 : decode cX2_addWalk 8 = .ok (.getfield 20, 3) := by decide +kernel
theorem dX2_addWalk_11 : decode cX2_addWalk 11 = .ok (.iload_n 1, 1) := by decide +kernel
theorem dX2_addWalk_12 : decode cX2_addWalk 12 = .ok (.aaload, 1) := by decide +kernel
theorem dX2_addWalk_13 : decode cX2_addWalk 13 = .ok (.iload_n 2, 1) := by decide +kernel
theorem dX2_addWalk_14 : decode cX2_addWalk 14 = .ok (.iaload, 1) := by decide +kernel
theorem dX2_addWalk_15 : decode cX2_addWalk 15 = .ok (.iload_n 3, 1) := by decide +kernel
theorem dX2_addWalk_16 : decode cX2_addWalk 16 = .ok (.invokestatic 58, 3) := by decide +kernel
theorem dX2_addWalk_19 : decode cX2_addWalk 19 = .ok (.iastore, 1) := by decide +kernel
theorem dX2_addWalk_20 : decode cX2_addWalk 20 = .ok (.aload_n 0, 1) := by decide +kernel
theorem dX2_addWalk_21 : decode cX2_addWalk 21 = .ok (.getfield 20, 3) := by decide +kernel
theorem dX2_addWalk_24 : decode cX2_addWalk 24 = .ok (.iload_n 2, 1) := by decide +kernel
theorem dX2_addWalk_25 : decode cX2_addWalk 25 = .ok (.aaload, 1) := by decide +kernel
theorem dX2_addWalk_26 : decode cX2_addWalk 26 = .ok (.iload_n 1, 1) := by decide +kernel
theorem dX2_addWalk_27 : decode cX2_addWalk 27 = .ok (.aload_n 0, 1) := by decide +kernel
theorem dX2_addWalk_28 : decode cX2_addWalk 28 = .ok (.getfield 20, 3) := by decide +kernel
theorem dX2_addWalk_31 : decode cX2_addWalk 31 = .ok (.iload_n 1, 1) := by decide +kernel
theorem dX2_addWalk_32 : decode cX2_addWalk 32 = .ok (.aaload, 1) := by decide +kernel
theorem dX2_addWalk_33 : decode cX2_addWalk 33 = .ok (.iload_n 2, 1) := by decide +kernel
theorem dX2_addWalk_34 : decode cX2_addWalk 34 = .ok (.iaload, 1) := by decide +kernel
theorem dX2_addWalk_35 : decode cX2_addWalk 35 = .ok (.iastore, 1) := by decide +kernel
theorem dX2_addWalk_36 : decode cX2_addWalk 36 = .ok (.aload_n 0, 1) := by decide +kernel
theorem dX2_addWalk_37 : decode cX2_addWalk 37 = .ok (.dup, 1) := by decide +kernel
theorem dX2_addWalk_38 : decode cX2_addWalk 38 = .ok (.getfield 48, 3) := by decide +kernel
theorem dX2_addWalk_41 : decode cX2_addWalk 41 = .ok (.iconst 1, 1) := by decide +kernel
theorem dX2_addWalk_42 : decode cX2_addWalk 42 = .ok (.iadd, 1) := by decide +kernel
theorem dX2_addWalk_43 : decode cX2_addWalk 43 = .ok (.putfield 48, 3) := by decide +kernel
theorem dX2_addWalk_46 : decode cX2_addWalk 46 = .ok (.return_, 1) := by decide +kernel
theorem dX2_clear_0 : decode cX2_clear 0 = .ok (.aload_n 0, 1) := by decide +kernel
theorem dX2_clear_1 : decode cX2_clear 1 = .ok (.iconst 0, 1) := by decide +kernel
theorem dX2_clear_2 : decode cX2_clear 2 = .ok (.putfield 44, 3) := by decide +kernel
theorem dX2_clear_5 : decode cX2_clear 5 = .ok (.aload_n 0, 1) := by decide +kernel
theorem dX2_clear_6 : decode cX2_clear 6 = .ok (.iconst 0, 1) := by decide +kernel
theorem dX2_clear_7 : decode cX2_clear 7 = .ok (.putfield 48, 3) := by decide +kernel
theorem dX2_clear_10 : decode cX2_clear 10 = .ok (.aload_n 0, 1) := by decide +kernel
theorem dX2_clear_11 : decode cX2_clear 11 = .ok (.iconst 0, 1) := by decide +kernel
theorem dX2_clear_12 : decode cX2_clear 12 = .ok (.putfield 51, 3) := by decide +kernel
theorem dX2_clear_15 : decode cX2_clear 15 = .ok (.aload_n 0, 1) := by decide +kernel
theorem dX2_clear_16 : decode cX2_clear 16 = .ok (.iconst 0, 1) := by decide +kernel
theorem dX2_clear_17 : decode cX2_clear 17 = .ok (.putfield 54, 3) := by decide +kernel
theorem dX2_clear_20 : decode cX2_clear 20 = .ok (.iconst 0, 1) := by decide +kernel
theorem dX2_clear_21 : decode cX2_clear 21 = .ok (.istore_n 1, 1) := by decide +kernel
theorem dX2_clear_22 : decode cX2_clear 22 = .ok (.iload_n 1, 1) := by decide +kernel
theorem dX2_clear_23 : decode cX2_clear 23 = .ok (.bipush 10, 2) := by decide +kernel
theorem dX2_clear_25 : decode cX2_clear 25 = .ok (.if_icmp .ge 42, 3) := by decide +kernel
theorem dX2_clear_28 : decode cX2_clear 28 = .ok (.iconst 0, 1) := by decide +kernel
theorem dX2_clear_29 : decode cX2_clear 29 = .ok (.istore_n 2, 1) := by decide +kernel
theorem dX2_clear_30 : decode cX2_clear 30 = .ok (.iload_n 2, 1) := by decide +kernel
theorem dX2_clear_31 : decode cX2_clear 31 = .ok (.bipush 10, 2) := by decide +kernel
theorem dX2_clear_33 : decode cX2_clear 33 = .ok (.if_icmp .ge 28, 3) := by decide +kernel
theorem dX2_clear_36 : decode cX2_clear 36 = .ok (.aload_n 0, 1) := by decide +kernel
theorem dX2_clear_37 : decode cX2_clear 37 = .ok (.getfield 20, 3) := by decide +kernel
theorem dX2_clear_40 : decode cX2_clear 40 = .ok (.iload_n 1, 1) := by decide +kernel
theorem dX2_clear_41 : decode cX2_clear 41 = .ok (.aaload, 1) := by decide +kernel
theorem dX2_clear_42 : decode cX2_clear 42 = .ok (.iload_n 2, 1) := by decide +kernel
theorem dX2_clear_43 : decode cX2_clear 43 = .ok (.iload_n 1, 1) := by decide +kernel
theorem dX2_clear_44 : decode cX2_clear 44 = .ok (.iload_n 2, 1) := by decide +kernel
theorem dX2_clear_45 : decode cX2_clear 45 = .ok (.if_icmp .ne 7, 3) := by decide +kernel
theorem dX2_clear_48 : decode cX2_clear 48 = .ok (.iconst 0, 1) := by decide +kernel
theorem dX2_clear_49 : decode cX2_clear 49 = .ok (.goto 5, 3) := by decide +kernel
theorem dX2_clear_52 : decode cX2_clear 52 = .ok (.ldc 57, 2) := by decide +kernel
theorem dX2_clear_54 : decode cX2_clear 54 = .ok (.iastore, 1) := by decide +kernel
theorem dX2_clear_55 : decode cX2_clear 55 = .ok (.iinc 2 1, 3) := by decide +kernel
theorem dX2_clear_58 : decode cX2_clear 58 = .ok (.goto (-28), 3) := by decide +kernel
theorem dX2_clear_61 : decode cX2_clear 61 = .ok (.iinc 1 1, 3) := by decide +kernel
theorem dX2_clear_64 : decode cX2_clear 64 = .ok (.goto (-42), 3) := by decide +kernel
theorem dX2_clear_67 : decode cX2_clear 67 = .ok (.return_, 1) := by decide +kernel
theorem dX2_goesOn_0 : decode cX2_goesOn 0 = .ok (.iload_n 1, 1) := by decide +kernel
theorem dX2_goesOn_1 : decode cX2_goesOn 1 = .ok (.iconst 1, 1) := by decide +kernel
theorem dX2_goesOn_2 : decode cX2_goesOn 2 = .ok (.iadd, 1) := by decide +kernel
theorem dX2_goesOn_3 : decode cX2_goesOn 3 = .ok (.aload_n 0, 1) := by decide +kernel
theorem dX2_goesOn_4 : decode cX2_goesOn 4 = .ok (.getfield 54, 3) := by decide +kernel
theorem dX2_goesOn_7 : decode cX2_goesOn 7 = .ok (.if_icmp .ge 24, 3) := by decide +kernel
theorem dX2_goesOn_10 : decode cX2_goesOn 10 = .ok (.aload_n 0, 1) := by decide +kernel
theorem dX2_goesOn_11 : decode cX2_goesOn 11 = .ok (.getfield 29, 3) := by decide +kernel
theorem dX2_goesOn_14 : decode cX2_goesOn 14 = .ok (.iload_n 1, 1) := by decide +kernel
theorem dX2_goesOn_15 : decode cX2_goesOn 15 = .ok (.iconst 1, 1) := by decide +kernel
theorem dX2_goesOn_16 : decode cX2_goesOn 16 = .ok (.iadd, 1) := by decide +kernel
theorem dX2_goesOn_17 : decode cX2_goesOn 17 = .ok (.iaload, 1) := by decide +kernel
theorem dX2_goesOn_18 : decode cX2_goesOn 18 = .ok (.aload_n 0, 1) := by decide +kernel
theorem dX2_goesOn_19 : decode cX2_goesOn 19 = .ok (.getfield 29, 3) := by decide +kernel
theorem dX2_goesOn_22 : decode cX2_goesOn 22 = .ok (.iload_n 1, 1) := by decide +kernel
theorem dX2_goesOn_23 : decode cX2_goesOn 23 = .ok (.iaload, 1) := by decide +kernel
theorem dX2_goesOn_24 : decode cX2_goesOn 24 = .ok (.if_icmp .ne 7, 3) := by decide +kernel
theorem dX2_goesOn_27 : decode cX2_goesOn 27 = .ok (.iconst 1, 1) := by decide +kernel
theorem dX2_goesOn_28 : decode cX2_goesOn 28 = .ok (.goto 4, 3) := by decide +kernel
theorem dX2_goesOn_31 : decode cX2_goesOn 31 = .ok (.iconst 0, 1) := by decide +kernel
theorem dX2_goesOn_32 : decode cX2_goesOn 32 = .ok (.ireturn, 1) := by decide +kernel
theorem dX2_init_0 : decode cX2_init 0 = .ok (.aload_n 0, 1) := by decide +kernel
theorem dX2_init_1 : decode cX2_init 1 = .ok (.invokespecial 3, 3) := by decide +kernel
theorem dX2_init_4 : decode cX2_init 4 = .ok (.aload_n 0, 1) := by decide +kernel
theorem dX2_init_5 : decode cX2_init 5 = .ok (.bipush 10, 2) := by decide +kernel
theorem dX2_init_7 : decode cX2_init 7 = .ok (.newarray .int, 2) := by decide +kernel
theorem dX2_init_9 : decode cX2_init 9 = .ok (.putfield 9, 3) := by decide +kernel
theorem dX2_init_12 : decode cX2_init 12 = .ok (.aload_n 0, 1) := by decide +kernel
theorem dX2_init_13 : decode cX2_init 13 = .ok (.bipush 10, 2) := by decide +kernel
theorem dX2_init_15 : decode cX2_init 15 = .ok (.newarray .int, 2) := by decide +kernel
theorem dX2_init_17 : decode cX2_init 17 = .ok (.putfield 15, 3) := by decide +kernel
theorem dX2_init_20 : decode cX2_init 20 = .ok (.aload_n 0, 1) := by decide +kernel
theorem dX2_init_21 : decode cX2_init 21 = .ok (.bipush 10, 2) := by decide +kernel
theorem dX2_init_23 : decode cX2_init 23 = .ok (.bipush 10, 2) := by decide +kernel
theorem dX2_init_25 : decode cX2_init 25 = .ok (.multianewarray 18 2, 4) := by decide +kernel
theorem dX2_init_29 : decode cX2_init 29 = .ok (.putfield 20, 3) := by decide +kernel
theorem dX2_init_32 : decode cX2_init 32 = .ok (.aload_n 0, 1) := by decide +kernel
theorem dX2_init_33 : decode cX2_init 33 = .ok (.bipush 10, 2) := by decide +kernel
theorem dX2_init_35 : decode cX2_init 35 = .ok (.bipush 10, 2) := by decide +kernel
theorem dX2_init_37 : decode cX2_init 37 = .ok (.multianewarray 18 2, 4) := by decide +kernel
theorem dX2_init_41 : decode cX2_init 41 = .ok (.putfield 23, 3) := by decide +kernel
theorem dX2_init_44 : decode cX2_init 44 = .ok (.aload_n 0, 1) := by decide +kernel
theorem dX2_init_45 : decode cX2_init 45 = .ok (.bipush 21, 2) := by decide +kernel
theorem dX2_init_47 : decode cX2_init 47 = .ok (.newarray .int, 2) := by decide +kernel
theorem dX2_init_49 : decode cX2_init 49 = .ok (.putfield 26, 3) := by decide +kernel
theorem dX2_init_52 : decode cX2_init 52 = .ok (.aload_n 0, 1) := by decide +kernel
theorem dX2_init_53 : decode cX2_init 53 = .ok (.bipush 60, 2) := by decide +kernel
theorem dX2_init_55 : decode cX2_init 55 = .ok (.newarray .int, 2) := by decide +kernel
theorem dX2_init_57 : decode cX2_init 57 = .ok (.putfield 29, 3) := by decide +kernel
theorem dX2_init_60 : decode cX2_init 60 = .ok (.aload_n 0, 1) := by decide +kernel
theorem dX2_init_61 : decode cX2_init 61 = .ok (.bipush 60, 2) := by decide +kernel
theorem dX2_init_63 : decode cX2_init 63 = .ok (.newarray .int, 2) := by decide +kernel
theorem dX2_init_65 : decode cX2_init 65 = .ok (.putfield 32, 3) := by decide +kernel
theorem dX2_init_68 : decode cX2_init 68 = .ok (.aload_n 0, 1) := by decide +kernel
theorem dX2_init_69 : decode cX2_init 69 = .ok (.bipush 60, 2) := by decide +kernel
theorem dX2_init_71 : decode cX2_init 71 = .ok (.newarray .int, 2) := by decide +kernel
theorem dX2_init_73 : decode cX2_init 73 = .ok (.putfield 35, 3) := by decide +kernel
theorem dX2_init_76 : decode cX2_init 76 = .ok (.aload_n 0, 1) := by decide +kernel
theorem dX2_init_77 : decode cX2_init 77 = .ok (.bipush 60, 2) := by decide +kernel
theorem dX2_init_79 : decode cX2_init 79 = .ok (.newarray .int, 2) := by decide +kernel
theorem dX2_init_81 : decode cX2_init 81 = .ok (.putfield 38, 3) := by decide +kernel
theorem dX2_init_84 : decode cX2_init 84 = .ok (.aload_n 0, 1) := by decide +kernel
theorem dX2_init_85 : decode cX2_init 85 = .ok (.bipush 60, 2) := by decide +kernel
theorem dX2_init_87 : decode cX2_init 87 = .ok (.newarray .int, 2) := by decide +kernel
theorem dX2_init_89 : decode cX2_init 89 = .ok (.putfield 41, 3) := by decide +kernel
theorem dX2_init_92 : decode cX2_init 92 = .ok (.return_, 1) := by decide +kernel
theorem dX2_joinWalks_0 : decode cX2_joinWalks 0 = .ok (.iconst 0, 1) := by decide +kernel
theorem dX2_joinWalks_1 : decode cX2_joinWalks 1 = .ok (.istore_n 1, 1) := by decide +kernel
theorem dX2_joinWalks_2 : decode cX2_joinWalks 2 = .ok (.iload_n 1, 1) := by decide +kernel
theorem dX2_joinWalks_3 : decode cX2_joinWalks 3 = .ok (.aload_n 0, 1) := by decide +kernel
theorem dX2_joinWalks_4 : decode cX2_joinWalks 4 = .ok (.getfield 44, 3) := by decide +kernel
theorem dX2_joinWalks_7 : decode cX2_joinWalks 7 = .ok (.if_icmp .ge 77, 3) := by decide +kernel
theorem dX2_joinWalks_10 : decode cX2_joinWalks 10 = .ok (.iconst 0, 1) := by decide +kernel
theorem dX2_joinWalks_11 : decode cX2_joinWalks 11 = .ok (.istore_n 2, 1) := by decide +kernel
theorem dX2_joinWalks_12 : decode cX2_joinWalks 12 = .ok (.iload_n 2, 1) := by decide +kernel
theorem dX2_joinWalks_13 : decode cX2_joinWalks 13 = .ok (.aload_n 0, 1) := by decide +kernel
theorem dX2_joinWalks_14 : decode cX2_joinWalks 14 = .ok (.getfield 44, 3) := by decide +kernel
theorem dX2_joinWalks_17 : decode cX2_joinWalks 17 = .ok (.if_icmp .ge 61, 3) := by decide +kernel
theorem dX2_joinWalks_20 : decode cX2_joinWalks 20 = .ok (.iconst 0, 1) := by decide +kernel
theorem dX2_joinWalks_21 : decode cX2_joinWalks 21 = .ok (.istore_n 3, 1) := by decide +kernel
theorem dX2_joinWalks_22 : decode cX2_joinWalks 22 = .ok (.iload_n 3, 1) := by decide +kernel
theorem dX2_joinWalks_23 : decode cX2_joinWalks 23 = .ok (.aload_n 0, 1) := by decide +kernel
theorem dX2_joinWalks_24 : decode cX2_joinWalks 24 = .ok (.getfield 44, 3) := by decide +kernel
theorem dX2_joinWalks_27 : decode cX2_joinWalks 27 = .ok (.if_icmp .ge 45, 3) := by decide +kernel
theorem dX2_joinWalks_30 : decode cX2_joinWalks 30 = .ok (.aload_n 0, 1) := by decide +kernel
theorem dX2_joinWalks_31 : decode cX2_joinWalks 31 = .ok (.getfield 20, 3) := by decide +kernel
theorem dX2_joinWalks_34 : decode cX2_joinWalks 34 = .ok (.iload_n 2, 1) := by decide +kernel
theorem dX2_joinWalks_35 : decode cX2_joinWalks 35 = .ok (.aaload, 1) := by decide +kernel
theorem dX2_joinWalks_36 : decode cX2_joinWalks 36 = .ok (.iload_n 3, 1) := by decide +kernel
theorem dX2_joinWalks_37 : decode cX2_joinWalks 37 = .ok (.aload_n 0, 1) := by decide +kernel
theorem dX2_joinWalks_38 : decode cX2_joinWalks 38 = .ok (.getfield 20, 3) := by decide +kernel
theorem dX2_joinWalks_41 : decode cX2_joinWalks 41 = .ok (.iload_n 2, 1) := by decide +kernel
theorem dX2_joinWalks_42 : decode cX2_joinWalks 42 = .ok (.aaload, 1) := by decide +kernel
theorem dX2_joinWalks_43 : decode cX2_joinWalks 43 = .ok (.iload_n 3, 1) := by decide +kernel
theorem dX2_joinWalks_44 : decode cX2_joinWalks 44 = .ok (.iaload, 1) := by decide +kernel
theorem dX2_joinWalks_45 : decode cX2_joinWalks 45 = .ok (.aload_n 0, 1) := by decide +kernel
theorem dX2_joinWalks_46 : decode cX2_joinWalks 46 = .ok (.getfield 20, 3) := by decide +kernel
theorem dX2_joinWalks_49 : decode cX2_joinWalks 49 = .ok (.iload_n 2, 1) := by decide +kernel
theorem dX2_joinWalks_50 : decode cX2_joinWalks 50 = .ok (.aaload, 1) := by decide +kernel
theorem dX2_joinWalks_51 : decode cX2_joinWalks 51 = .ok (.iload_n 1, 1) := by decide +kernel
theorem dX2_joinWalks_52 : decode cX2_joinWalks 52 = .ok (.iaload, 1) := by decide +kernel
theorem dX2_joinWalks_53 : decode cX2_joinWalks 53 = .ok (.aload_n 0, 1) := by decide +kernel
theorem dX2_joinWalks_54 : decode cX2_joinWalks 54 = .ok (.getfield 20, 3) := by decide +kernel
theorem dX2_joinWalks_57 : decode cX2_joinWalks 57 = .ok (.iload_n 1, 1) := by decide +kernel
theorem dX2_joinWalks_58 : decode cX2_joinWalks 58 = .ok (.aaload, 1) := by decide +kernel
theorem dX2_joinWalks_59 : decode cX2_joinWalks 59 = .ok (.iload_n 3, 1) := by decide +kernel
theorem dX2_joinWalks_60 : decode cX2_joinWalks 60 = .ok (.iaload, 1) := by decide +kernel
theorem dX2_joinWalks_61 : decode cX2_joinWalks 61 = .ok (.iadd, 1) := by decide +kernel
theorem dX2_joinWalks_62 : decode cX2_joinWalks 62 = .ok (.invokestatic 58, 3) := by decide +kernel
theorem dX2_joinWalks_65 : decode cX2_joinWalks 65 = .ok (.iastore, 1) := by decide +kernel
theorem dX2_joinWalks_66 : decode cX2_joinWalks 66 = .ok (.iinc 3 1, 3) := by decide +kernel
theorem dX2_joinWalks_69 : decode cX2_joinWalks 69 = .ok (.goto (-47), 3) := by decide +kernel
theorem dX2_joinWalks_72 : decode cX2_joinWalks 72 = .ok (.iinc 2 1, 3) := by decide +kernel
theorem dX2_joinWalks_75 : decode cX2_joinWalks 75 = .ok (.goto (-63), 3) := by decide +kernel
theorem dX2_joinWalks_78 : decode cX2_joinWalks 78 = .ok (.iinc 1 1, 3) := by decide +kernel
theorem dX2_joinWalks_81 : decode cX2_joinWalks 81 = .ok (.goto (-79), 3) := by decide +kernel
theorem dX2_joinWalks_84 : decode cX2_joinWalks 84 = .ok (.return_, 1) := by decide +kernel
theorem dX2_ridesOf_0 : decode cX2_ridesOf 0 = .ok (.aload_n 0, 1) := by decide +kernel
theorem dX2_ridesOf_1 : decode cX2_ridesOf 1 = .ok (.getfield 26, 3) := by decide +kernel
theorem dX2_ridesOf_4 : decode cX2_ridesOf 4 = .ok (.iload_n 1, 1) := by decide +kernel
theorem dX2_ridesOf_5 : decode cX2_ridesOf 5 = .ok (.iaload, 1) := by decide +kernel
theorem dX2_ridesOf_6 : decode cX2_ridesOf 6 = .ok (.aload_n 0, 1) := by decide +kernel
theorem dX2_ridesOf_7 : decode cX2_ridesOf 7 = .ok (.getfield 26, 3) := by decide +kernel
theorem dX2_ridesOf_10 : decode cX2_ridesOf 10 = .ok (.iload_n 1, 1) := by decide +kernel
theorem dX2_ridesOf_11 : decode cX2_ridesOf 11 = .ok (.iconst 1, 1) := by decide +kernel
theorem dX2_ridesOf_12 : decode cX2_ridesOf 12 = .ok (.iadd, 1) := by decide +kernel
theorem dX2_ridesOf_13 : decode cX2_ridesOf 13 = .ok (.iaload, 1) := by decide +kernel
theorem dX2_ridesOf_14 : decode cX2_ridesOf 14 = .ok (.invokestatic 64, 3) := by decide +kernel
theorem dX2_ridesOf_17 : decode cX2_ridesOf 17 = .ok (.lreturn, 1) := by decide +kernel
theorem dX2_settleTransfers_0 : decode cX2_settleTransfers 0 = .ok (.iconst 0, 1) := by decide +kernel
theorem dX2_settleTransfers_1 : decode cX2_settleTransfers 1 = .ok (.istore_n 1, 1) := by decide +kernel
theorem dX2_settleTransfers_2 : decode cX2_settleTransfers 2 = .ok (.iload_n 1, 1) := by decide +kernel
theorem dX2_settleTransfers_3 : decode cX2_settleTransfers 3 = .ok (.aload_n 0, 1) := by decide +kernel
theorem dX2_settleTransfers_4 : decode cX2_settleTransfers 4 = .ok (.getfield 44, 3) := by decide +kernel
theorem dX2_settleTransfers_7 : decode cX2_settleTransfers 7 = .ok (.if_icmp .ge 55, 3) := by decide +kernel
theorem dX2_settleTransfers_10 : decode cX2_settleTransfers 10 = .ok (.iconst 0, 1) := by decide +kernel
theorem dX2_settleTransfers_11 : decode cX2_settleTransfers 11 = .ok (.istore_n 2, 1) := by decide +kernel
theorem dX2_settleTransfers_12 : decode cX2_settleTransfers 12 = .ok (.iload_n 2, 1) := by decide +kernel
theorem dX2_settleTransfers_13 : decode cX2_settleTransfers 13 = .ok (.aload_n 0, 1) := by decide +kernel
theorem dX2_settleTransfers_14 : decode cX2_settleTransfers 14 = .ok (.getfield 44, 3) := by decide +kernel
theorem dX2_settleTransfers_17 : decode cX2_settleTransfers 17 = .ok (.if_icmp .ge 39, 3) := by decide +kernel
theorem dX2_settleTransfers_20 : decode cX2_settleTransfers 20 = .ok (.aload_n 0, 1) := by decide +kernel
theorem dX2_settleTransfers_21 : decode cX2_settleTransfers 21 = .ok (.getfield 23, 3) := by decide +kernel
theorem dX2_settleTransfers_24 : decode cX2_settleTransfers 24 = .ok (.iload_n 1, 1) := by decide +kernel
theorem dX2_settleTransfers_25 : decode cX2_settleTransfers 25 = .ok (.aaload, 1) := by decide +kernel
theorem dX2_settleTransfers_26 : decode cX2_settleTransfers 26 = .ok (.iload_n 2, 1) := by decide +kernel
theorem dX2_settleTransfers_27 : decode cX2_settleTransfers 27 = .ok (.iload_n 1, 1) := by decide +kernel
theorem dX2_settleTransfers_28 : decode cX2_settleTransfers 28 = .ok (.iload_n 2, 1) := by decide +kernel
theorem dX2_settleTransfers_29 : decode cX2_settleTransfers 29 = .ok (.if_icmp .ne 12, 3) := by decide +kernel
theorem dX2_settleTransfers_32 : decode cX2_settleTransfers 32 = .ok (.aload_n 0, 1) := by decide +kernel
theorem dX2_settleTransfers_33 : decode cX2_settleTransfers 33 = .ok (.getfield 15, 3) := by decide +kernel
theorem dX2_settleTransfers_36 : decode cX2_settleTransfers 36 = .ok (.iload_n 1, 1) := by decide +kernel
theorem dX2_settleTransfers_37 : decode cX2_settleTransfers 37 = .ok (.iaload, 1) := by decide +kernel
theorem dX2_settleTransfers_38 : decode cX2_settleTransfers 38 = .ok (.goto 11, 3) := by decide +kernel
theorem dX2_settleTransfers_41 : decode cX2_settleTransfers 41 = .ok (.aload_n 0, 1) := by decide +kernel
theorem dX2_settleTransfers_42 : decode cX2_settleTransfers 42 = .ok (.getfield 20, 3) := by decide +kernel
theorem dX2_settleTransfers_45 : decode cX2_settleTransfers 45 = .ok (.iload_n 1, 1) := by decide +kernel
theorem dX2_settleTransfers_46 : decode cX2_settleTransfers 46 = .ok (.aaload, 1) := by decide +kernel
theorem dX2_settleTransfers_47 : decode cX2_settleTransfers 47 = .ok (.iload_n 2, 1) := by decide +kernel
theorem dX2_settleTransfers_48 : decode cX2_settleTransfers 48 = .ok (.iaload, 1) := by decide +kernel
theorem dX2_settleTransfers_49 : decode cX2_settleTransfers 49 = .ok (.iastore, 1) := by decide +kernel
theorem dX2_settleTransfers_50 : decode cX2_settleTransfers 50 = .ok (.iinc 2 1, 3) := by decide +kernel
theorem dX2_settleTransfers_53 : decode cX2_settleTransfers 53 = .ok (.goto (-41), 3) := by decide +kernel
theorem dX2_settleTransfers_56 : decode cX2_settleTransfers 56 = .ok (.iinc 1 1, 3) := by decide +kernel
theorem dX2_settleTransfers_59 : decode cX2_settleTransfers 59 = .ok (.goto (-57), 3) := by decide +kernel
theorem dX2_settleTransfers_62 : decode cX2_settleTransfers 62 = .ok (.return_, 1) := by decide +kernel
theorem dX2_stopNamed_0 : decode cX2_stopNamed 0 = .ok (.iconst 0, 1) := by decide +kernel
theorem dX2_stopNamed_1 : decode cX2_stopNamed 1 = .ok (.istore_n 2, 1) := by decide +kernel
theorem dX2_stopNamed_2 : decode cX2_stopNamed 2 = .ok (.iload_n 2, 1) := by decide +kernel
theorem dX2_stopNamed_3 : decode cX2_stopNamed 3 = .ok (.aload_n 0, 1) := by decide +kernel
theorem dX2_stopNamed_4 : decode cX2_stopNamed 4 = .ok (.getfield 44, 3) := by decide +kernel
theorem dX2_stopNamed_7 : decode cX2_stopNamed 7 = .ok (.if_icmp .ge 21, 3) := by decide +kernel
theorem dX2_stopNamed_10 : decode cX2_stopNamed 10 = .ok (.aload_n 0, 1) := by decide +kernel
theorem dX2_stopNamed_11 : decode cX2_stopNamed 11 = .ok (.getfield 9, 3) := by decide +kernel
theorem dX2_stopNamed_14 : decode cX2_stopNamed 14 = .ok (.iload_n 2, 1) := by decide +kernel
theorem dX2_stopNamed_15 : decode cX2_stopNamed 15 = .ok (.iaload, 1) := by decide +kernel
theorem dX2_stopNamed_16 : decode cX2_stopNamed 16 = .ok (.iload_n 1, 1) := by decide +kernel
theorem dX2_stopNamed_17 : decode cX2_stopNamed 17 = .ok (.if_icmp .ne 5, 3) := by decide +kernel
theorem dX2_stopNamed_20 : decode cX2_stopNamed 20 = .ok (.iload_n 2, 1) := by decide +kernel
theorem dX2_stopNamed_21 : decode cX2_stopNamed 21 = .ok (.ireturn, 1) := by decide +kernel
theorem dX2_stopNamed_22 : decode cX2_stopNamed 22 = .ok (.iinc 2 1, 3) := by decide +kernel
theorem dX2_stopNamed_25 : decode cX2_stopNamed 25 = .ok (.goto (-23), 3) := by decide +kernel
theorem dX2_stopNamed_28 : decode cX2_stopNamed 28 = .ok (.iconst (-1), 1) := by decide +kernel
theorem dX2_stopNamed_29 : decode cX2_stopNamed 29 = .ok (.ireturn, 1) := by decide +kernel
theorem dX3_bestOnward_0 : decode cX3_bestOnward 0 = .ok (.iconst (-1), 1) := by decide +kernel
theorem dX3_bestOnward_1 : decode cX3_bestOnward 1 = .ok (.istore 5, 2) := by decide +kernel
theorem dX3_bestOnward_3 : decode cX3_bestOnward 3 = .ok (.iload 4, 2) := by decide +kernel
theorem dX3_bestOnward_5 : decode cX3_bestOnward 5 = .ok (.istore 6, 2) := by decide +kernel
theorem dX3_bestOnward_7 : decode cX3_bestOnward 7 = .ok (.aload_n 0, 1) := by decide +kernel
theorem dX3_bestOnward_8 : decode cX3_bestOnward 8 = .ok (.getfield 75, 3) := by decide +kernel
theorem dX3_bestOnward_11 : decode cX3_bestOnward 11 = .ok (.iload_n 1, 1) := by decide +kernel
theorem dX3_bestOnward_12 : decode cX3_bestOnward 12 = .ok (.laload, 1) := by decide +kernel
theorem dX3_bestOnward_13 : decode cX3_bestOnward 13 = .ok (.lstore 7, 2) := by decide +kernel
theorem dX3_bestOnward_15 : decode cX3_bestOnward 15 = .ok (.iconst 0, 1) := by decide +kernel
theorem dX3_bestOnward_16 : decode cX3_bestOnward 16 = .ok (.istore 9, 2) := by decide +kernel
theorem dX3_bestOnward_18 : decode cX3_bestOnward 18 = .ok (.iload 9, 2) := by decide +kernel
theorem dX3_bestOnward_20 : decode cX3_bestOnward 20 = .ok (.aload_n 0, 1) := by decide +kernel
theorem dX3_bestOnward_21 : decode cX3_bestOnward 21 = .ok (.getfield 35, 3) := by decide +kernel
theorem dX3_bestOnward_24 : decode cX3_bestOnward 24 = .ok (.getfield 39, 3) := by decide +kernel
theorem dX3_bestOnward_27 : decode cX3_bestOnward 27 = .ok (.if_icmp .ge 54, 3) := by decide +kernel
theorem dX3_bestOnward_30 : decode cX3_bestOnward 30 = .ok (.lload 7, 2) := by decide +kernel
theorem dX3_bestOnward_32 : decode cX3_bestOnward 32 = .ok (.lconst 0, 1) := by decide +kernel
theorem dX3_bestOnward_33 : decode cX3_bestOnward 33 = .ok (.lcmp, 1) := by decide +kernel
theorem dX3_bestOnward_34 : decode cX3_bestOnward 34 = .ok (.ifCond .eq 47, 3) := by decide +kernel
theorem dX3_bestOnward_37 : decode cX3_bestOnward 37 = .ok (.lload 7, 2) := by decide +kernel
theorem dX3_bestOnward_39 : decode cX3_bestOnward 39 = .ok (.lconst 1, 1) := by decide +kernel
theorem dX3_bestOnward_40 : decode cX3_bestOnward 40 = .ok (.land, 1) := by decide +kernel
theorem dX3_bestOnward_41 : decode cX3_bestOnward 41 = .ok (.lconst 0, 1) := by decide +kernel
theorem dX3_bestOnward_42 : decode cX3_bestOnward 42 = .ok (.lcmp, 1) := by decide +kernel
theorem dX3_bestOnward_43 : decode cX3_bestOnward 43 = .ok (.ifCond .eq 26, 3) := by decide +kernel
theorem dX3_bestOnward_46 : decode cX3_bestOnward 46 = .ok (.aload_n 2, 1) := by decide +kernel
theorem dX3_bestOnward_47 : decode cX3_bestOnward 47 = .ok (.iload_n 3, 1) := by decide +kernel
theorem dX3_bestOnward_48 : decode cX3_bestOnward 48 = .ok (.iload 9, 2) := by decide +kernel
theorem dX3_bestOnward_50 : decode cX3_bestOnward 50 = .ok (.iadd, 1) := by decide +kernel
theorem dX3_bestOnward_51 : decode cX3_bestOnward 51 = .ok (.iaload, 1) := by decide +kernel
theorem dX3_bestOnward_52 : decode cX3_bestOnward 52 = .ok (.iload 6, 2) := by decide +kernel
theorem dX3_bestOnward_54 : decode cX3_bestOnward 54 = .ok (.if_icmp .ge 15, 3) := by decide +kernel
theorem dX3_bestOnward_57 : decode cX3_bestOnward 57 = .ok (.aload_n 2, 1) := by decide +kernel
theorem dX3_bestOnward_58 : decode cX3_bestOnward 58 = .ok (.iload_n 3, 1) := by decide +kernel
theorem dX3_bestOnward_59 : decode cX3_bestOnward 59 = .ok (.iload 9, 2) := by decide +kernel
theorem dX3_bestOnward_61 : decode cX3_bestOnward 61 = .ok (.iadd, 1) := by decide +kernel
theorem dX3_bestOnward_62 : decode cX3_bestOnward 62 = .ok (.iaload, 1) := by decide +kernel
theorem dX3_bestOnward_63 : decode cX3_bestOnward 63 = .ok (.istore 6, 2) := by decide +kernel
theorem dX3_bestOnward_65 : decode cX3_bestOnward 65 = .ok (.iload 9, 2) := by decide +kernel
theorem dX3_bestOnward_67 : decode cX3_bestOnward 67 = .ok (.istore 5, 2) := by decide +kernel
theorem dX3_bestOnward_69 : decode cX3_bestOnward 69 = .ok (.lload 7, 2) := by decide +kernel
theorem dX3_bestOnward_71 : decode cX3_bestOnward 71 = .ok (.iconst 1, 1) := by decide +kernel
theorem dX3_bestOnward_72 : decode cX3_bestOnward 72 = .ok (.lushr, 1) := by decide +kernel
theorem dX3_bestOnward_73 : decode cX3_bestOnward 73 = .ok (.lstore 7, 2) := by decide +kernel
theorem dX3_bestOnward_75 : decode cX3_bestOnward 75 = .ok (.iinc 9 1, 3) := by decide +kernel
theorem dX3_bestOnward_78 : decode cX3_bestOnward 78 = .ok (.goto (-60), 3) := by decide +kernel
theorem dX3_bestOnward_81 : decode cX3_bestOnward 81 = .ok (.iload 5, 2) := by decide +kernel
theorem dX3_bestOnward_83 : decode cX3_bestOnward 83 = .ok (.ireturn, 1) := by decide +kernel
theorem dX3_forget_0 : decode cX3_forget 0 = .ok (.iconst 0, 1) := by decide +kernel
theorem dX3_forget_1 : decode cX3_forget 1 = .ok (.istore_n 1, 1) := by decide +kernel
theorem dX3_forget_2 : decode cX3_forget 2 = .ok (.iload_n 1, 1) := by decide +kernel
theorem dX3_forget_3 : decode cX3_forget 3 = .ok (.bipush 10, 2) := by decide +kernel
theorem dX3_forget_5 : decode cX3_forget 5 = .ok (.if_icmp .ge 16, 3) := by decide +kernel
theorem dX3_forget_8 : decode cX3_forget 8 = .ok (.aload_n 0, 1) := by decide +kernel
theorem dX3_forget_9 : decode cX3_forget 9 = .ok (.getfield 22, 3) := by decide +kernel
theorem dX3_forget_12 : decode cX3_forget 12 = .ok (.iload_n 1, 1) := by decide +kernel
theorem dX3_forget_13 : decode cX3_forget 13 = .ok (.iconst 0, 1) := by decide +kernel
theorem dX3_forget_14 : decode cX3_forget 14 = .ok (.bastore, 1) := by decide +kernel
theorem dX3_forget_15 : decode cX3_forget 15 = .ok (.iinc 1 1, 3) := by decide +kernel
theorem dX3_forget_18 : decode cX3_forget 18 = .ok (.goto (-16), 3) := by decide +kernel
theorem dX3_forget_21 : decode cX3_forget 21 = .ok (.return_, 1) := by decide +kernel
theorem dX3_init_0 : decode cX3_init 0 = .ok (.aload_n 0, 1) := by decide +kernel
theorem dX3_init_1 : decode cX3_init 1 = .ok (.invokespecial 3, 3) := by decide +kernel
theorem dX3_init_4 : decode cX3_init 4 = .ok (.aload_n 0, 1) := by decide +kernel
theorem dX3_init_5 : decode cX3_init 5 = .ok (.bipush 10, 2) := by decide +kernel
theorem dX3_init_7 : decode cX3_init 7 = .ok (.sipush 300, 3) := by decide +kernel
theorem dX3_init_10 : decode cX3_init 10 = .ok (.multianewarray 9 2, 4) := by decide +kernel
theorem dX3_init_14 : decode cX3_init 14 = .ok (.putfield 11, 3) := by decide +kernel
theorem dX3_init_17 : decode cX3_init 17 = .ok (.aload_n 0, 1) := by decide +kernel
theorem dX3_init_18 : decode cX3_init 18 = .ok (.bipush 10, 2) := by decide +kernel
theorem dX3_init_20 : decode cX3_init 20 = .ok (.sipush 300, 3) := by decide +kernel
theorem dX3_init_23 : decode cX3_init 23 = .ok (.multianewarray 9 2, 4) := by decide +kernel
theorem dX3_init_27 : decode cX3_init 27 = .ok (.putfield 16, 3) := by decide +kernel
theorem dX3_init_30 : decode cX3_init 30 = .ok (.aload_n 0, 1) := by decide +kernel
theorem dX3_init_31 : decode cX3_init 31 = .ok (.bipush 10, 2) := by decide +kernel
theorem dX3_init_33 : decode cX3_init 33 = .ok (.sipush 300, 3) := by decide +kernel
theorem dX3_init_36 : decode cX3_init 36 = .ok (.multianewarray 9 2, 4) := by decide +kernel
theorem dX3_init_40 : decode cX3_init 40 = .ok (.putfield 19, 3) := by decide +kernel
theorem dX3_init_43 : decode cX3_init 43 = .ok (.aload_n 0, 1) := by decide +kernel
theorem dX3_init_44 : decode cX3_init 44 = .ok (.bipush 10, 2) := by decide +kernel
theorem dX3_init_46 : decode cX3_init 46 = .ok (.newarray .boolean, 2) := by decide +kernel
theorem dX3_init_48 : decode cX3_init 48 = .ok (.putfield 22, 3) := by decide +kernel
theorem dX3_init_51 : decode cX3_init 51 = .ok (.return_, 1) := by decide +kernel
theorem dX3_look_0 : decode cX3_look 0 = .ok (.aload_n 0, 1) := by decide +kernel
theorem dX3_look_1 : decode cX3_look 1 = .ok (.getfield 22, 3) := by decide +kernel
theorem dX3_look_4 : decode cX3_look 4 = .ok (.iload_n 2, 1) := by decide +kernel
theorem dX3_look_5 : decode cX3_look 5 = .ok (.baload, 1) := by decide +kernel
theorem dX3_look_6 : decode cX3_look 6 = .ok (.ifCond .eq 4, 3) := by decide +kernel
theorem dX3_look_9 : decode cX3_look 9 = .ok (.return_, 1) := by decide +kernel
theorem dX3_look_10 : decode cX3_look 10 = .ok (.aload_n 1, 1) := by decide +kernel
theorem dX3_look_11 : decode cX3_look 11 = .ok (.invokevirtual 26, 3) := by decide +kernel
theorem dX3_look_14 : decode cX3_look 14 = .ok (.iconst 1, 1) := by decide +kernel
theorem dX3_look_15 : decode cX3_look 15 = .ok (.istore_n 3, 1) := by decide +kernel
theorem dX3_look_16 : decode cX3_look 16 = .ok (.iconst 0, 1) := by decide +kernel
theorem dX3_look_17 : decode cX3_look 17 = .ok (.istore 4, 2) := by decide +kernel
theorem dX3_look_19 : decode cX3_look 19 = .ok (.iload 4, 2) := by decide +kernel
theorem dX3_look_21 : decode cX3_look 21 = .ok (.iconst 4, 1) := by decide +kernel
theorem dX3_look_22 : decode cX3_look 22 = .ok (.if_icmp .gt 39, 3) := by decide +kernel
theorem dX3_look_25 : decode cX3_look 25 = .ok (.iload_n 3, 1) := by decide +kernel
theorem dX3_look_26 : decode cX3_look 26 = .ok (.ifCond .eq 15, 3) := by decide +kernel
theorem dX3_look_29 : decode cX3_look 29 = .ok (.aload_n 0, 1) := by decide +kernel
theorem dX3_look_30 : decode cX3_look 30 = .ok (.aload_n 1, 1) := by decide +kernel
theorem dX3_look_31 : decode cX3_look 31 = .ok (.iload_n 2, 1) := by decide +kernel
theorem dX3_look_32 : decode cX3_look 32 = .ok (.iload 4, 2) := by decide +kernel
theorem dX3_look_34 : decode cX3_look 34 = .ok (.invokevirtual 31, 3) := by decide +kernel
theorem dX3_look_37 : decode cX3_look 37 = .ok (.istore_n 3, 1) := by decide +kernel
theorem dX3_look_38 : decode cX3_look 38 = .ok (.goto 17, 3) := by decide +kernel
theorem dX3_look_41 : decode cX3_look 41 = .ok (.aload_n 0, 1) := by decide +kernel
theorem dX3_look_42 : decode cX3_look 42 = .ok (.aload_n 1, 1) := by decide +kernel
theorem dX3_look_43 : decode cX3_look 43 = .ok (.getfield 35, 3) := by decide +kernel
theorem dX3_look_46 : decode cX3_look 46 = .ok (.getfield 39, 3) := by decide +kernel
theorem dX3_look_49 : decode cX3_look 49 = .ok (.iload_n 2, 1) := by decide +kernel
theorem dX3_look_50 : decode cX3_look 50 = .ok (.iload 4, 2) := by decide +kernel
theorem dX3_look_52 : decode cX3_look 52 = .ok (.invokevirtual 45, 3) := by decide +kernel
theorem dX3_look_55 : decode cX3_look 55 = .ok (.iinc 4 1, 3) := by decide +kernel
theorem dX3_look_58 : decode cX3_look 58 = .ok (.goto (-39), 3) := by decide +kernel
theorem dX3_look_61 : decode cX3_look 61 = .ok (.aload_n 0, 1) := by decide +kernel
theorem dX3_look_62 : decode cX3_look 62 = .ok (.getfield 22, 3) := by decide +kernel
theorem dX3_look_65 : decode cX3_look 65 = .ok (.iload_n 2, 1) := by decide +kernel
theorem dX3_look_66 : decode cX3_look 66 = .ok (.iconst 1, 1) := by decide +kernel
theorem dX3_look_67 : decode cX3_look 67 = .ok (.bastore, 1) := by decide +kernel
theorem dX3_look_68 : decode cX3_look 68 = .ok (.return_, 1) := by decide +kernel
theorem dX3_lookBy_0 : decode cX3_lookBy 0 = .ok (.iload_n 3, 1) := by decide +kernel
theorem dX3_lookBy_1 : decode cX3_lookBy 1 = .ok (.bipush 60, 2) := by decide +kernel
theorem dX3_lookBy_3 : decode cX3_lookBy 3 = .ok (.imul, 1) := by decide +kernel
theorem dX3_lookBy_4 : decode cX3_lookBy 4 = .ok (.istore 4, 2) := by decide +kernel
theorem dX3_lookBy_6 : decode cX3_lookBy 6 = .ok (.iload_n 3, 1) := by decide +kernel
theorem dX3_lookBy_7 : decode cX3_lookBy 7 = .ok (.ifCond .ne 7, 3) := by decide +kernel
theorem dX3_lookBy_10 : decode cX3_lookBy 10 = .ok (.iconst 1, 1) := by decide +kernel
theorem dX3_lookBy_11 : decode cX3_lookBy 11 = .ok (.goto 4, 3) := by decide +kernel
theorem dX3_lookBy_14 : decode cX3_lookBy 14 = .ok (.iconst 0, 1) := by decide +kernel
theorem dX3_lookBy_15 : decode cX3_lookBy 15 = .ok (.istore 5, 2) := by decide +kernel
theorem dX3_lookBy_17 : decode cX3_lookBy 17 = .ok (.aload_n 1, 1) := by decide +kernel
theorem dX3_lookBy_18 : decode cX3_lookBy 18 = .ok (.getfield 35, 3) := by decide +kernel
theorem dX3_lookBy_21 : decode cX3_lookBy 21 = .ok (.getfield 39, 3) := by decide +kernel
theorem dX3_lookBy_24 : decode cX3_lookBy 24 = .ok (.iconst 1, 1) := by decide +kernel
theorem dX3_lookBy_25 : decode cX3_lookBy 25 = .ok (.isub, 1) := by decide +kernel
theorem dX3_lookBy_26 : decode cX3_lookBy 26 = .ok (.istore 6, 2) := by decide +kernel
theorem dX3_lookBy_28 : decode cX3_lookBy 28 = .ok (.iload 6, 2) := by decide +kernel
theorem dX3_lookBy_30 : decode cX3_lookBy 30 = .ok (.ifCond .lt 55, 3) := by decide +kernel
theorem dX3_lookBy_33 : decode cX3_lookBy 33 = .ok (.aload_n 0, 1) := by decide +kernel
theorem dX3_lookBy_34 : decode cX3_lookBy 34 = .ok (.aload_n 1, 1) := by decide +kernel
theorem dX3_lookBy_35 : decode cX3_lookBy 35 = .ok (.iload_n 2, 1) := by decide +kernel
theorem dX3_lookBy_36 : decode cX3_lookBy 36 = .ok (.iload_n 3, 1) := by decide +kernel
theorem dX3_lookBy_37 : decode cX3_lookBy 37 = .ok (.iload 6, 2) := by decide +kernel
theorem dX3_lookBy_39 : decode cX3_lookBy 39 = .ok (.invokevirtual 49, 3) := by decide +kernel
theorem dX3_lookBy_42 : decode cX3_lookBy 42 = .ok (.iload_n 3, 1) := by decide +kernel
theorem dX3_lookBy_43 : decode cX3_lookBy 43 = .ok (.ifCond .le 36, 3) := by decide +kernel
theorem dX3_lookBy_46 : decode cX3_lookBy 46 = .ok (.aload_n 0, 1) := by decide +kernel
theorem dX3_lookBy_47 : decode cX3_lookBy 47 = .ok (.getfield 11, 3) := by decide +kernel
theorem dX3_lookBy_50 : decode cX3_lookBy 50 = .ok (.iload_n 2, 1) := by decide +kernel
theorem dX3_lookBy_51 : decode cX3_lookBy 51 = .ok (.aaload, 1) := by decide +kernel
theorem dX3_lookBy_52 : decode cX3_lookBy 52 = .ok (.iload 4, 2) := by decide +kernel
theorem dX3_lookBy_54 : decode cX3_lookBy 54 = .ok (.iload 6, 2) := by decide +kernel
theorem dX3_lookBy_56 : decode cX3_lookBy 56 = .ok (.iadd, 1) := by decide +kernel
theorem dX3_lookBy_57 : decode cX3_lookBy 57 = .ok (.iaload, 1) := by decide +kernel
theorem dX3_lookBy_58 : decode cX3_lookBy 58 = .ok (.aload_n 0, 1) := by decide +kernel
theorem dX3_lookBy_59 : decode cX3_lookBy 59 = .ok (.getfield 11, 3) := by decide +kernel
theorem dX3_lookBy_62 : decode cX3_lookBy 62 = .ok (.iload_n 2, 1) := by decide +kernel
theorem dX3_lookBy_63 : decode cX3_lookBy 63 = .ok (.aaload, 1) := by decide +kernel
theorem dX3_lookBy_64 : decode cX3_lookBy 64 = .ok (.iload 4, 2) := by decide +kernel
theorem dX3_lookBy_66 : decode cX3_lookBy 66 = .ok (.bipush 60, 2) := by decide +kernel
theorem dX3_lookBy_68 : decode cX3_lookBy 68 = .ok (.isub, 1) := by decide +kernel
theorem dX3_lookBy_69 : decode cX3_lookBy 69 = .ok (.iload 6, 2) := by decide +kernel
theorem dX3_lookBy_71 : decode cX3_lookBy 71 = .ok (.iadd, 1) := by decide +kernel
theorem dX3_lookBy_72 : decode cX3_lookBy 72 = .ok (.iaload, 1) := by decide +kernel
theorem dX3_lookBy_73 : decode cX3_lookBy 73 = .ok (.if_icmp .ge 6, 3) := by decide +kernel
theorem dX3_lookBy_76 : decode cX3_lookBy 76 = .ok (.iconst 1, 1) := by decide +kernel
theorem dX3_lookBy_77 : decode cX3_lookBy 77 = .ok (.istore 5, 2) := by decide +kernel
theorem dX3_lookBy_79 : decode cX3_lookBy 79 = .ok (.iinc 6 (-1), 3) := by decide +kernel
theorem dX3_lookBy_82 : decode cX3_lookBy 82 = .ok (.goto (-54), 3) := by decide +kernel
theorem dX3_lookBy_85 : decode cX3_lookBy 85 = .ok (.iload 5, 2) := by decide +kernel
theorem dX3_lookBy_87 : decode cX3_lookBy 87 = .ok (.ireturn, 1) := by decide +kernel
theorem dX3_lookFrom_0 : decode cX3_lookFrom 0 = .ok (.iload_n 3, 1) := by decide +kernel
theorem dX3_lookFrom_1 : decode cX3_lookFrom 1 = .ok (.bipush 60, 2) := by decide +kernel
theorem dX3_lookFrom_3 : decode cX3_lookFrom 3 = .ok (.imul, 1) := by decide +kernel
theorem dX3_lookFrom_4 : decode cX3_lookFrom 4 = .ok (.istore 5, 2) := by decide +kernel
theorem dX3_lookFrom_6 : decode cX3_lookFrom 6 = .ok (.aload_n 1, 1) := by decide +kernel
theorem dX3_lookFrom_7 : decode cX3_lookFrom 7 = .ok (.iload 4, 2) := by decide +kernel
theorem dX3_lookFrom_9 : decode cX3_lookFrom 9 = .ok (.invokevirtual 53, 3) := by decide +kernel
theorem dX3_lookFrom_12 : decode cX3_lookFrom 12 = .ok (.ifCond .eq 45, 3) := by decide +kernel
theorem dX3_lookFrom_15 : decode cX3_lookFrom 15 = .ok (.aload_n 0, 1) := by decide +kernel
theorem dX3_lookFrom_16 : decode cX3_lookFrom 16 = .ok (.getfield 11, 3) := by decide +kernel
theorem dX3_lookFrom_19 : decode cX3_lookFrom 19 = .ok (.iload_n 2, 1) := by decide +kernel
theorem dX3_lookFrom_20 : decode cX3_lookFrom 20 = .ok (.aaload, 1) := by decide +kernel
theorem dX3_lookFrom_21 : decode cX3_lookFrom 21 = .ok (.iload 5, 2) := by decide +kernel
theorem dX3_lookFrom_23 : decode cX3_lookFrom 23 = .ok (.iload 4, 2) := by decide +kernel
theorem dX3_lookFrom_25 : decode cX3_lookFrom 25 = .ok (.iadd, 1) := by decide +kernel
theorem dX3_lookFrom_26 : decode cX3_lookFrom 26 = .ok (.ldc 57, 2) := by decide +kernel
theorem dX3_lookFrom_28 : decode cX3_lookFrom 28 = .ok (.iastore, 1) := by decide +kernel
theorem dX3_lookFrom_29 : decode cX3_lookFrom 29 = .ok (.aload_n 0, 1) := by decide +kernel
theorem dX3_lookFrom_30 : decode cX3_lookFrom 30 = .ok (.getfield 16, 3) := by decide +kernel
theorem dX3_lookFrom_33 : decode cX3_lookFrom 33 = .ok (.iload_n 2, 1) := by decide +kernel
theorem dX3_lookFrom_34 : decode cX3_lookFrom 34 = .ok (.aaload, 1) := by decide +kernel
theorem dX3_lookFrom_35 : decode cX3_lookFrom 35 = .ok (.iload 5, 2) := by decide +kernel
theorem dX3_lookFrom_37 : decode cX3_lookFrom 37 = .ok (.iload 4, 2) := by decide +kernel
theorem dX3_lookFrom_39 : decode cX3_lookFrom 39 = .ok (.iadd, 1) := by decide +kernel
theorem dX3_lookFrom_40 : decode cX3_lookFrom 40 = .ok (.iload 4, 2) := by decide +kernel
theorem dX3_lookFrom_42 : decode cX3_lookFrom 42 = .ok (.iastore, 1) := by decide +kernel
theorem dX3_lookFrom_43 : decode cX3_lookFrom 43 = .ok (.aload_n 0, 1) := by decide +kernel
theorem dX3_lookFrom_44 : decode cX3_lookFrom 44 = .ok (.getfield 19, 3) := by decide +kernel
theorem dX3_lookFrom_47 : decode cX3_lookFrom 47 = .ok (.iload_n 2, 1) := by decide +kernel
theorem dX3_lookFrom_48 : decode cX3_lookFrom 48 = .ok (.aaload, 1) := by decide +kernel
theorem dX3_lookFrom_49 : decode cX3_lookFrom 49 = .ok (.iload 5, 2) := by decide +kernel
theorem dX3_lookFrom_51 : decode cX3_lookFrom 51 = .ok (.iload 4, 2) := by decide +kernel
theorem dX3_lookFrom_53 : decode cX3_lookFrom 53 = .ok (.iadd, 1) := by decide +kernel
theorem dX3_lookFrom_54 : decode cX3_lookFrom 54 = .ok (.iconst (-1), 1) := by decide +kernel
theorem dX3_lookFrom_55 : decode cX3_lookFrom 55 = .ok (.iastore, 1) := by decide +kernel
theorem dX3_lookFrom_56 : decode cX3_lookFrom 56 = .ok (.return_, 1) := by decide +kernel
theorem dX3_lookFrom_57 : decode cX3_lookFrom 57 = .ok (.aload_n 1, 1) := by decide +kernel
theorem dX3_lookFrom_58 : decode cX3_lookFrom 58 = .ok (.getfield 35, 3) := by decide +kernel
theorem dX3_lookFrom_61 : decode cX3_lookFrom 61 = .ok (.getfield 58, 3) := by decide +kernel
theorem dX3_lookFrom_64 : decode cX3_lookFrom 64 = .ok (.aload_n 1, 1) := by decide +kernel
theorem dX3_lookFrom_65 : decode cX3_lookFrom 65 = .ok (.getfield 35, 3) := by decide +kernel
theorem dX3_lookFrom_68 : decode cX3_lookFrom 68 = .ok (.getfield 61, 3) := by decide +kernel
theorem dX3_lookFrom_71 : decode cX3_lookFrom 71 = .ok (.iload 4, 2) := by decide +kernel
theorem dX3_lookFrom_73 : decode cX3_lookFrom 73 = .ok (.iaload, 1) := by decide +kernel
theorem dX3_lookFrom_74 : decode cX3_lookFrom 74 = .ok (.aaload, 1) := by decide +kernel
theorem dX3_lookFrom_75 : decode cX3_lookFrom 75 = .ok (.iload_n 2, 1) := by decide +kernel
theorem dX3_lookFrom_76 : decode cX3_lookFrom 76 = .ok (.iaload, 1) := by decide +kernel
theorem dX3_lookFrom_77 : decode cX3_lookFrom 77 = .ok (.istore 6, 2) := by decide +kernel
theorem dX3_lookFrom_79 : decode cX3_lookFrom 79 = .ok (.iload 6, 2) := by decide +kernel
theorem dX3_lookFrom_81 : decode cX3_lookFrom 81 = .ok (.ldc 57, 2) := by decide +kernel
theorem dX3_lookFrom_83 : decode cX3_lookFrom 83 = .ok (.if_icmp .lt 8, 3) := by decide +kernel
theorem dX3_lookFrom_86 : decode cX3_lookFrom 86 = .ok (.ldc 57, 2) := by decide +kernel
theorem dX3_lookFrom_88 : decode cX3_lookFrom 88 = .ok (.goto 13, 3) := by decide +kernel
theorem dX3_lookFrom_91 : decode cX3_lookFrom 91 = .ok (.aload_n 1, 1) := by decide +kernel
theorem dX3_lookFrom_92 : decode cX3_lookFrom 92 = .ok (.getfield 65, 3) := by decide +kernel
theorem dX3_lookFrom_95 : decode cX3_lookFrom 95 = .ok (.iload 4, 2) := by decide +kernel
theorem dX3_lookFrom_97 : decode cX3_lookFrom 97 = .ok (.iaload, 1) := by decide +kernel
theorem dX3_lookFrom_98 : decode cX3_lookFrom 98 = .ok (.iload 6, 2) := by decide +kernel
theorem dX3_lookFrom_100 : decode cX3_lookFrom 100 = .ok (.iadd, 1) := by decide +kernel
theorem dX3_lookFrom_101 : decode cX3_lookFrom 101 = .ok (.istore 7, 2) := by decide +kernel
theorem dX3_lookFrom_103 : decode cX3_lookFrom 103 = .ok (.iconst (-1), 1) := by decide +kernel
theorem dX3_lookFrom_104 : decode cX3_lookFrom 104 = .ok (.istore 8, 2) := by decide +kernel
theorem dX3_lookFrom_106 : decode cX3_lookFrom 106 = .ok (.iload_n 3, 1) := by decide +kernel
theorem dX3_lookFrom_107 : decode cX3_lookFrom 107 = .ok (.ifCond .le 46, 3) := by decide +kernel
theorem dX3_lookFrom_110 : decode cX3_lookFrom 110 = .ok (.aload_n 1, 1) := by decide +kernel
theorem dX3_lookFrom_111 : decode cX3_lookFrom 111 = .ok (.iload 4, 2) := by decide +kernel
theorem dX3_lookFrom_113 : decode cX3_lookFrom 113 = .ok (.aload_n 0, 1) := by decide +kernel
theorem dX3_lookFrom_114 : decode cX3_lookFrom 114 = .ok (.getfield 11, 3) := by decide +kernel
theorem dX3_lookFrom_117 : decode cX3_lookFrom 117 = .ok (.iload_n 2, 1) := by decide +kernel
theorem dX3_lookFrom_118 : decode cX3_lookFrom 118 = .ok (.aaload, 1) := by decide +kernel
theorem dX3_lookFrom_119 : decode cX3_lookFrom 119 = .ok (.iload 5, 2) := by decide +kernel
theorem dX3_lookFrom_121 : decode cX3_lookFrom 121 = .ok (.bipush 60, 2) := by decide +kernel
theorem dX3_lookFrom_123 : decode cX3_lookFrom 123 = .ok (.isub, 1) := by decide +kernel
theorem dX3_lookFrom_124 : decode cX3_lookFrom 124 = .ok (.iload 7, 2) := by decide +kernel
theorem dX3_lookFrom_126 : decode cX3_lookFrom 126 = .ok (.invokestatic 68, 3) := by decide +kernel
theorem dX3_lookFrom_129 : decode cX3_lookFrom 129 = .ok (.istore 8, 2) := by decide +kernel
theorem dX3_lookFrom_131 : decode cX3_lookFrom 131 = .ok (.iload 8, 2) := by decide +kernel
theorem dX3_lookFrom_133 : decode cX3_lookFrom 133 = .ok (.ifCond .lt 20, 3) := by decide +kernel
theorem dX3_lookFrom_136 : decode cX3_lookFrom 136 = .ok (.aload_n 0, 1) := by decide +kernel
theorem dX3_lookFrom_137 : decode cX3_lookFrom 137 = .ok (.getfield 11, 3) := by decide +kernel
theorem dX3_lookFrom_140 : decode cX3_lookFrom 140 = .ok (.iload_n 2, 1) := by decide +kernel
theorem dX3_lookFrom_141 : decode cX3_lookFrom 141 = .ok (.aaload, 1) := by decide +kernel
theorem dX3_lookFrom_142 : decode cX3_lookFrom 142 = .ok (.iload 5, 2) := by decide +kernel
theorem dX3_lookFrom_144 : decode cX3_lookFrom 144 = .ok (.bipush 60, 2) := by decide +kernel
theorem dX3_lookFrom_146 : decode cX3_lookFrom 146 = .ok (.isub, 1) := by decide +kernel
theorem dX3_lookFrom_147 : decode cX3_lookFrom 147 = .ok (.iload 8, 2) := by decide +kernel
theorem dX3_lookFrom_149 : decode cX3_lookFrom 149 = .ok (.iadd, 1) := by decide +kernel
theorem dX3_lookFrom_150 : decode cX3_lookFrom 150 = .ok (.iaload, 1) := by decide +kernel
theorem dX3_lookFrom_151 : decode cX3_lookFrom 151 = .ok (.istore 7, 2) := by decide +kernel
theorem dX3_lookFrom_153 : decode cX3_lookFrom 153 = .ok (.iload 4, 2) := by decide +kernel
theorem dX3_lookFrom_155 : decode cX3_lookFrom 155 = .ok (.istore 9, 2) := by decide +kernel
theorem dX3_lookFrom_157 : decode cX3_lookFrom 157 = .ok (.aload_n 1, 1) := by decide +kernel
theorem dX3_lookFrom_158 : decode cX3_lookFrom 158 = .ok (.getfield 35, 3) := by decide +kernel
theorem dX3_lookFrom_161 : decode cX3_lookFrom 161 = .ok (.iload 4, 2) := by decide +kernel
theorem dX3_lookFrom_163 : decode cX3_lookFrom 163 = .ok (.invokevirtual 72, 3) := by decide +kernel
theorem dX3_lookFrom_166 : decode cX3_lookFrom 166 = .ok (.ifCond .eq 54, 3) := by decide +kernel
theorem dX3_lookFrom_169 : decode cX3_lookFrom 169 = .ok (.aload_n 0, 1) := by decide +kernel
theorem dX3_lookFrom_170 : decode cX3_lookFrom 170 = .ok (.getfield 11, 3) := by decide +kernel
theorem dX3_lookFrom_173 : decode cX3_lookFrom 173 = .ok (.iload_n 2, 1) := by decide +kernel
theorem dX3_lookFrom_174 : decode cX3_lookFrom 174 = .ok (.aaload, 1) := by decide +kernel
theorem dX3_lookFrom_175 : decode cX3_lookFrom 175 = .ok (.iload 5, 2) := by decide +kernel
theorem dX3_lookFrom_177 : decode cX3_lookFrom 177 = .ok (.iload 4, 2) := by decide +kernel
theorem dX3_lookFrom_179 : decode cX3_lookFrom 179 = .ok (.iadd, 1) := by decide +kernel
theorem dX3_lookFrom_180 : decode cX3_lookFrom 180 = .ok (.iconst 1, 1) := by decide +kernel
theorem dX3_lookFrom_181 : decode cX3_lookFrom 181 = .ok (.iadd, 1) := by decide +kernel
theorem dX3_lookFrom_182 : decode cX3_lookFrom 182 = .ok (.iaload, 1) := by decide +kernel
theorem dX3_lookFrom_183 : decode cX3_lookFrom 183 = .ok (.iload 7, 2) := by decide +kernel
theorem dX3_lookFrom_185 : decode cX3_lookFrom 185 = .ok (.if_icmp .ge 35, 3) := by decide +kernel
theorem dX3_lookFrom_188 : decode cX3_lookFrom 188 = .ok (.aload_n 0, 1) := by decide +kernel
theorem dX3_lookFrom_189 : decode cX3_lookFrom 189 = .ok (.getfield 11, 3) := by decide +kernel
theorem dX3_lookFrom_192 : decode cX3_lookFrom 192 = .ok (.iload_n 2, 1) := by decide +kernel
theorem dX3_lookFrom_193 : decode cX3_lookFrom 193 = .ok (.aaload, 1) := by decide +kernel
theorem dX3_lookFrom_194 : decode cX3_lookFrom 194 = .ok (.iload 5, 2) := by decide +kernel
theorem dX3_lookFrom_196 : decode cX3_lookFrom 196 = .ok (.iload 4, 2) := by decide +kernel
theorem dX3_lookFrom_198 : decode cX3_lookFrom 198 = .ok (.iadd, 1) := by decide +kernel
theorem dX3_lookFrom_199 : decode cX3_lookFrom 199 = .ok (.iconst 1, 1) := by decide +kernel
theorem dX3_lookFrom_200 : decode cX3_lookFrom 200 = .ok (.iadd, 1) := by decide +kernel
theorem dX3_lookFrom_201 : decode cX3_lookFrom 201 = .ok (.iaload, 1) := by decide +kernel
theorem dX3_lookFrom_202 : decode cX3_lookFrom 202 = .ok (.istore 7, 2) := by decide +kernel
theorem dX3_lookFrom_204 : decode cX3_lookFrom 204 = .ok (.aload_n 0, 1) := by decide +kernel
theorem dX3_lookFrom_205 : decode cX3_lookFrom 205 = .ok (.getfield 16, 3) := by decide +kernel
theorem dX3_lookFrom_208 : decode cX3_lookFrom 208 = .ok (.iload_n 2, 1) := by decide +kernel
theorem dX3_lookFrom_209 : decode cX3_lookFrom 209 = .ok (.aaload, 1) := by decide +kernel
theorem dX3_lookFrom_210 : decode cX3_lookFrom 210 = .ok (.iload 5, 2) := by decide +kernel
theorem dX3_lookFrom_212 : decode cX3_lookFrom 212 = .ok (.iload 4, 2) := by decide +kernel
theorem dX3_lookFrom_214 : decode cX3_lookFrom 214 = .ok (.iadd, 1) := by decide +kernel
theorem dX3_lookFrom_215 : decode cX3_lookFrom 215 = .ok (.iconst 1, 1) := by decide +kernel
theorem dX3_lookFrom_216 : decode cX3_lookFrom 216 = .ok (.iadd, 1) := by decide +kernel
theorem dX3_lookFrom_217 : decode cX3_lookFrom 217 = .ok (.iaload, 1) := by decide +kernel
theorem dX3_lookFrom_218 : decode cX3_lookFrom 218 = .ok (.istore 9, 2) := by decide +kernel
theorem dX3_lookFrom_220 : decode cX3_lookFrom 220 = .ok (.aload_n 0, 1) := by decide +kernel
theorem dX3_lookFrom_221 : decode cX3_lookFrom 221 = .ok (.getfield 11, 3) := by decide +kernel
theorem dX3_lookFrom_224 : decode cX3_lookFrom 224 = .ok (.iload_n 2, 1) := by decide +kernel
theorem dX3_lookFrom_225 : decode cX3_lookFrom 225 = .ok (.aaload, 1) := by decide +kernel
theorem dX3_lookFrom_226 : decode cX3_lookFrom 226 = .ok (.iload 5, 2) := by decide +kernel
theorem dX3_lookFrom_228 : decode cX3_lookFrom 228 = .ok (.iload 4, 2) := by decide +kernel
theorem dX3_lookFrom_230 : decode cX3_lookFrom 230 = .ok (.iadd, 1) := by decide +kernel
theorem dX3_lookFrom_231 : decode cX3_lookFrom 231 = .ok (.iload 7, 2) := by decide +kernel
theorem dX3_lookFrom_233 : decode cX3_lookFrom 233 = .ok (.iastore, 1) := by decide +kernel
theorem dX3_lookFrom_234 : decode cX3_lookFrom 234 = .ok (.aload_n 0, 1) := by decide +kernel
theorem dX3_lookFrom_235 : decode cX3_lookFrom 235 = .ok (.getfield 16, 3) := by decide +kernel
theorem dX3_lookFrom_238 : decode cX3_lookFrom 238 = .ok (.iload_n 2, 1) := by decide +kernel
theorem dX3_lookFrom_239 : decode cX3_lookFrom 239 = .ok (.aaload, 1) := by decide +kernel
theorem dX3_lookFrom_240 : decode cX3_lookFrom 240 = .ok (.iload 5, 2) := by decide +kernel
theorem dX3_lookFrom_242 : decode cX3_lookFrom 242 = .ok (.iload 4, 2) := by decide +kernel
theorem dX3_lookFrom_244 : decode cX3_lookFrom 244 = .ok (.iadd, 1) := by decide +kernel
theorem dX3_lookFrom_245 : decode cX3_lookFrom 245 = .ok (.iload 9, 2) := by decide +kernel
theorem dX3_lookFrom_247 : decode cX3_lookFrom 247 = .ok (.iastore, 1) := by decide +kernel
theorem dX3_lookFrom_248 : decode cX3_lookFrom 248 = .ok (.aload_n 0, 1) := by decide +kernel
theorem dX3_lookFrom_249 : decode cX3_lookFrom 249 = .ok (.getfield 19, 3) := by decide +kernel
theorem dX3_lookFrom_252 : decode cX3_lookFrom 252 = .ok (.iload_n 2, 1) := by decide +kernel
theorem dX3_lookFrom_253 : decode cX3_lookFrom 253 = .ok (.aaload, 1) := by decide +kernel
theorem dX3_lookFrom_254 : decode cX3_lookFrom 254 = .ok (.iload 5, 2) := by decide +kernel
theorem dX3_lookFrom_256 : decode cX3_lookFrom 256 = .ok (.iload 4, 2) := by decide +kernel
theorem dX3_lookFrom_258 : decode cX3_lookFrom 258 = .ok (.iadd, 1) := by decide +kernel
theorem dX3_lookFrom_259 : decode cX3_lookFrom 259 = .ok (.iload 8, 2) := by decide +kernel
theorem dX3_lookFrom_261 : decode cX3_lookFrom 261 = .ok (.iastore, 1) := by decide +kernel
theorem dX3_lookFrom_262 : decode cX3_lookFrom 262 = .ok (.return_, 1) := by decide +kernel
theorem dX3_repeat_0 : decode cX3_repeat 0 = .ok (.iload_n 3, 1) := by decide +kernel
theorem dX3_repeat_1 : decode cX3_repeat 1 = .ok (.bipush 60, 2) := by decide +kernel
theorem dX3_repeat_3 : decode cX3_repeat 3 = .ok (.imul, 1) := by decide +kernel
theorem dX3_repeat_4 : decode cX3_repeat 4 = .ok (.istore 4, 2) := by decide +kernel
theorem dX3_repeat_6 : decode cX3_repeat 6 = .ok (.iconst 0, 1) := by decide +kernel
theorem dX3_repeat_7 : decode cX3_repeat 7 = .ok (.istore 5, 2) := by decide +kernel
theorem dX3_repeat_9 : decode cX3_repeat 9 = .ok (.iload 5, 2) := by decide +kernel
theorem dX3_repeat_11 : decode cX3_repeat 11 = .ok (.iload_n 1, 1) := by decide +kernel
theorem dX3_repeat_12 : decode cX3_repeat 12 = .ok (.if_icmp .ge 40, 3) := by decide +kernel
theorem dX3_repeat_15 : decode cX3_repeat 15 = .ok (.iload_n 3, 1) := by decide +kernel
theorem dX3_repeat_16 : decode cX3_repeat 16 = .ok (.ifCond .le 36, 3) := by decide +kernel
theorem dX3_repeat_19 : decode cX3_repeat 19 = .ok (.aload_n 0, 1) := by decide +kernel
theorem dX3_repeat_20 : decode cX3_repeat 20 = .ok (.getfield 11, 3) := by decide +kernel
theorem dX3_repeat_23 : decode cX3_repeat 23 = .ok (.iload_n 2, 1) := by decide +kernel
theorem dX3_repeat_24 : decode cX3_repeat 24 = .ok (.aaload, 1) := by decide +kernel
theorem dX3_repeat_25 : decode cX3_repeat 25 = .ok (.iload 4, 2) := by decide +kernel
theorem dX3_repeat_27 : decode cX3_repeat 27 = .ok (.iload 5, 2) := by decide +kernel
theorem dX3_repeat_29 : decode cX3_repeat 29 = .ok (.iadd, 1) := by decide +kernel
theorem dX3_repeat_30 : decode cX3_repeat 30 = .ok (.aload_n 0, 1) := by decide +kernel
theorem dX3_repeat_31 : decode cX3_repeat 31 = .ok (.getfield 11, 3) := by decide +kernel
theorem dX3_repeat_34 : decode cX3_repeat 34 = .ok (.iload_n 2, 1) := by decide +kernel
theorem dX3_repeat_35 : decode cX3_repeat 35 = .ok (.aaload, 1) := by decide +kernel
theorem dX3_repeat_36 : decode cX3_repeat 36 = .ok (.iload 4, 2) := by decide +kernel
theorem dX3_repeat_38 : decode cX3_repeat 38 = .ok (.bipush 60, 2) := by decide +kernel
theorem dX3_repeat_40 : decode cX3_repeat 40 = .ok (.isub, 1) := by decide +kernel
theorem dX3_repeat_41 : decode cX3_repeat 41 = .ok (.iload 5, 2) := by decide +kernel
theorem dX3_repeat_43 : decode cX3_repeat 43 = .ok (.iadd, 1) := by decide +kernel
theorem dX3_repeat_44 : decode cX3_repeat 44 = .ok (.iaload, 1) := by decide +kernel
theorem dX3_repeat_45 : decode cX3_repeat 45 = .ok (.iastore, 1) := by decide +kernel
theorem dX3_repeat_46 : decode cX3_repeat 46 = .ok (.iinc 5 1, 3) := by decide +kernel
theorem dX3_repeat_49 : decode cX3_repeat 49 = .ok (.goto (-40), 3) := by decide +kernel
theorem dX3_repeat_52 : decode cX3_repeat 52 = .ok (.return_, 1) := by decide +kernel
theorem dX4_arrange_0 : decode cX4_arrange 0 = .ok (.aload_n 0, 1) := by decide +kernel
theorem dX4_arrange_1 : decode cX4_arrange 1 = .ok (.iconst 0, 1) := by decide +kernel
theorem dX4_arrange_2 : decode cX4_arrange 2 = .ok (.putfield 43, 3) := by decide +kernel
theorem dX4_arrange_5 : decode cX4_arrange 5 = .ok (.iconst 0, 1) := by decide +kernel
theorem dX4_arrange_6 : decode cX4_arrange 6 = .ok (.istore_n 3, 1) := by decide +kernel
theorem dX4_arrange_7 : decode cX4_arrange 7 = .ok (.iload_n 3, 1) := by decide +kernel
theorem dX4_arrange_8 : decode cX4_arrange 8 = .ok (.aload_n 1, 1) := by decide +kernel
theorem dX4_arrange_9 : decode cX4_arrange 9 = .ok (.getfield 46, 3) := by decide +kernel
theorem dX4_arrange_12 : decode cX4_arrange 12 = .ok (.getfield 52, 3) := by decide +kernel
theorem dX4_arrange_15 : decode cX4_arrange 15 = .ok (.if_icmp .ge 57, 3) := by decide +kernel
theorem dX4_arrange_18 : decode cX4_arrange 18 = .ok (.aload_n 1, 1) := by decide +kernel
theorem dX4_arrange_19 : decode cX4_arrange 19 = .ok (.getfield 57, 3) := by decide +kernel
theorem dX4_arrange_22 : decode cX4_arrange 22 = .ok (.iload_n 3, 1) := by decide +kernel
theorem dX4_arrange_23 : decode cX4_arrange 23 = .ok (.iaload, 1) := by decide +kernel
theorem dX4_arrange_24 : decode cX4_arrange 24 = .ok (.aload_n 1, 1) := by decide +kernel
theorem dX4_arrange_25 : decode cX4_arrange 25 = .ok (.getfield 46, 3) := by decide +kernel
theorem dX4_arrange_28 : decode cX4_arrange 28 = .ok (.getfield 60, 3) := by decide +kernel
theorem dX4_arrange_31 : decode cX4_arrange 31 = .ok (.iload_n 2, 1) := by decide +kernel
theorem dX4_arrange_32 : decode cX4_arrange 32 = .ok (.aaload, 1) := by decide +kernel
theorem dX4_arrange_33 : decode cX4_arrange 33 = .ok (.aload_n 1, 1) := by decide +kernel
theorem dX4_arrange_34 : decode cX4_arrange 34 = .ok (.getfield 46, 3) := by decide +kernel
theorem dX4_arrange_37 : decode cX4_arrange 37 = .ok (.getfield 64, 3) := by decide +kernel
theorem dX4_arrange_40 : decode cX4_arrange 40 = .ok (.iload_n 3, 1) := by decide +kernel
theorem dX4_arrange_41 : decode cX4_arrange 41 = .ok (.iaload, 1) := by decide +kernel
theorem dX4_arrange_42 : decode cX4_arrange 42 = .ok (.iaload, 1) := by decide +kernel
theorem dX4_arrange_43 : decode cX4_arrange 43 = .ok (.isub, 1) := by decide +kernel
theorem dX4_arrange_44 : decode cX4_arrange 44 = .ok (.istore 4, 2) := by decide +kernel
theorem dX4_arrange_46 : decode cX4_arrange 46 = .ok (.iload 4, 2) := by decide +kernel
theorem dX4_arrange_48 : decode cX4_arrange 48 = .ok (.ifCond .lt 18, 3) := by decide +kernel
theorem dX4_arrange_51 : decode cX4_arrange 51 = .ok (.aload_n 1, 1) := by decide +kernel
theorem dX4_arrange_52 : decode cX4_arrange 52 = .ok (.iload_n 3, 1) := by decide +kernel
theorem dX4_arrange_53 : decode cX4_arrange 53 = .ok (.invokevirtual 67, 3) := by decide +kernel
theorem dX4_arrange_56 : decode cX4_arrange 56 = .ok (.ifCond .ne 10, 3) := by decide +kernel
theorem dX4_arrange_59 : decode cX4_arrange 59 = .ok (.aload_n 0, 1) := by decide +kernel
theorem dX4_arrange_60 : decode cX4_arrange 60 = .ok (.iload_n 3, 1) := by decide +kernel
theorem dX4_arrange_61 : decode cX4_arrange 61 = .ok (.iload 4, 2) := by decide +kernel
theorem dX4_arrange_63 : decode cX4_arrange 63 = .ok (.invokevirtual 71, 3) := by decide +kernel
theorem dX4_arrange_66 : decode cX4_arrange 66 = .ok (.iinc 3 1, 3) := by decide +kernel
theorem dX4_arrange_69 : decode cX4_arrange 69 = .ok (.goto (-62), 3) := by decide +kernel
theorem dX4_arrange_72 : decode cX4_arrange 72 = .ok (.return_, 1) := by decide +kernel
theorem dX4_arrival_0 : decode cX4_arrival 0 = .ok (.aload_n 0, 1) := by decide +kernel
theorem dX4_arrival_1 : decode cX4_arrival 1 = .ok (.getfield 15, 3) := by decide +kernel
theorem dX4_arrival_4 : decode cX4_arrival 4 = .ok (.aload_n 0, 1) := by decide +kernel
theorem dX4_arrival_5 : decode cX4_arrival 5 = .ok (.getfield 39, 3) := by decide +kernel
theorem dX4_arrival_8 : decode cX4_arrival 8 = .ok (.iload_n 1, 1) := by decide +kernel
theorem dX4_arrival_9 : decode cX4_arrival 9 = .ok (.iadd, 1) := by decide +kernel
theorem dX4_arrival_10 : decode cX4_arrival 10 = .ok (.iaload, 1) := by decide +kernel
theorem dX4_arrival_11 : decode cX4_arrival 11 = .ok (.ireturn, 1) := by decide +kernel
theorem dX4_changesOf_0 : decode cX4_changesOf 0 = .ok (.aload_n 0, 1) := by decide +kernel
theorem dX4_changesOf_1 : decode cX4_changesOf 1 = .ok (.getfield 18, 3) := by decide +kernel
theorem dX4_changesOf_4 : decode cX4_changesOf 4 = .ok (.aload_n 0, 1) := by decide +kernel
theorem dX4_changesOf_5 : decode cX4_changesOf 5 = .ok (.getfield 39, 3) := by decide +kernel
theorem dX4_changesOf_8 : decode cX4_changesOf 8 = .ok (.iload_n 1, 1) := by decide +kernel
theorem dX4_changesOf_9 : decode cX4_changesOf 9 = .ok (.iadd, 1) := by decide +kernel
theorem dX4_changesOf_10 : decode cX4_changesOf 10 = .ok (.iaload, 1) := by decide +kernel
theorem dX4_changesOf_11 : decode cX4_changesOf 11 = .ok (.ireturn, 1) := by decide +kernel
theorem dX4_departure_0 : decode cX4_departure 0 = .ok (.aload_n 0, 1) := by decide +kernel
theorem dX4_departure_1 : decode cX4_departure 1 = .ok (.getfield 11, 3) := by decide +kernel
theorem dX4_departure_4 : decode cX4_departure 4 = .ok (.aload_n 0, 1) := by decide +kernel
theorem dX4_departure_5 : decode cX4_departure 5 = .ok (.getfield 39, 3) := by decide +kernel
theorem dX4_departure_8 : decode cX4_departure 8 = .ok (.iload_n 1, 1) := by decide +kernel
theorem dX4_departure_9 : decode cX4_departure 9 = .ok (.iadd, 1) := by decide +kernel
theorem dX4_departure_10 : decode cX4_departure 10 = .ok (.iaload, 1) := by decide +kernel
theorem dX4_departure_11 : decode cX4_departure 11 = .ok (.ireturn, 1) := by decide +kernel
theorem dX4_gather_0 : decode cX4_gather 0 = .ok (.iconst 0, 1) := by decide +kernel
theorem dX4_gather_1 : decode cX4_gather 1 = .ok (.istore 4, 2) := by decide +kernel
theorem dX4_gather_3 : decode cX4_gather 3 = .ok (.iload 4, 2) := by decide +kernel
theorem dX4_gather_5 : decode cX4_gather 5 = .ok (.iload_n 3, 1) := by decide +kernel
theorem dX4_gather_6 : decode cX4_gather 6 = .ok (.if_icmp .gt 49, 3) := by decide +kernel
theorem dX4_gather_9 : decode cX4_gather 9 = .ok (.aload_n 2, 1) := by decide +kernel
theorem dX4_gather_10 : decode cX4_gather 10 = .ok (.iload 4, 2) := by decide +kernel
theorem dX4_gather_12 : decode cX4_gather 12 = .ok (.bipush 60, 2) := by decide +kernel
theorem dX4_gather_14 : decode cX4_gather 14 = .ok (.imul, 1) := by decide +kernel
theorem dX4_gather_15 : decode cX4_gather 15 = .ok (.iload_n 1, 1) := by decide +kernel
theorem dX4_gather_16 : decode cX4_gather 16 = .ok (.iadd, 1) := by decide +kernel
theorem dX4_gather_17 : decode cX4_gather 17 = .ok (.iaload, 1) := by decide +kernel
theorem dX4_gather_18 : decode cX4_gather 18 = .ok (.istore 5, 2) := by decide +kernel
theorem dX4_gather_20 : decode cX4_gather 20 = .ok (.iload 5, 2) := by decide +kernel
theorem dX4_gather_22 : decode cX4_gather 22 = .ok (.aload_n 0, 1) := by decide +kernel
theorem dX4_gather_23 : decode cX4_gather 23 = .ok (.getfield 33, 3) := by decide +kernel
theorem dX4_gather_26 : decode cX4_gather 26 = .ok (.iload 4, 2) := by decide +kernel
theorem dX4_gather_28 : decode cX4_gather 28 = .ok (.iaload, 1) := by decide +kernel
theorem dX4_gather_29 : decode cX4_gather 29 = .ok (.if_icmp .gt 20, 3) := by decide +kernel
theorem dX4_gather_32 : decode cX4_gather 32 = .ok (.aload_n 0, 1) := by decide +kernel
theorem dX4_gather_33 : decode cX4_gather 33 = .ok (.getfield 33, 3) := by decide +kernel
theorem dX4_gather_36 : decode cX4_gather 36 = .ok (.iload 4, 2) := by decide +kernel
theorem dX4_gather_38 : decode cX4_gather 38 = .ok (.iload 5, 2) := by decide +kernel
theorem dX4_gather_40 : decode cX4_gather 40 = .ok (.iastore, 1) := by decide +kernel
theorem dX4_gather_41 : decode cX4_gather 41 = .ok (.aload_n 0, 1) := by decide +kernel
theorem dX4_gather_42 : decode cX4_gather 42 = .ok (.getfield 36, 3) := by decide +kernel
theorem dX4_gather_45 : decode cX4_gather 45 = .ok (.iload 4, 2) := by decide +kernel
theorem dX4_gather_47 : decode cX4_gather 47 = .ok (.iload_n 1, 1) := by decide +kernel
theorem dX4_gather_48 : decode cX4_gather 48 = .ok (.iastore, 1) := by decide +kernel
theorem dX4_gather_49 : decode cX4_gather 49 = .ok (.iinc 4 1, 3) := by decide +kernel
theorem dX4_gather_52 : decode cX4_gather 52 = .ok (.goto (-49), 3) := by decide +kernel
theorem dX4_gather_55 : decode cX4_gather 55 = .ok (.return_, 1) := by decide +kernel
theorem dX4_init_0 : decode cX4_init 0 = .ok (.aload_n 0, 1) := by decide +kernel
theorem dX4_init_1 : decode cX4_init 1 = .ok (.invokespecial 3, 3) := by decide +kernel
theorem dX4_init_4 : decode cX4_init 4 = .ok (.aload_n 0, 1) := by decide +kernel
theorem dX4_init_5 : decode cX4_init 5 = .ok (.sipush 300, 3) := by decide +kernel
theorem dX4_init_8 : decode cX4_init 8 = .ok (.newarray .int, 2) := by decide +kernel
theorem dX4_init_10 : decode cX4_init 10 = .ok (.putfield 11, 3) := by decide +kernel
theorem dX4_init_13 : decode cX4_init 13 = .ok (.aload_n 0, 1) := by decide +kernel
theorem dX4_init_14 : decode cX4_init 14 = .ok (.sipush 300, 3) := by decide +kernel
theorem dX4_init_17 : decode cX4_init 17 = .ok (.newarray .int, 2) := by decide +kernel
theorem dX4_init_19 : decode cX4_init 19 = .ok (.putfield 15, 3) := by decide +kernel
theorem dX4_init_22 : decode cX4_init 22 = .ok (.aload_n 0, 1) := by decide +kernel
theorem dX4_init_23 : decode cX4_init 23 = .ok (.sipush 300, 3) := by decide +kernel
theorem dX4_init_26 : decode cX4_init 26 = .ok (.newarray .int, 2) := by decide +kernel
theorem dX4_init_28 : decode cX4_init 28 = .ok (.putfield 18, 3) := by decide +kernel
theorem dX4_init_31 : decode cX4_init 31 = .ok (.aload_n 0, 1) := by decide +kernel
theorem dX4_init_32 : decode cX4_init 32 = .ok (.sipush 300, 3) := by decide +kernel
theorem dX4_init_35 : decode cX4_init 35 = .ok (.newarray .int, 2) := by decide +kernel
theorem dX4_init_37 : decode cX4_init 37 = .ok (.putfield 21, 3) := by decide +kernel
theorem dX4_init_40 : decode cX4_init 40 = .ok (.aload_n 0, 1) := by decide +kernel
theorem dX4_init_41 : decode cX4_init 41 = .ok (.bipush 60, 2) := by decide +kernel
theorem dX4_init_43 : decode cX4_init 43 = .ok (.newarray .int, 2) := by decide +kernel
theorem dX4_init_45 : decode cX4_init 45 = .ok (.putfield 24, 3) := by decide +kernel
theorem dX4_init_48 : decode cX4_init 48 = .ok (.aload_n 0, 1) := by decide +kernel
theorem dX4_init_49 : decode cX4_init 49 = .ok (.bipush 60, 2) := by decide +kernel
theorem dX4_init_51 : decode cX4_init 51 = .ok (.newarray .int, 2) := by decide +kernel
theorem dX4_init_53 : decode cX4_init 53 = .ok (.putfield 27, 3) := by decide +kernel
theorem dX4_init_56 : decode cX4_init 56 = .ok (.aload_n 0, 1) := by decide +kernel
theorem dX4_init_57 : decode cX4_init 57 = .ok (.iconst 5, 1) := by decide +kernel
theorem dX4_init_58 : decode cX4_init 58 = .ok (.newarray .int, 2) := by decide +kernel
theorem dX4_init_60 : decode cX4_init 60 = .ok (.putfield 30, 3) := by decide +kernel
theorem dX4_init_63 : decode cX4_init 63 = .ok (.aload_n 0, 1) := by decide +kernel
theorem dX4_init_64 : decode cX4_init 64 = .ok (.iconst 5, 1) := by decide +kernel
theorem dX4_init_65 : decode cX4_init 65 = .ok (.newarray .int, 2) := by decide +kernel
theorem dX4_init_67 : decode cX4_init 67 = .ok (.putfield 33, 3) := by decide +kernel
theorem dX4_init_70 : decode cX4_init 70 = .ok (.aload_n 0, 1) := by decide +kernel
theorem dX4_init_71 : decode cX4_init 71 = .ok (.iconst 5, 1) := by decide +kernel
theorem dX4_init_72 : decode cX4_init 72 = .ok (.newarray .int, 2) := by decide +kernel
theorem dX4_init_74 : decode cX4_init 74 = .ok (.putfield 36, 3) := by decide +kernel
theorem dX4_init_77 : decode cX4_init 77 = .ok (.return_, 1) := by decide +kernel
theorem dX4_insert_0 : decode cX4_insert 0 = .ok (.aload_n 0, 1) := by decide +kernel
theorem dX4_insert_1 : decode cX4_insert 1 = .ok (.getfield 43, 3) := by decide +kernel
theorem dX4_insert_4 : decode cX4_insert 4 = .ok (.istore_n 3, 1) := by decide +kernel
theorem dX4_insert_5 : decode cX4_insert 5 = .ok (.iload_n 3, 1) := by decide +kernel
theorem dX4_insert_6 : decode cX4_insert 6 = .ok (.ifCond .le 40, 3) := by decide +kernel
theorem dX4_insert_9 : decode cX4_insert 9 = .ok (.aload_n 0, 1) := by decide +kernel
theorem dX4_insert_10 : decode cX4_insert 10 = .ok (.getfield 27, 3) := by decide +kernel
theorem dX4_insert_13 : decode cX4_insert 13 = .ok (.aload_n 0, 1) := by decide +kernel
theorem dX4_insert_14 : decode cX4_insert 14 = .ok (.getfield 24, 3) := by decide +kernel
theorem dX4_insert_17 : decode cX4_insert 17 = .ok (.iload_n 3, 1) := by decide +kernel
theorem dX4_insert_18 : decode cX4_insert 18 = .ok (.iconst 1, 1) := by decide +kernel
theorem dX4_insert_19 : decode cX4_insert 19 = .ok (.isub, 1) := by decide +kernel
theorem dX4_insert_20 : decode cX4_insert 20 = .ok (.iaload, 1) := by decide +kernel
theorem dX4_insert_21 : decode cX4_insert 21 = .ok (.iaload, 1) := by decide +kernel
theorem dX4_insert_22 : decode cX4_insert 22 = .ok (.iload_n 2, 1) := by decide +kernel
theorem dX4_insert_23 : decode cX4_insert 23 = .ok (.if_icmp .le 23, 3) := by decide +kernel
theorem dX4_insert_26 : decode cX4_insert 26 = .ok (.aload_n 0, 1) := by decide +kernel
theorem dX4_insert_27 : decode cX4_insert 27 = .ok (.getfield 24, 3) := by decide +kernel
theorem dX4_insert_30 : decode cX4_insert 30 = .ok (.iload_n 3, 1) := by decide +kernel
theorem dX4_insert_31 : decode cX4_insert 31 = .ok (.aload_n 0, 1) := by decide +kernel
theorem dX4_insert_32 : decode cX4_insert 32 = .ok (.getfield 24, 3) := by decide +kernel
theorem dX4_insert_35 : decode cX4_insert 35 = .ok (.iload_n 3, 1) := by decide +kernel
theorem dX4_insert_36 : decode cX4_insert 36 = .ok (.iconst 1, 1) := by decide +kernel
theorem dX4_insert_37 : decode cX4_insert 37 = .ok (.isub, 1) := by decide +kernel
theorem dX4_insert_38 : decode cX4_insert 38 = .ok (.iaload, 1) := by decide +kernel
theorem dX4_insert_39 : decode cX4_insert 39 = .ok (.iastore, 1) := by decide +kernel
theorem dX4_insert_40 : decode cX4_insert 40 = .ok (.iinc 3 (-1), 3) := by decide +kernel
theorem dX4_insert_43 : decode cX4_insert 43 = .ok (.goto (-38), 3) := by decide +kernel
theorem dX4_insert_46 : decode cX4_insert 46 = .ok (.aload_n 0, 1) := by decide +kernel
theorem dX4_insert_47 : decode cX4_insert 47 = .ok (.getfield 24, 3) := by decide +kernel
theorem dX4_insert_50 : decode cX4_insert 50 = .ok (.iload_n 3, 1) := by decide +kernel
theorem dX4_insert_51 : decode cX4_insert 51 = .ok (.iload_n 1, 1) := by decide +kernel
theorem dX4_insert_52 : decode cX4_insert 52 = .ok (.iastore, 1) := by decide +kernel
theorem dX4_insert_53 : decode cX4_insert 53 = .ok (.aload_n 0, 1) := by decide +kernel
theorem dX4_insert_54 : decode cX4_insert 54 = .ok (.getfield 27, 3) := by decide +kernel
theorem dX4_insert_57 : decode cX4_insert 57 = .ok (.iload_n 1, 1) := by decide +kernel
theorem dX4_insert_58 : decode cX4_insert 58 = .ok (.iload_n 2, 1) := by decide +kernel
theorem dX4_insert_59 : decode cX4_insert 59 = .ok (.iastore, 1) := by decide +kernel
theorem dX4_insert_60 : decode cX4_insert 60 = .ok (.aload_n 0, 1) := by decide +kernel
theorem dX4_insert_61 : decode cX4_insert 61 = .ok (.dup, 1) := by decide +kernel
theorem dX4_insert_62 : decode cX4_insert 62 = .ok (.getfield 43, 3) := by decide +kernel
theorem dX4_insert_65 : decode cX4_insert 65 = .ok (.iconst 1, 1) := by decide +kernel
theorem dX4_insert_66 : decode cX4_insert 66 = .ok (.iadd, 1) := by decide +kernel
theorem dX4_insert_67 : decode cX4_insert 67 = .ok (.putfield 43, 3) := by decide +kernel
theorem dX4_insert_70 : decode cX4_insert 70 = .ok (.return_, 1) := by decide +kernel
theorem dX4_lastDeparture_0 : decode cX4_lastDeparture 0 = .ok (.aload_n 0, 1) := by decide +kernel
theorem dX4_lastDeparture_1 : decode cX4_lastDeparture 1 = .ok (.getfield 43, 3) := by decide +kernel
theorem dX4_lastDeparture_4 : decode cX4_lastDeparture 4 = .ok (.iconst 1, 1) := by decide +kernel
theorem dX4_lastDeparture_5 : decode cX4_lastDeparture 5 = .ok (.isub, 1) := by decide +kernel
theorem dX4_lastDeparture_6 : decode cX4_lastDeparture 6 = .ok (.istore_n 3, 1) := by decide +kernel
theorem dX4_lastDeparture_7 : decode cX4_lastDeparture 7 = .ok (.iload_n 3, 1) := by decide +kernel
theorem dX4_lastDeparture_8 : decode cX4_lastDeparture 8 = .ok (.ifCond .lt 37, 3) := by decide +kernel
theorem dX4_lastDeparture_11 : decode cX4_lastDeparture 11 = .ok (.aload_n 1, 1) := by decide +kernel
theorem dX4_lastDeparture_12 : decode cX4_lastDeparture 12 = .ok (.sipush 240, 3) := by decide +kernel
theorem dX4_lastDeparture_15 : decode cX4_lastDeparture 15 = .ok (.aload_n 0, 1) := by decide +kernel
theorem dX4_lastDeparture_16 : decode cX4_lastDeparture 16 = .ok (.getfield 24, 3) := by decide +kernel
theorem dX4_lastDeparture_19 : decode cX4_lastDeparture 19 = .ok (.iload_n 3, 1) := by decide +kernel
theorem dX4_lastDeparture_20 : decode cX4_lastDeparture 20 = .ok (.iaload, 1) := by decide +kernel
theorem dX4_lastDeparture_21 : decode cX4_lastDeparture 21 = .ok (.iadd, 1) := by decide +kernel
theorem dX4_lastDeparture_22 : decode cX4_lastDeparture 22 = .ok (.iaload, 1) := by decide +kernel
theorem dX4_lastDeparture_23 : decode cX4_lastDeparture 23 = .ok (.iload_n 2, 1) := by decide +kernel
theorem dX4_lastDeparture_24 : decode cX4_lastDeparture 24 = .ok (.if_icmp .gt 15, 3) := by decide +kernel
theorem dX4_lastDeparture_27 : decode cX4_lastDeparture 27 = .ok (.aload_n 0, 1) := by decide +kernel
theorem dX4_lastDeparture_28 : decode cX4_lastDeparture 28 = .ok (.getfield 27, 3) := by decide +kernel
theorem dX4_lastDeparture_31 : decode cX4_lastDeparture 31 = .ok (.aload_n 0, 1) := by decide +kernel
theorem dX4_lastDeparture_32 : decode cX4_lastDeparture 32 = .ok (.getfield 24, 3) := by decide +kernel
theorem dX4_lastDeparture_35 : decode cX4_lastDeparture 35 = .ok (.iload_n 3, 1) := by decide +kernel
theorem dX4_lastDeparture_36 : decode cX4_lastDeparture 36 = .ok (.iaload, 1) := by decide +kernel
theorem dX4_lastDeparture_37 : decode cX4_lastDeparture 37 = .ok (.iaload, 1) := by decide +kernel
theorem dX4_lastDeparture_38 : decode cX4_lastDeparture 38 = .ok (.ireturn, 1) := by decide +kernel
theorem dX4_lastDeparture_39 : decode cX4_lastDeparture 39 = .ok (.iinc 3 (-1), 3) := by decide +kernel
theorem dX4_lastDeparture_42 : decode cX4_lastDeparture 42 = .ok (.goto (-35), 3) := by decide +kernel
theorem dX4_lastDeparture_45 : decode cX4_lastDeparture 45 = .ok (.iconst (-1), 1) := by decide +kernel
theorem dX4_lastDeparture_46 : decode cX4_lastDeparture 46 = .ok (.ireturn, 1) := by decide +kernel
theorem dX4_make_0 : decode cX4_make 0 = .ok (.aload_n 2, 1) := by decide +kernel
theorem dX4_make_1 : decode cX4_make 1 = .ok (.aload_n 1, 1) := by decide +kernel
theorem dX4_make_2 : decode cX4_make 2 = .ok (.iload 4, 2) := by decide +kernel
theorem dX4_make_4 : decode cX4_make 4 = .ok (.invokevirtual 75, 3) := by decide +kernel
theorem dX4_make_7 : decode cX4_make 7 = .ok (.aload_n 0, 1) := by decide +kernel
theorem dX4_make_8 : decode cX4_make 8 = .ok (.aload_n 1, 1) := by decide +kernel
theorem dX4_make_9 : decode cX4_make 9 = .ok (.iload_n 3, 1) := by decide +kernel
theorem dX4_make_10 : decode cX4_make 10 = .ok (.invokevirtual 81, 3) := by decide +kernel
theorem dX4_make_13 : decode cX4_make 13 = .ok (.aload_n 0, 1) := by decide +kernel
theorem dX4_make_14 : decode cX4_make 14 = .ok (.iload 4, 2) := by decide +kernel
theorem dX4_make_16 : decode cX4_make 16 = .ok (.putfield 84, 3) := by decide +kernel
theorem dX4_make_19 : decode cX4_make 19 = .ok (.aload_n 0, 1) := by decide +kernel
theorem dX4_make_20 : decode cX4_make 20 = .ok (.sipush 300, 3) := by decide +kernel
theorem dX4_make_23 : decode cX4_make 23 = .ok (.putfield 39, 3) := by decide +kernel
theorem dX4_make_26 : decode cX4_make 26 = .ok (.iconst 0, 1) := by decide +kernel
theorem dX4_make_27 : decode cX4_make 27 = .ok (.istore 6, 2) := by decide +kernel
theorem dX4_make_29 : decode cX4_make 29 = .ok (.iload 6, 2) := by decide +kernel
theorem dX4_make_31 : decode cX4_make 31 = .ok (.iload 5, 2) := by decide +kernel
theorem dX4_make_33 : decode cX4_make 33 = .ok (.if_icmp .gt 27, 3) := by decide +kernel
theorem dX4_make_36 : decode cX4_make 36 = .ok (.aload_n 0, 1) := by decide +kernel
theorem dX4_make_37 : decode cX4_make 37 = .ok (.getfield 30, 3) := by decide +kernel
theorem dX4_make_40 : decode cX4_make 40 = .ok (.iload 6, 2) := by decide +kernel
theorem dX4_make_42 : decode cX4_make 42 = .ok (.ldc 87, 2) := by decide +kernel
theorem dX4_make_44 : decode cX4_make 44 = .ok (.iastore, 1) := by decide +kernel
theorem dX4_make_45 : decode cX4_make 45 = .ok (.aload_n 0, 1) := by decide +kernel
theorem dX4_make_46 : decode cX4_make 46 = .ok (.getfield 33, 3) := by decide +kernel
theorem dX4_make_49 : decode cX4_make 49 = .ok (.iload 6, 2) := by decide +kernel
theorem dX4_make_51 : decode cX4_make 51 = .ok (.ldc 87, 2) := by decide +kernel
theorem dX4_make_53 : decode cX4_make 53 = .ok (.iastore, 1) := by decide +kernel
theorem dX4_make_54 : decode cX4_make 54 = .ok (.iinc 6 1, 3) := by decide +kernel
theorem dX4_make_57 : decode cX4_make 57 = .ok (.goto (-28), 3) := by decide +kernel
theorem dX4_make_60 : decode cX4_make 60 = .ok (.aload_n 1, 1) := by decide +kernel
theorem dX4_make_61 : decode cX4_make 61 = .ok (.getfield 46, 3) := by decide +kernel
theorem dX4_make_64 : decode cX4_make 64 = .ok (.getfield 60, 3) := by decide +kernel
theorem dX4_make_67 : decode cX4_make 67 = .ok (.iload_n 3, 1) := by decide +kernel
theorem dX4_make_68 : decode cX4_make 68 = .ok (.aaload, 1) := by decide +kernel
theorem dX4_make_69 : decode cX4_make 69 = .ok (.iload 4, 2) := by decide +kernel
theorem dX4_make_71 : decode cX4_make 71 = .ok (.iaload, 1) := by decide +kernel
theorem dX4_make_72 : decode cX4_make 72 = .ok (.istore 6, 2) := by decide +kernel
theorem dX4_make_74 : decode cX4_make 74 = .ok (.aload_n 0, 1) := by decide +kernel
theorem dX4_make_75 : decode cX4_make 75 = .ok (.getfield 43, 3) := by decide +kernel
theorem dX4_make_78 : decode cX4_make 78 = .ok (.iconst 1, 1) := by decide +kernel
theorem dX4_make_79 : decode cX4_make 79 = .ok (.isub, 1) := by decide +kernel
theorem dX4_make_80 : decode cX4_make 80 = .ok (.istore 7, 2) := by decide +kernel
theorem dX4_make_82 : decode cX4_make 82 = .ok (.iload 7, 2) := by decide +kernel
theorem dX4_make_84 : decode cX4_make 84 = .ok (.ifCond .lt 77, 3) := by decide +kernel
theorem dX4_make_87 : decode cX4_make 87 = .ok (.aload_n 0, 1) := by decide +kernel
theorem dX4_make_88 : decode cX4_make 88 = .ok (.getfield 27, 3) := by decide +kernel
theorem dX4_make_91 : decode cX4_make 91 = .ok (.aload_n 0, 1) := by decide +kernel
theorem dX4_make_92 : decode cX4_make 92 = .ok (.getfield 24, 3) := by decide +kernel
theorem dX4_make_95 : decode cX4_make 95 = .ok (.iload 7, 2) := by decide +kernel
theorem dX4_make_97 : decode cX4_make 97 = .ok (.iaload, 1) := by decide +kernel
theorem dX4_make_98 : decode cX4_make 98 = .ok (.iaload, 1) := by decide +kernel
theorem dX4_make_99 : decode cX4_make 99 = .ok (.istore 8, 2) := by decide +kernel
theorem dX4_make_101 : decode cX4_make 101 = .ok (.aload_n 0, 1) := by decide +kernel
theorem dX4_make_102 : decode cX4_make 102 = .ok (.aload_n 0, 1) := by decide +kernel
theorem dX4_make_103 : decode cX4_make 103 = .ok (.getfield 24, 3) := by decide +kernel
theorem dX4_make_106 : decode cX4_make 106 = .ok (.iload 7, 2) := by decide +kernel
theorem dX4_make_108 : decode cX4_make 108 = .ok (.iaload, 1) := by decide +kernel
theorem dX4_make_109 : decode cX4_make 109 = .ok (.aload_n 2, 1) := by decide +kernel
theorem dX4_make_110 : decode cX4_make 110 = .ok (.getfield 88, 3) := by decide +kernel
theorem dX4_make_113 : decode cX4_make 113 = .ok (.iload 4, 2) := by decide +kernel
theorem dX4_make_115 : decode cX4_make 115 = .ok (.aaload, 1) := by decide +kernel
theorem dX4_make_116 : decode cX4_make 116 = .ok (.iload 5, 2) := by decide +kernel
theorem dX4_make_118 : decode cX4_make 118 = .ok (.invokevirtual 91, 3) := by decide +kernel
theorem dX4_make_121 : decode cX4_make 121 = .ok (.iload 7, 2) := by decide +kernel
theorem dX4_make_123 : decode cX4_make 123 = .ok (.ifCond .eq 22, 3) := by decide +kernel
theorem dX4_make_126 : decode cX4_make 126 = .ok (.aload_n 0, 1) := by decide +kernel
theorem dX4_make_127 : decode cX4_make 127 = .ok (.getfield 27, 3) := by decide +kernel
theorem dX4_make_130 : decode cX4_make 130 = .ok (.aload_n 0, 1) := by decide +kernel
theorem dX4_make_131 : decode cX4_make 131 = .ok (.getfield 24, 3) := by decide +kernel
theorem dX4_make_134 : decode cX4_make 134 = .ok (.iload 7, 2) := by decide +kernel
theorem dX4_make_136 : decode cX4_make 136 = .ok (.iconst 1, 1) := by decide +kernel
theorem dX4_make_137 : decode cX4_make 137 = .ok (.isub, 1) := by decide +kernel
theorem dX4_make_138 : decode cX4_make 138 = .ok (.iaload, 1) := by decide +kernel
theorem dX4_make_139 : decode cX4_make 139 = .ok (.iaload, 1) := by decide +kernel
theorem dX4_make_140 : decode cX4_make 140 = .ok (.iload 8, 2) := by decide +kernel
theorem dX4_make_142 : decode cX4_make 142 = .ok (.if_icmp .eq 13, 3) := by decide +kernel
theorem dX4_make_145 : decode cX4_make 145 = .ok (.aload_n 0, 1) := by decide +kernel
theorem dX4_make_146 : decode cX4_make 146 = .ok (.iload 8, 2) := by decide +kernel
theorem dX4_make_148 : decode cX4_make 148 = .ok (.iload 6, 2) := by decide +kernel
theorem dX4_make_150 : decode cX4_make 150 = .ok (.iload 5, 2) := by decide +kernel
theorem dX4_make_152 : decode cX4_make 152 = .ok (.invokevirtual 95, 3) := by decide +kernel
theorem dX4_make_155 : decode cX4_make 155 = .ok (.iinc 7 (-1), 3) := by decide +kernel
theorem dX4_make_158 : decode cX4_make 158 = .ok (.goto (-76), 3) := by decide +kernel
theorem dX4_make_161 : decode cX4_make 161 = .ok (.aload_n 0, 1) := by decide +kernel
theorem dX4_make_162 : decode cX4_make 162 = .ok (.sipush 300, 3) := by decide +kernel
theorem dX4_make_165 : decode cX4_make 165 = .ok (.aload_n 0, 1) := by decide +kernel
theorem dX4_make_166 : decode cX4_make 166 = .ok (.getfield 39, 3) := by decide +kernel
theorem dX4_make_169 : decode cX4_make 169 = .ok (.isub, 1) := by decide +kernel
theorem dX4_make_170 : decode cX4_make 170 = .ok (.putfield 99, 3) := by decide +kernel
theorem dX4_make_173 : decode cX4_make 173 = .ok (.return_, 1) := by decide +kernel
theorem dX4_meanWay_0 : decode cX4_meanWay 0 = .ok (.ldc 87, 2) := by decide +kernel
theorem dX4_meanWay_2 : decode cX4_meanWay 2 = .ok (.istore 5, 2) := by decide +kernel
theorem dX4_meanWay_4 : decode cX4_meanWay 4 = .ok (.aload_n 0, 1) := by decide +kernel
theorem dX4_meanWay_5 : decode cX4_meanWay 5 = .ok (.getfield 43, 3) := by decide +kernel
theorem dX4_meanWay_8 : decode cX4_meanWay 8 = .ok (.iconst 1, 1) := by decide +kernel
theorem dX4_meanWay_9 : decode cX4_meanWay 9 = .ok (.isub, 1) := by decide +kernel
theorem dX4_meanWay_10 : decode cX4_meanWay 10 = .ok (.istore 6, 2) := by decide +kernel
theorem dX4_meanWay_12 : decode cX4_meanWay 12 = .ok (.iconst 0, 1) := by decide +kernel
theorem dX4_meanWay_13 : decode cX4_meanWay 13 = .ok (.istore 7, 2) := by decide +kernel
theorem dX4_meanWay_15 : decode cX4_meanWay 15 = .ok (.iconst 0, 1) := by decide +kernel
theorem dX4_meanWay_16 : decode cX4_meanWay 16 = .ok (.istore 8, 2) := by decide +kernel
theorem dX4_meanWay_18 : decode cX4_meanWay 18 = .ok (.iload 4, 2) := by decide +kernel
theorem dX4_meanWay_20 : decode cX4_meanWay 20 = .ok (.iconst 1, 1) := by decide +kernel
theorem dX4_meanWay_21 : decode cX4_meanWay 21 = .ok (.isub, 1) := by decide +kernel
theorem dX4_meanWay_22 : decode cX4_meanWay 22 = .ok (.istore 9, 2) := by decide +kernel
theorem dX4_meanWay_24 : decode cX4_meanWay 24 = .ok (.iload 9, 2) := by decide +kernel
theorem dX4_meanWay_26 : decode cX4_meanWay 26 = .ok (.iload_n 3, 1) := by decide +kernel
theorem dX4_meanWay_27 : decode cX4_meanWay 27 = .ok (.if_icmp .lt 88, 3) := by decide +kernel
theorem dX4_meanWay_30 : decode cX4_meanWay 30 = .ok (.iload 6, 2) := by decide +kernel
theorem dX4_meanWay_32 : decode cX4_meanWay 32 = .ok (.ifCond .lt 46, 3) := by decide +kernel
theorem dX4_meanWay_35 : decode cX4_meanWay 35 = .ok (.aload_n 0, 1) := by decide +kernel
theorem dX4_meanWay_36 : decode cX4_meanWay 36 = .ok (.getfield 27, 3) := by decide +kernel
theorem dX4_meanWay_39 : decode cX4_meanWay 39 = .ok (.aload_n 0, 1) := by decide +kernel
theorem dX4_meanWay_40 : decode cX4_meanWay 40 = .ok (.getfield 24, 3) := by decide +kernel
theorem dX4_meanWay_43 : decode cX4_meanWay 43 = .ok (.iload 6, 2) := by decide +kernel
theorem dX4_meanWay_45 : decode cX4_meanWay 45 = .ok (.iaload, 1) := by decide +kernel
theorem dX4_meanWay_46 : decode cX4_meanWay 46 = .ok (.iaload, 1) := by decide +kernel
theorem dX4_meanWay_47 : decode cX4_meanWay 47 = .ok (.iload 9, 2) := by decide +kernel
theorem dX4_meanWay_49 : decode cX4_meanWay 49 = .ok (.if_icmp .lt 29, 3) := by decide +kernel
theorem dX4_meanWay_52 : decode cX4_meanWay 52 = .ok (.iload 5, 2) := by decide +kernel
theorem dX4_meanWay_54 : decode cX4_meanWay 54 = .ok (.aload_n 1, 1) := by decide +kernel
theorem dX4_meanWay_55 : decode cX4_meanWay 55 = .ok (.sipush 240, 3) := by decide +kernel
theorem dX4_meanWay_58 : decode cX4_meanWay 58 = .ok (.aload_n 0, 1) := by decide +kernel
theorem dX4_meanWay_59 : decode cX4_meanWay 59 = .ok (.getfield 24, 3) := by decide +kernel
theorem dX4_meanWay_62 : decode cX4_meanWay 62 = .ok (.iload 6, 2) := by decide +kernel
theorem dX4_meanWay_64 : decode cX4_meanWay 64 = .ok (.iaload, 1) := by decide +kernel
theorem dX4_meanWay_65 : decode cX4_meanWay 65 = .ok (.iadd, 1) := by decide +kernel
theorem dX4_meanWay_66 : decode cX4_meanWay 66 = .ok (.iaload, 1) := by decide +kernel
theorem dX4_meanWay_67 : decode cX4_meanWay 67 = .ok (.invokestatic 102, 3) := by decide +kernel
theorem dX4_meanWay_70 : decode cX4_meanWay 70 = .ok (.istore 5, 2) := by decide +kernel
theorem dX4_meanWay_72 : decode cX4_meanWay 72 = .ok (.iinc 6 (-1), 3) := by decide +kernel
theorem dX4_meanWay_75 : decode cX4_meanWay 75 = .ok (.goto (-45), 3) := by decide +kernel
