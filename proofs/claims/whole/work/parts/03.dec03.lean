theorem dX8_missed_34 : decode cX8_missed 34 = .ok (.iload_n 3, 1) := by decide +kernel
theorem dX8_missed_35 : decode cX8_missed 35 = .ok (.iconst 4, 1) := by decide +kernel
theorem dX8_missed_36 : decode cX8_missed 36 = .ok (.lconst 0, 1) := by decide +kernel
theorem dX8_missed_37 : decode cX8_missed 37 = .ok (.invokevirtual 310, 3) := by decide +kernel
theorem dX8_missed_40 : decode cX8_missed 40 = .ok (.ldc_w 286, 3) := by decide +kernel
theorem dX8_missed_43 : decode cX8_missed 43 = .ok (.if_icmp .lt 6, 3) := by decide +kernel
theorem dX8_missed_46 : decode cX8_missed 46 = .ok (.bipush (-2), 2) := by decide +kernel
theorem dX8_missed_48 : decode cX8_missed 48 = .ok (.ireturn, 1) := by decide +kernel
theorem dX8_missed_49 : decode cX8_missed 49 = .ok (.bipush (-2), 2) := by decide +kernel
theorem dX8_missed_51 : decode cX8_missed 51 = .ok (.istore 5, 2) := by decide +kernel
theorem dX8_missed_53 : decode cX8_missed 53 = .ok (.iconst (-1), 1) := by decide +kernel
theorem dX8_missed_54 : decode cX8_missed 54 = .ok (.istore 6, 2) := by decide +kernel
theorem dX8_missed_56 : decode cX8_missed 56 = .ok (.iconst 0, 1) := by decide +kernel
theorem dX8_missed_57 : decode cX8_missed 57 = .ok (.istore 7, 2) := by decide +kernel
theorem dX8_missed_59 : decode cX8_missed 59 = .ok (.iload 7, 2) := by decide +kernel
theorem dX8_missed_61 : decode cX8_missed 61 = .ok (.aload_n 0, 1) := by decide +kernel
theorem dX8_missed_62 : decode cX8_missed 62 = .ok (.getfield 65, 3) := by decide +kernel
theorem dX8_missed_65 : decode cX8_missed 65 = .ok (.getfield 356, 3) := by decide +kernel
theorem dX8_missed_68 : decode cX8_missed 68 = .ok (.if_icmp .ge 72, 3) := by decide +kernel
theorem dX8_missed_71 : decode cX8_missed 71 = .ok (.aload_n 0, 1) := by decide +kernel
theorem dX8_missed_72 : decode cX8_missed 72 = .ok (.getfield 65, 3) := by decide +kernel
theorem dX8_missed_75 : decode cX8_missed 75 = .ok (.iload 7, 2) := by decide +kernel
theorem dX8_missed_77 : decode cX8_missed 77 = .ok (.invokevirtual 346, 3) := by decide +kernel
theorem dX8_missed_80 : decode cX8_missed 80 = .ok (.lstore 8, 2) := by decide +kernel
theorem dX8_missed_82 : decode cX8_missed 82 = .ok (.lload 8, 2) := by decide +kernel
theorem dX8_missed_84 : decode cX8_missed 84 = .ok (.aload_n 0, 1) := by decide +kernel
theorem dX8_missed_85 : decode cX8_missed 85 = .ok (.getfield 81, 3) := by decide +kernel
theorem dX8_missed_88 : decode cX8_missed 88 = .ok (.getfield 213, 3) := by decide +kernel
theorem dX8_missed_91 : decode cX8_missed 91 = .ok (.ldc2_w 217, 3) := by decide +kernel
theorem dX8_missed_94 : decode cX8_missed 94 = .ok (.lxor, 1) := by decide +kernel
theorem dX8_missed_95 : decode cX8_missed 95 = .ok (.land, 1) := by decide +kernel
theorem dX8_missed_96 : decode cX8_missed 96 = .ok (.lconst 0, 1) := by decide +kernel
theorem dX8_missed_97 : decode cX8_missed 97 = .ok (.lcmp, 1) := by decide +kernel
theorem dX8_missed_98 : decode cX8_missed 98 = .ok (.ifCond .ne 6, 3) := by decide +kernel
theorem dX8_missed_101 : decode cX8_missed 101 = .ok (.goto 33, 3) := by decide +kernel
theorem dX8_missed_104 : decode cX8_missed 104 = .ok (.aload_n 0, 1) := by decide +kernel
theorem dX8_missed_105 : decode cX8_missed 105 = .ok (.getfield 81, 3) := by decide +kernel
theorem dX8_missed_108 : decode cX8_missed 108 = .ok (.iload_n 1, 1) := by decide +kernel
theorem dX8_missed_109 : decode cX8_missed 109 = .ok (.iload_n 2, 1) := by decide +kernel
theorem dX8_missed_110 : decode cX8_missed 110 = .ok (.iload_n 3, 1) := by decide +kernel
theorem dX8_missed_111 : decode cX8_missed 111 = .ok (.iconst 4, 1) := by decide +kernel
theorem dX8_missed_112 : decode cX8_missed 112 = .ok (.lload 8, 2) := by decide +kernel
theorem dX8_missed_114 : decode cX8_missed 114 = .ok (.invokevirtual 310, 3) := by decide +kernel
theorem dX8_missed_117 : decode cX8_missed 117 = .ok (.istore 10, 2) := by decide +kernel
theorem dX8_missed_119 : decode cX8_missed 119 = .ok (.iload 10, 2) := by decide +kernel
theorem dX8_missed_121 : decode cX8_missed 121 = .ok (.iload 6, 2) := by decide +kernel
theorem dX8_missed_123 : decode cX8_missed 123 = .ok (.if_icmp .le 11, 3) := by decide +kernel
theorem dX8_missed_126 : decode cX8_missed 126 = .ok (.iload 7, 2) := by decide +kernel
theorem dX8_missed_128 : decode cX8_missed 128 = .ok (.istore 5, 2) := by decide +kernel
theorem dX8_missed_130 : decode cX8_missed 130 = .ok (.iload 10, 2) := by decide +kernel
theorem dX8_missed_132 : decode cX8_missed 132 = .ok (.istore 6, 2) := by decide +kernel
theorem dX8_missed_134 : decode cX8_missed 134 = .ok (.iinc 7 1, 3) := by decide +kernel
theorem dX8_missed_137 : decode cX8_missed 137 = .ok (.goto (-78), 3) := by decide +kernel
theorem dX8_missed_140 : decode cX8_missed 140 = .ok (.iload 5, 2) := by decide +kernel
theorem dX8_missed_142 : decode cX8_missed 142 = .ok (.ifCond .lt 8, 3) := by decide +kernel
theorem dX8_missed_145 : decode cX8_missed 145 = .ok (.iload 4, 2) := by decide +kernel
theorem dX8_missed_147 : decode cX8_missed 147 = .ok (.ifCond .ne 6, 3) := by decide +kernel
theorem dX8_missed_150 : decode cX8_missed 150 = .ok (.iload 5, 2) := by decide +kernel
theorem dX8_missed_152 : decode cX8_missed 152 = .ok (.ireturn, 1) := by decide +kernel
theorem dX8_missed_153 : decode cX8_missed 153 = .ok (.iload 6, 2) := by decide +kernel
theorem dX8_missed_155 : decode cX8_missed 155 = .ok (.ldc_w 286, 3) := by decide +kernel
theorem dX8_missed_158 : decode cX8_missed 158 = .ok (.if_icmp .lt 8, 3) := by decide +kernel
theorem dX8_missed_161 : decode cX8_missed 161 = .ok (.bipush (-3), 2) := by decide +kernel
theorem dX8_missed_163 : decode cX8_missed 163 = .ok (.goto 5, 3) := by decide +kernel
theorem dX8_missed_166 : decode cX8_missed 166 = .ok (.iload 6, 2) := by decide +kernel
theorem dX8_missed_168 : decode cX8_missed 168 = .ok (.ireturn, 1) := by decide +kernel
theorem dX8_next_0 : decode cX8_next 0 = .ok (.aload_n 0, 1) := by decide +kernel
theorem dX8_next_1 : decode cX8_next 1 = .ok (.iload_n 1, 1) := by decide +kernel
theorem dX8_next_2 : decode cX8_next 2 = .ok (.iload_n 2, 1) := by decide +kernel
theorem dX8_next_3 : decode cX8_next 3 = .ok (.invokevirtual 238, 3) := by decide +kernel
theorem dX8_next_6 : decode cX8_next 6 = .ok (.ifCond .eq 10, 3) := by decide +kernel
theorem dX8_next_9 : decode cX8_next 9 = .ok (.iload_n 3, 1) := by decide +kernel
theorem dX8_next_10 : decode cX8_next 10 = .ok (.invokestatic 307, 3) := by decide +kernel
theorem dX8_next_13 : decode cX8_next 13 = .ok (.ifCond .ne 5, 3) := by decide +kernel
theorem dX8_next_16 : decode cX8_next 16 = .ok (.iconst (-1), 1) := by decide +kernel
theorem dX8_next_17 : decode cX8_next 17 = .ok (.ireturn, 1) := by decide +kernel
theorem dX8_next_18 : decode cX8_next 18 = .ok (.aload_n 0, 1) := by decide +kernel
theorem dX8_next_19 : decode cX8_next 19 = .ok (.getfield 81, 3) := by decide +kernel
theorem dX8_next_22 : decode cX8_next 22 = .ok (.iload_n 1, 1) := by decide +kernel
theorem dX8_next_23 : decode cX8_next 23 = .ok (.iload_n 2, 1) := by decide +kernel
theorem dX8_next_24 : decode cX8_next 24 = .ok (.iload_n 3, 1) := by decide +kernel
theorem dX8_next_25 : decode cX8_next 25 = .ok (.iconst 4, 1) := by decide +kernel
theorem dX8_next_26 : decode cX8_next 26 = .ok (.lconst 0, 1) := by decide +kernel
theorem dX8_next_27 : decode cX8_next 27 = .ok (.invokevirtual 310, 3) := by decide +kernel
theorem dX8_next_30 : decode cX8_next 30 = .ok (.istore 4, 2) := by decide +kernel
theorem dX8_next_32 : decode cX8_next 32 = .ok (.iload 4, 2) := by decide +kernel
theorem dX8_next_34 : decode cX8_next 34 = .ok (.ldc_w 286, 3) := by decide +kernel
theorem dX8_next_37 : decode cX8_next 37 = .ok (.if_icmp .lt 6, 3) := by decide +kernel
theorem dX8_next_40 : decode cX8_next 40 = .ok (.bipush (-2), 2) := by decide +kernel
theorem dX8_next_42 : decode cX8_next 42 = .ok (.ireturn, 1) := by decide +kernel
theorem dX8_next_43 : decode cX8_next 43 = .ok (.aload_n 0, 1) := by decide +kernel
theorem dX8_next_44 : decode cX8_next 44 = .ok (.getfield 30, 3) := by decide +kernel
theorem dX8_next_47 : decode cX8_next 47 = .ok (.aload_n 0, 1) := by decide +kernel
theorem dX8_next_48 : decode cX8_next 48 = .ok (.getfield 81, 3) := by decide +kernel
theorem dX8_next_51 : decode cX8_next 51 = .ok (.iload_n 2, 1) := by decide +kernel
theorem dX8_next_52 : decode cX8_next 52 = .ok (.invokevirtual 317, 3) := by decide +kernel
theorem dX8_next_55 : decode cX8_next 55 = .ok (.aload_n 0, 1) := by decide +kernel
theorem dX8_next_56 : decode cX8_next 56 = .ok (.getfield 37, 3) := by decide +kernel
theorem dX8_next_59 : decode cX8_next 59 = .ok (.aload_n 0, 1) := by decide +kernel
theorem dX8_next_60 : decode cX8_next 60 = .ok (.getfield 81, 3) := by decide +kernel
theorem dX8_next_63 : decode cX8_next 63 = .ok (.iload_n 1, 1) := by decide +kernel
theorem dX8_next_64 : decode cX8_next 64 = .ok (.invokevirtual 321, 3) := by decide +kernel
theorem dX8_next_67 : decode cX8_next 67 = .ok (.aload_n 0, 1) := by decide +kernel
theorem dX8_next_68 : decode cX8_next 68 = .ok (.getfield 37, 3) := by decide +kernel
theorem dX8_next_71 : decode cX8_next 71 = .ok (.aload_n 0, 1) := by decide +kernel
theorem dX8_next_72 : decode cX8_next 72 = .ok (.getfield 30, 3) := by decide +kernel
theorem dX8_next_75 : decode cX8_next 75 = .ok (.getfield 324, 3) := by decide +kernel
theorem dX8_next_78 : decode cX8_next 78 = .ok (.iload_n 2, 1) := by decide +kernel
theorem dX8_next_79 : decode cX8_next 79 = .ok (.aaload, 1) := by decide +kernel
theorem dX8_next_80 : decode cX8_next 80 = .ok (.iload 4, 2) := by decide +kernel
theorem dX8_next_82 : decode cX8_next 82 = .ok (.invokevirtual 327, 3) := by decide +kernel
theorem dX8_next_85 : decode cX8_next 85 = .ok (.istore 5, 2) := by decide +kernel
theorem dX8_next_87 : decode cX8_next 87 = .ok (.iload 5, 2) := by decide +kernel
theorem dX8_next_89 : decode cX8_next 89 = .ok (.iload_n 3, 1) := by decide +kernel
theorem dX8_next_90 : decode cX8_next 90 = .ok (.if_icmp .ge 6, 3) := by decide +kernel
theorem dX8_next_93 : decode cX8_next 93 = .ok (.bipush (-2), 2) := by decide +kernel
theorem dX8_next_95 : decode cX8_next 95 = .ok (.ireturn, 1) := by decide +kernel
theorem dX8_next_96 : decode cX8_next 96 = .ok (.aload_n 0, 1) := by decide +kernel
theorem dX8_next_97 : decode cX8_next 97 = .ok (.getfield 37, 3) := by decide +kernel
theorem dX8_next_100 : decode cX8_next 100 = .ok (.aload_n 0, 1) := by decide +kernel
theorem dX8_next_101 : decode cX8_next 101 = .ok (.getfield 30, 3) := by decide +kernel
theorem dX8_next_104 : decode cX8_next 104 = .ok (.getfield 324, 3) := by decide +kernel
theorem dX8_next_107 : decode cX8_next 107 = .ok (.iload_n 2, 1) := by decide +kernel
theorem dX8_next_108 : decode cX8_next 108 = .ok (.aaload, 1) := by decide +kernel
theorem dX8_next_109 : decode cX8_next 109 = .ok (.iload 5, 2) := by decide +kernel
theorem dX8_next_111 : decode cX8_next 111 = .ok (.invokevirtual 343, 3) := by decide +kernel
theorem dX8_next_114 : decode cX8_next 114 = .ok (.invokestatic 168, 3) := by decide +kernel
theorem dX8_next_117 : decode cX8_next 117 = .ok (.ireturn, 1) := by decide +kernel
theorem dX8_orMissing_0 : decode cX8_orMissing 0 = .ok (.iload_n 0, 1) := by decide +kernel
theorem dX8_orMissing_1 : decode cX8_orMissing 1 = .ok (.ldc_w 286, 3) := by decide +kernel
theorem dX8_orMissing_4 : decode cX8_orMissing 4 = .ok (.if_icmp .lt 8, 3) := by decide +kernel
theorem dX8_orMissing_7 : decode cX8_orMissing 7 = .ok (.bipush (-2), 2) := by decide +kernel
theorem dX8_orMissing_9 : decode cX8_orMissing 9 = .ok (.goto 4, 3) := by decide +kernel
theorem dX8_orMissing_12 : decode cX8_orMissing 12 = .ok (.iload_n 0, 1) := by decide +kernel
theorem dX8_orMissing_13 : decode cX8_orMissing 13 = .ok (.ireturn, 1) := by decide +kernel
theorem dX8_plan_0 : decode cX8_plan 0 = .ok (.aload_n 0, 1) := by decide +kernel
theorem dX8_plan_1 : decode cX8_plan 1 = .ok (.iload_n 1, 1) := by decide +kernel
theorem dX8_plan_2 : decode cX8_plan 2 = .ok (.invokevirtual 118, 3) := by decide +kernel
theorem dX8_plan_5 : decode cX8_plan 5 = .ok (.ifCond .eq 11, 3) := by decide +kernel
theorem dX8_plan_8 : decode cX8_plan 8 = .ok (.aload_n 0, 1) := by decide +kernel
theorem dX8_plan_9 : decode cX8_plan 9 = .ok (.iload_n 2, 1) := by decide +kernel
theorem dX8_plan_10 : decode cX8_plan 10 = .ok (.invokevirtual 118, 3) := by decide +kernel
theorem dX8_plan_13 : decode cX8_plan 13 = .ok (.ifCond .ne 5, 3) := by decide +kernel
theorem dX8_plan_16 : decode cX8_plan 16 = .ok (.iconst (-1), 1) := by decide +kernel
theorem dX8_plan_17 : decode cX8_plan 17 = .ok (.ireturn, 1) := by decide +kernel
theorem dX8_plan_18 : decode cX8_plan 18 = .ok (.aload_n 0, 1) := by decide +kernel
theorem dX8_plan_19 : decode cX8_plan 19 = .ok (.getfield 65, 3) := by decide +kernel
theorem dX8_plan_22 : decode cX8_plan 22 = .ok (.getfield 129, 3) := by decide +kernel
theorem dX8_plan_25 : decode cX8_plan 25 = .ok (.iload_n 1, 1) := by decide +kernel
theorem dX8_plan_26 : decode cX8_plan 26 = .ok (.iaload, 1) := by decide +kernel
theorem dX8_plan_27 : decode cX8_plan 27 = .ok (.aload_n 0, 1) := by decide +kernel
theorem dX8_plan_28 : decode cX8_plan 28 = .ok (.getfield 65, 3) := by decide +kernel
theorem dX8_plan_31 : decode cX8_plan 31 = .ok (.getfield 129, 3) := by decide +kernel
theorem dX8_plan_34 : decode cX8_plan 34 = .ok (.iload_n 2, 1) := by decide +kernel
theorem dX8_plan_35 : decode cX8_plan 35 = .ok (.iaload, 1) := by decide +kernel
theorem dX8_plan_36 : decode cX8_plan 36 = .ok (.if_icmp .ne 8, 3) := by decide +kernel
theorem dX8_plan_39 : decode cX8_plan 39 = .ok (.iload_n 2, 1) := by decide +kernel
theorem dX8_plan_40 : decode cX8_plan 40 = .ok (.iload_n 1, 1) := by decide +kernel
theorem dX8_plan_41 : decode cX8_plan 41 = .ok (.if_icmp .ge 6, 3) := by decide +kernel
theorem dX8_plan_44 : decode cX8_plan 44 = .ok (.bipush (-2), 2) := by decide +kernel
theorem dX8_plan_46 : decode cX8_plan 46 = .ok (.ireturn, 1) := by decide +kernel
theorem dX8_plan_47 : decode cX8_plan 47 = .ok (.aload_n 0, 1) := by decide +kernel
theorem dX8_plan_48 : decode cX8_plan 48 = .ok (.getfield 48, 3) := by decide +kernel
theorem dX8_plan_51 : decode cX8_plan 51 = .ok (.getfield 258, 3) := by decide +kernel
theorem dX8_plan_54 : decode cX8_plan 54 = .ok (.bipush 6, 2) := by decide +kernel
theorem dX8_plan_56 : decode cX8_plan 56 = .ok (.if_icmp .lt 6, 3) := by decide +kernel
theorem dX8_plan_59 : decode cX8_plan 59 = .ok (.bipush (-3), 2) := by decide +kernel
theorem dX8_plan_61 : decode cX8_plan 61 = .ok (.ireturn, 1) := by decide +kernel
theorem dX8_plan_62 : decode cX8_plan 62 = .ok (.aload_n 0, 1) := by decide +kernel
theorem dX8_plan_63 : decode cX8_plan 63 = .ok (.getfield 48, 3) := by decide +kernel
theorem dX8_plan_66 : decode cX8_plan 66 = .ok (.iload_n 1, 1) := by decide +kernel
theorem dX8_plan_67 : decode cX8_plan 67 = .ok (.iload_n 2, 1) := by decide +kernel
theorem dX8_plan_68 : decode cX8_plan 68 = .ok (.invokevirtual 371, 3) := by decide +kernel
theorem dX8_plan_71 : decode cX8_plan 71 = .ok (.aload_n 0, 1) := by decide +kernel
theorem dX8_plan_72 : decode cX8_plan 72 = .ok (.getfield 48, 3) := by decide +kernel
theorem dX8_plan_75 : decode cX8_plan 75 = .ok (.getfield 258, 3) := by decide +kernel
theorem dX8_plan_78 : decode cX8_plan 78 = .ok (.ireturn, 1) := by decide +kernel
theorem dX8_planAnew_0 : decode cX8_planAnew 0 = .ok (.aload_n 0, 1) := by decide +kernel
theorem dX8_planAnew_1 : decode cX8_planAnew 1 = .ok (.getfield 48, 3) := by decide +kernel
theorem dX8_planAnew_4 : decode cX8_planAnew 4 = .ok (.getfield 258, 3) := by decide +kernel
theorem dX8_planAnew_7 : decode cX8_planAnew 7 = .ok (.istore_n 1, 1) := by decide +kernel
theorem dX8_planAnew_8 : decode cX8_planAnew 8 = .ok (.aload_n 0, 1) := by decide +kernel
theorem dX8_planAnew_9 : decode cX8_planAnew 9 = .ok (.getfield 48, 3) := by decide +kernel
theorem dX8_planAnew_12 : decode cX8_planAnew 12 = .ok (.invokevirtual 105, 3) := by decide +kernel
theorem dX8_planAnew_15 : decode cX8_planAnew 15 = .ok (.iload_n 1, 1) := by decide +kernel
theorem dX8_planAnew_16 : decode cX8_planAnew 16 = .ok (.ireturn, 1) := by decide +kernel
theorem dX8_planAs_0 : decode cX8_planAs 0 = .ok (.aload_n 0, 1) := by decide +kernel
theorem dX8_planAs_1 : decode cX8_planAs 1 = .ok (.iload_n 1, 1) := by decide +kernel
theorem dX8_planAs_2 : decode cX8_planAs 2 = .ok (.iload_n 2, 1) := by decide +kernel
theorem dX8_planAs_3 : decode cX8_planAs 3 = .ok (.invokevirtual 238, 3) := by decide +kernel
theorem dX8_planAs_6 : decode cX8_planAs 6 = .ok (.ifCond .eq 7, 3) := by decide +kernel
theorem dX8_planAs_9 : decode cX8_planAs 9 = .ok (.iload_n 3, 1) := by decide +kernel
theorem dX8_planAs_10 : decode cX8_planAs 10 = .ok (.ifCond .ge 5, 3) := by decide +kernel
theorem dX8_planAs_13 : decode cX8_planAs 13 = .ok (.iconst (-1), 1) := by decide +kernel
theorem dX8_planAs_14 : decode cX8_planAs 14 = .ok (.ireturn, 1) := by decide +kernel
theorem dX8_planAs_15 : decode cX8_planAs 15 = .ok (.aload_n 0, 1) := by decide +kernel
theorem dX8_planAs_16 : decode cX8_planAs 16 = .ok (.iload_n 1, 1) := by decide +kernel
theorem dX8_planAs_17 : decode cX8_planAs 17 = .ok (.iload_n 2, 1) := by decide +kernel
theorem dX8_planAs_18 : decode cX8_planAs 18 = .ok (.iload_n 3, 1) := by decide +kernel
theorem dX8_planAs_19 : decode cX8_planAs 19 = .ok (.invokevirtual 255, 3) := by decide +kernel
theorem dX8_planAs_22 : decode cX8_planAs 22 = .ok (.ifCond .ne 6, 3) := by decide +kernel
theorem dX8_planAs_25 : decode cX8_planAs 25 = .ok (.bipush (-2), 2) := by decide +kernel
theorem dX8_planAs_27 : decode cX8_planAs 27 = .ok (.ireturn, 1) := by decide +kernel
theorem dX8_planAs_28 : decode cX8_planAs 28 = .ok (.aload_n 0, 1) := by decide +kernel
theorem dX8_planAs_29 : decode cX8_planAs 29 = .ok (.getfield 48, 3) := by decide +kernel
theorem dX8_planAs_32 : decode cX8_planAs 32 = .ok (.aload_n 0, 1) := by decide +kernel
theorem dX8_planAs_33 : decode cX8_planAs 33 = .ok (.getfield 44, 3) := by decide +kernel
theorem dX8_planAs_36 : decode cX8_planAs 36 = .ok (.invokevirtual 374, 3) := by decide +kernel
theorem dX8_planAs_39 : decode cX8_planAs 39 = .ok (.aload_n 0, 1) := by decide +kernel
theorem dX8_planAs_40 : decode cX8_planAs 40 = .ok (.getfield 48, 3) := by decide +kernel
theorem dX8_planAs_43 : decode cX8_planAs 43 = .ok (.getfield 258, 3) := by decide +kernel
theorem dX8_planAs_46 : decode cX8_planAs 46 = .ok (.ireturn, 1) := by decide +kernel
theorem dX8_profile_0 : decode cX8_profile 0 = .ok (.aload_n 0, 1) := by decide +kernel
theorem dX8_profile_1 : decode cX8_profile 1 = .ok (.iload_n 1, 1) := by decide +kernel
theorem dX8_profile_2 : decode cX8_profile 2 = .ok (.iload_n 2, 1) := by decide +kernel
theorem dX8_profile_3 : decode cX8_profile 3 = .ok (.iconst 4, 1) := by decide +kernel
theorem dX8_profile_4 : decode cX8_profile 4 = .ok (.invokevirtual 230, 3) := by decide +kernel
theorem dX8_profile_7 : decode cX8_profile 7 = .ok (.ireturn, 1) := by decide +kernel
theorem dX8_profileBy_0 : decode cX8_profileBy 0 = .ok (.aload_n 0, 1) := by decide +kernel
theorem dX8_profileBy_1 : decode cX8_profileBy 1 = .ok (.iload_n 1, 1) := by decide +kernel
theorem dX8_profileBy_2 : decode cX8_profileBy 2 = .ok (.iload_n 2, 1) := by decide +kernel
theorem dX8_profileBy_3 : decode cX8_profileBy 3 = .ok (.invokevirtual 238, 3) := by decide +kernel
theorem dX8_profileBy_6 : decode cX8_profileBy 6 = .ok (.ifCond .eq 12, 3) := by decide +kernel
theorem dX8_profileBy_9 : decode cX8_profileBy 9 = .ok (.iload_n 3, 1) := by decide +kernel
theorem dX8_profileBy_10 : decode cX8_profileBy 10 = .ok (.iconst 0, 1) := by decide +kernel
theorem dX8_profileBy_11 : decode cX8_profileBy 11 = .ok (.iconst 4, 1) := by decide +kernel
theorem dX8_profileBy_12 : decode cX8_profileBy 12 = .ok (.invokestatic 179, 3) := by decide +kernel
theorem dX8_profileBy_15 : decode cX8_profileBy 15 = .ok (.ifCond .ne 5, 3) := by decide +kernel
theorem dX8_profileBy_18 : decode cX8_profileBy 18 = .ok (.iconst (-1), 1) := by decide +kernel
theorem dX8_profileBy_19 : decode cX8_profileBy 19 = .ok (.ireturn, 1) := by decide +kernel
theorem dX8_profileBy_20 : decode cX8_profileBy 20 = .ok (.aload_n 0, 1) := by decide +kernel
theorem dX8_profileBy_21 : decode cX8_profileBy 21 = .ok (.getfield 37, 3) := by decide +kernel
theorem dX8_profileBy_24 : decode cX8_profileBy 24 = .ok (.aload_n 0, 1) := by decide +kernel
theorem dX8_profileBy_25 : decode cX8_profileBy 25 = .ok (.getfield 81, 3) := by decide +kernel
theorem dX8_profileBy_28 : decode cX8_profileBy 28 = .ok (.aload_n 0, 1) := by decide +kernel
theorem dX8_profileBy_29 : decode cX8_profileBy 29 = .ok (.getfield 30, 3) := by decide +kernel
theorem dX8_profileBy_32 : decode cX8_profileBy 32 = .ok (.iload_n 1, 1) := by decide +kernel
theorem dX8_profileBy_33 : decode cX8_profileBy 33 = .ok (.iload_n 2, 1) := by decide +kernel
theorem dX8_profileBy_34 : decode cX8_profileBy 34 = .ok (.iload_n 3, 1) := by decide +kernel
theorem dX8_profileBy_35 : decode cX8_profileBy 35 = .ok (.invokevirtual 241, 3) := by decide +kernel
theorem dX8_profileBy_38 : decode cX8_profileBy 38 = .ok (.aload_n 0, 1) := by decide +kernel
theorem dX8_profileBy_39 : decode cX8_profileBy 39 = .ok (.getfield 37, 3) := by decide +kernel
theorem dX8_profileBy_42 : decode cX8_profileBy 42 = .ok (.getfield 245, 3) := by decide +kernel
theorem dX8_profileBy_45 : decode cX8_profileBy 45 = .ok (.ireturn, 1) := by decide +kernel
theorem dX8_quickest_0 : decode cX8_quickest 0 = .ok (.aload_n 0, 1) := by decide +kernel
theorem dX8_quickest_1 : decode cX8_quickest 1 = .ok (.iload_n 1, 1) := by decide +kernel
theorem dX8_quickest_2 : decode cX8_quickest 2 = .ok (.iload_n 2, 1) := by decide +kernel
theorem dX8_quickest_3 : decode cX8_quickest 3 = .ok (.invokevirtual 238, 3) := by decide +kernel
theorem dX8_quickest_6 : decode cX8_quickest 6 = .ok (.ifCond .eq 12, 3) := by decide +kernel
theorem dX8_quickest_9 : decode cX8_quickest 9 = .ok (.iload_n 3, 1) := by decide +kernel
theorem dX8_quickest_10 : decode cX8_quickest 10 = .ok (.iconst 0, 1) := by decide +kernel
theorem dX8_quickest_11 : decode cX8_quickest 11 = .ok (.iconst 1, 1) := by decide +kernel
theorem dX8_quickest_12 : decode cX8_quickest 12 = .ok (.invokestatic 179, 3) := by decide +kernel
theorem dX8_quickest_15 : decode cX8_quickest 15 = .ok (.ifCond .ne 5, 3) := by decide +kernel
theorem dX8_quickest_18 : decode cX8_quickest 18 = .ok (.iconst (-1), 1) := by decide +kernel
theorem dX8_quickest_19 : decode cX8_quickest 19 = .ok (.ireturn, 1) := by decide +kernel
theorem dX8_quickest_20 : decode cX8_quickest 20 = .ok (.aload_n 0, 1) := by decide +kernel
theorem dX8_quickest_21 : decode cX8_quickest 21 = .ok (.getfield 37, 3) := by decide +kernel
theorem dX8_quickest_24 : decode cX8_quickest 24 = .ok (.aload_n 0, 1) := by decide +kernel
theorem dX8_quickest_25 : decode cX8_quickest 25 = .ok (.getfield 81, 3) := by decide +kernel
theorem dX8_quickest_28 : decode cX8_quickest 28 = .ok (.aload_n 0, 1) := by decide +kernel
theorem dX8_quickest_29 : decode cX8_quickest 29 = .ok (.getfield 30, 3) := by decide +kernel
theorem dX8_quickest_32 : decode cX8_quickest 32 = .ok (.iload_n 1, 1) := by decide +kernel
theorem dX8_quickest_33 : decode cX8_quickest 33 = .ok (.iload_n 2, 1) := by decide +kernel
theorem dX8_quickest_34 : decode cX8_quickest 34 = .ok (.iconst 4, 1) := by decide +kernel
theorem dX8_quickest_35 : decode cX8_quickest 35 = .ok (.invokevirtual 241, 3) := by decide +kernel
theorem dX8_quickest_38 : decode cX8_quickest 38 = .ok (.bipush (-2), 2) := by decide +kernel
theorem dX8_quickest_40 : decode cX8_quickest 40 = .ok (.istore 4, 2) := by decide +kernel
theorem dX8_quickest_42 : decode cX8_quickest 42 = .ok (.ldc_w 286, 3) := by decide +kernel
theorem dX8_quickest_45 : decode cX8_quickest 45 = .ok (.istore 5, 2) := by decide +kernel
theorem dX8_quickest_47 : decode cX8_quickest 47 = .ok (.iconst 0, 1) := by decide +kernel
theorem dX8_quickest_48 : decode cX8_quickest 48 = .ok (.istore 6, 2) := by decide +kernel
theorem dX8_quickest_50 : decode cX8_quickest 50 = .ok (.iload 6, 2) := by decide +kernel
theorem dX8_quickest_52 : decode cX8_quickest 52 = .ok (.aload_n 0, 1) := by decide +kernel
theorem dX8_quickest_53 : decode cX8_quickest 53 = .ok (.getfield 37, 3) := by decide +kernel
theorem dX8_quickest_56 : decode cX8_quickest 56 = .ok (.getfield 245, 3) := by decide +kernel
theorem dX8_quickest_59 : decode cX8_quickest 59 = .ok (.if_icmp .ge 45, 3) := by decide +kernel
theorem dX8_quickest_62 : decode cX8_quickest 62 = .ok (.aload_n 0, 1) := by decide +kernel
theorem dX8_quickest_63 : decode cX8_quickest 63 = .ok (.getfield 37, 3) := by decide +kernel
theorem dX8_quickest_66 : decode cX8_quickest 66 = .ok (.iload 6, 2) := by decide +kernel
theorem dX8_quickest_68 : decode cX8_quickest 68 = .ok (.invokevirtual 249, 3) := by decide +kernel
theorem dX8_quickest_71 : decode cX8_quickest 71 = .ok (.aload_n 0, 1) := by decide +kernel
theorem dX8_quickest_72 : decode cX8_quickest 72 = .ok (.getfield 37, 3) := by decide +kernel
theorem dX8_quickest_75 : decode cX8_quickest 75 = .ok (.iload 6, 2) := by decide +kernel
theorem dX8_quickest_77 : decode cX8_quickest 77 = .ok (.invokevirtual 246, 3) := by decide +kernel
theorem dX8_quickest_80 : decode cX8_quickest 80 = .ok (.isub, 1) := by decide +kernel
theorem dX8_quickest_81 : decode cX8_quickest 81 = .ok (.istore 7, 2) := by decide +kernel
theorem dX8_quickest_83 : decode cX8_quickest 83 = .ok (.iload 7, 2) := by decide +kernel
theorem dX8_quickest_85 : decode cX8_quickest 85 = .ok (.iload 5, 2) := by decide +kernel
theorem dX8_quickest_87 : decode cX8_quickest 87 = .ok (.if_icmp .ge 11, 3) := by decide +kernel
theorem dX8_quickest_90 : decode cX8_quickest 90 = .ok (.iload 6, 2) := by decide +kernel
theorem dX8_quickest_92 : decode cX8_quickest 92 = .ok (.istore 4, 2) := by decide +kernel
theorem dX8_quickest_94 : decode cX8_quickest 94 = .ok (.iload 7, 2) := by decide +kernel
theorem dX8_quickest_96 : decode cX8_quickest 96 = .ok (.istore 5, 2) := by decide +kernel
theorem dX8_quickest_98 : decode cX8_quickest 98 = .ok (.iinc 6 1, 3) := by decide +kernel
theorem dX8_quickest_101 : decode cX8_quickest 101 = .ok (.goto (-51), 3) := by decide +kernel
theorem dX8_quickest_104 : decode cX8_quickest 104 = .ok (.iload 4, 2) := by decide +kernel
theorem dX8_quickest_106 : decode cX8_quickest 106 = .ok (.ifCond .ge 6, 3) := by decide +kernel
theorem dX8_quickest_109 : decode cX8_quickest 109 = .ok (.bipush (-2), 2) := by decide +kernel
theorem dX8_quickest_111 : decode cX8_quickest 111 = .ok (.ireturn, 1) := by decide +kernel
theorem dX8_quickest_112 : decode cX8_quickest 112 = .ok (.iload_n 3, 1) := by decide +kernel
theorem dX8_quickest_113 : decode cX8_quickest 113 = .ok (.ifCond .ne 8, 3) := by decide +kernel
theorem dX8_quickest_116 : decode cX8_quickest 116 = .ok (.iload 4, 2) := by decide +kernel
theorem dX8_quickest_118 : decode cX8_quickest 118 = .ok (.goto 5, 3) := by decide +kernel
theorem dX8_quickest_121 : decode cX8_quickest 121 = .ok (.iload 5, 2) := by decide +kernel
theorem dX8_quickest_123 : decode cX8_quickest 123 = .ok (.ireturn, 1) := by decide +kernel
theorem dX8_reached_0 : decode cX8_reached 0 = .ok (.aload_n 0, 1) := by decide +kernel
theorem dX8_reached_1 : decode cX8_reached 1 = .ok (.iload_n 1, 1) := by decide +kernel
theorem dX8_reached_2 : decode cX8_reached 2 = .ok (.invokevirtual 161, 3) := by decide +kernel
theorem dX8_reached_5 : decode cX8_reached 5 = .ok (.ifCond .eq 21, 3) := by decide +kernel
theorem dX8_reached_8 : decode cX8_reached 8 = .ok (.iload_n 2, 1) := by decide +kernel
theorem dX8_reached_9 : decode cX8_reached 9 = .ok (.invokestatic 307, 3) := by decide +kernel
theorem dX8_reached_12 : decode cX8_reached 12 = .ok (.ifCond .eq 14, 3) := by decide +kernel
theorem dX8_reached_15 : decode cX8_reached 15 = .ok (.iload_n 3, 1) := by decide +kernel
theorem dX8_reached_16 : decode cX8_reached 16 = .ok (.iconst 0, 1) := by decide +kernel
theorem dX8_reached_17 : decode cX8_reached 17 = .ok (.sipush 2000, 3) := by decide +kernel
theorem dX8_reached_20 : decode cX8_reached 20 = .ok (.invokestatic 179, 3) := by decide +kernel
theorem dX8_reached_23 : decode cX8_reached 23 = .ok (.ifCond .ne 5, 3) := by decide +kernel
theorem dX8_reached_26 : decode cX8_reached 26 = .ok (.iconst (-1), 1) := by decide +kernel
theorem dX8_reached_27 : decode cX8_reached 27 = .ok (.ireturn, 1) := by decide +kernel
theorem dX8_reached_28 : decode cX8_reached 28 = .ok (.aload_n 0, 1) := by decide +kernel
theorem dX8_reached_29 : decode cX8_reached 29 = .ok (.getfield 81, 3) := by decide +kernel
theorem dX8_reached_32 : decode cX8_reached 32 = .ok (.iload_n 1, 1) := by decide +kernel
theorem dX8_reached_33 : decode cX8_reached 33 = .ok (.iload_n 2, 1) := by decide +kernel
theorem dX8_reached_34 : decode cX8_reached 34 = .ok (.iconst 4, 1) := by decide +kernel
theorem dX8_reached_35 : decode cX8_reached 35 = .ok (.lconst 0, 1) := by decide +kernel
theorem dX8_reached_36 : decode cX8_reached 36 = .ok (.invokevirtual 331, 3) := by decide +kernel
theorem dX8_reached_39 : decode cX8_reached 39 = .ok (.lstore 4, 2) := by decide +kernel
theorem dX8_reached_41 : decode cX8_reached 41 = .ok (.iconst 0, 1) := by decide +kernel
theorem dX8_reached_42 : decode cX8_reached 42 = .ok (.istore 6, 2) := by decide +kernel
theorem dX8_reached_44 : decode cX8_reached 44 = .ok (.iconst 0, 1) := by decide +kernel
theorem dX8_reached_45 : decode cX8_reached 45 = .ok (.istore 7, 2) := by decide +kernel
theorem dX8_reached_47 : decode cX8_reached 47 = .ok (.iload 7, 2) := by decide +kernel
theorem dX8_reached_49 : decode cX8_reached 49 = .ok (.aload_n 0, 1) := by decide +kernel
theorem dX8_reached_50 : decode cX8_reached 50 = .ok (.getfield 65, 3) := by decide +kernel
theorem dX8_reached_53 : decode cX8_reached 53 = .ok (.getfield 293, 3) := by decide +kernel
theorem dX8_reached_56 : decode cX8_reached 56 = .ok (.if_icmp .ge 37, 3) := by decide +kernel
theorem dX8_reached_59 : decode cX8_reached 59 = .ok (.aload_n 0, 1) := by decide +kernel
theorem dX8_reached_60 : decode cX8_reached 60 = .ok (.getfield 81, 3) := by decide +kernel
theorem dX8_reached_63 : decode cX8_reached 63 = .ok (.lload 4, 2) := by decide +kernel
theorem dX8_reached_65 : decode cX8_reached 65 = .ok (.iload_n 1, 1) := by decide +kernel
theorem dX8_reached_66 : decode cX8_reached 66 = .ok (.iload 7, 2) := by decide +kernel
theorem dX8_reached_68 : decode cX8_reached 68 = .ok (.iload_n 2, 1) := by decide +kernel
theorem dX8_reached_69 : decode cX8_reached 69 = .ok (.invokevirtual 335, 3) := by decide +kernel
theorem dX8_reached_72 : decode cX8_reached 72 = .ok (.iload_n 2, 1) := by decide +kernel
theorem dX8_reached_73 : decode cX8_reached 73 = .ok (.iload_n 3, 1) := by decide +kernel
theorem dX8_reached_74 : decode cX8_reached 74 = .ok (.iadd, 1) := by decide +kernel
theorem dX8_reached_75 : decode cX8_reached 75 = .ok (.if_icmp .gt 12, 3) := by decide +kernel
theorem dX8_reached_78 : decode cX8_reached 78 = .ok (.iload 6, 2) := by decide +kernel
theorem dX8_reached_80 : decode cX8_reached 80 = .ok (.iconst 1, 1) := by decide +kernel
theorem dX8_reached_81 : decode cX8_reached 81 = .ok (.iload 7, 2) := by decide +kernel
theorem dX8_reached_83 : decode cX8_reached 83 = .ok (.ishl, 1) := by decide +kernel
theorem dX8_reached_84 : decode cX8_reached 84 = .ok (.ior, 1) := by decide +kernel
theorem dX8_reached_85 : decode cX8_reached 85 = .ok (.istore 6, 2) := by decide +kernel
theorem dX8_reached_87 : decode cX8_reached 87 = .ok (.iinc 7 1, 3) := by decide +kernel
theorem dX8_reached_90 : decode cX8_reached 90 = .ok (.goto (-43), 3) := by decide +kernel
theorem dX8_reached_93 : decode cX8_reached 93 = .ok (.iload 6, 2) := by decide +kernel
theorem dX8_reached_95 : decode cX8_reached 95 = .ok (.ireturn, 1) := by decide +kernel
theorem dX8_ride_0 : decode cX8_ride 0 = .ok (.aload_n 0, 1) := by decide +kernel
theorem dX8_ride_1 : decode cX8_ride 1 = .ok (.iload_n 1, 1) := by decide +kernel
theorem dX8_ride_2 : decode cX8_ride 2 = .ok (.invokevirtual 118, 3) := by decide +kernel
theorem dX8_ride_5 : decode cX8_ride 5 = .ok (.ifCond .ne 13, 3) := by decide +kernel
theorem dX8_ride_8 : decode cX8_ride 8 = .ok (.new 122, 3) := by decide +kernel
theorem dX8_ride_11 : decode cX8_ride 11 = .ok (.dup, 1) := by decide +kernel
theorem dX8_ride_12 : decode cX8_ride 12 = .ok (.ldc 124, 2) := by decide +kernel
theorem dX8_ride_14 : decode cX8_ride 14 = .ok (.invokespecial 126, 3) := by decide +kernel
theorem dX8_ride_17 : decode cX8_ride 17 = .ok (.athrow, 1) := by decide +kernel
theorem dX8_ride_18 : decode cX8_ride 18 = .ok (.iload_n 2, 1) := by decide +kernel
theorem dX8_ride_19 : decode cX8_ride 19 = .ok (.tableswitch 156 0 8 #[49, 59, 69, 79, 89, 99, 109, 119, 136], 49) := by decide +kernel
theorem dX8_ride_68 : decode cX8_ride 68 = .ok (.aload_n 0, 1) := by decide +kernel
theorem dX8_ride_69 : decode cX8_ride 69 = .ok (.getfield 65, 3) := by decide +kernel
theorem dX8_ride_72 : decode cX8_ride 72 = .ok (.getfield 129, 3) := by decide +kernel
theorem dX8_ride_75 : decode cX8_ride 75 = .ok (.iload_n 1, 1) := by decide +kernel
theorem dX8_ride_76 : decode cX8_ride 76 = .ok (.iaload, 1) := by decide +kernel
theorem dX8_ride_77 : decode cX8_ride 77 = .ok (.ireturn, 1) := by decide +kernel
theorem dX8_ride_78 : decode cX8_ride 78 = .ok (.aload_n 0, 1) := by decide +kernel
theorem dX8_ride_79 : decode cX8_ride 79 = .ok (.getfield 65, 3) := by decide +kernel
theorem dX8_ride_82 : decode cX8_ride 82 = .ok (.getfield 132, 3) := by decide +kernel
theorem dX8_ride_85 : decode cX8_ride 85 = .ok (.iload_n 1, 1) := by decide +kernel
theorem dX8_ride_86 : decode cX8_ride 86 = .ok (.iaload, 1) := by decide +kernel
theorem dX8_ride_87 : decode cX8_ride 87 = .ok (.ireturn, 1) := by decide +kernel
theorem dX8_ride_88 : decode cX8_ride 88 = .ok (.aload_n 0, 1) := by decide +kernel
theorem dX8_ride_89 : decode cX8_ride 89 = .ok (.getfield 65, 3) := by decide +kernel
theorem dX8_ride_92 : decode cX8_ride 92 = .ok (.getfield 135, 3) := by decide +kernel
theorem dX8_ride_95 : decode cX8_ride 95 = .ok (.iload_n 1, 1) := by decide +kernel
theorem dX8_ride_96 : decode cX8_ride 96 = .ok (.iaload, 1) := by decide +kernel
theorem dX8_ride_97 : decode cX8_ride 97 = .ok (.ireturn, 1) := by decide +kernel
theorem dX8_ride_98 : decode cX8_ride 98 = .ok (.aload_n 0, 1) := by decide +kernel
theorem dX8_ride_99 : decode cX8_ride 99 = .ok (.getfield 65, 3) := by decide +kernel
theorem dX8_ride_102 : decode cX8_ride 102 = .ok (.getfield 138, 3) := by decide +kernel
theorem dX8_ride_105 : decode cX8_ride 105 = .ok (.iload_n 1, 1) := by decide +kernel
theorem dX8_ride_106 : decode cX8_ride 106 = .ok (.iaload, 1) := by decide +kernel
theorem dX8_ride_107 : decode cX8_ride 107 = .ok (.ireturn, 1) := by decide +kernel
theorem dX8_ride_108 : decode cX8_ride 108 = .ok (.aload_n 0, 1) := by decide +kernel
theorem dX8_ride_109 : decode cX8_ride 109 = .ok (.getfield 65, 3) := by decide +kernel
theorem dX8_ride_112 : decode cX8_ride 112 = .ok (.getfield 141, 3) := by decide +kernel
theorem dX8_ride_115 : decode cX8_ride 115 = .ok (.iload_n 1, 1) := by decide +kernel
theorem dX8_ride_116 : decode cX8_ride 116 = .ok (.iaload, 1) := by decide +kernel
theorem dX8_ride_117 : decode cX8_ride 117 = .ok (.ireturn, 1) := by decide +kernel
theorem dX8_ride_118 : decode cX8_ride 118 = .ok (.aload_n 0, 1) := by decide +kernel
theorem dX8_ride_119 : decode cX8_ride 119 = .ok (.getfield 81, 3) := by decide +kernel
theorem dX8_ride_122 : decode cX8_ride 122 = .ok (.getfield 144, 3) := by decide +kernel
theorem dX8_ride_125 : decode cX8_ride 125 = .ok (.iload_n 1, 1) := by decide +kernel
theorem dX8_ride_126 : decode cX8_ride 126 = .ok (.iaload, 1) := by decide +kernel
theorem dX8_ride_127 : decode cX8_ride 127 = .ok (.ireturn, 1) := by decide +kernel
theorem dX8_ride_128 : decode cX8_ride 128 = .ok (.aload_n 0, 1) := by decide +kernel
theorem dX8_ride_129 : decode cX8_ride 129 = .ok (.getfield 81, 3) := by decide +kernel
theorem dX8_ride_132 : decode cX8_ride 132 = .ok (.getfield 147, 3) := by decide +kernel
theorem dX8_ride_135 : decode cX8_ride 135 = .ok (.iload_n 1, 1) := by decide +kernel
theorem dX8_ride_136 : decode cX8_ride 136 = .ok (.iaload, 1) := by decide +kernel
theorem dX8_ride_137 : decode cX8_ride 137 = .ok (.ireturn, 1) := by decide +kernel
theorem dX8_ride_138 : decode cX8_ride 138 = .ok (.aload_n 0, 1) := by decide +kernel
theorem dX8_ride_139 : decode cX8_ride 139 = .ok (.getfield 81, 3) := by decide +kernel
theorem dX8_ride_142 : decode cX8_ride 142 = .ok (.iload_n 1, 1) := by decide +kernel
theorem dX8_ride_143 : decode cX8_ride 143 = .ok (.invokevirtual 150, 3) := by decide +kernel
theorem dX8_ride_146 : decode cX8_ride 146 = .ok (.ifCond .eq 7, 3) := by decide +kernel
theorem dX8_ride_149 : decode cX8_ride 149 = .ok (.iconst 1, 1) := by decide +kernel
theorem dX8_ride_150 : decode cX8_ride 150 = .ok (.goto 4, 3) := by decide +kernel
theorem dX8_ride_153 : decode cX8_ride 153 = .ok (.iconst 0, 1) := by decide +kernel
theorem dX8_ride_154 : decode cX8_ride 154 = .ok (.ireturn, 1) := by decide +kernel
theorem dX8_ride_155 : decode cX8_ride 155 = .ok (.aload_n 0, 1) := by decide +kernel
theorem dX8_ride_156 : decode cX8_ride 156 = .ok (.getfield 65, 3) := by decide +kernel
theorem dX8_ride_159 : decode cX8_ride 159 = .ok (.iload_n 1, 1) := by decide +kernel
theorem dX8_ride_160 : decode cX8_ride 160 = .ok (.invokevirtual 153, 3) := by decide +kernel
theorem dX8_ride_163 : decode cX8_ride 163 = .ok (.ifCond .eq 9, 3) := by decide +kernel
theorem dX8_ride_166 : decode cX8_ride 166 = .ok (.iload_n 1, 1) := by decide +kernel
theorem dX8_ride_167 : decode cX8_ride 167 = .ok (.iconst 1, 1) := by decide +kernel
theorem dX8_ride_168 : decode cX8_ride 168 = .ok (.iadd, 1) := by decide +kernel
theorem dX8_ride_169 : decode cX8_ride 169 = .ok (.goto 5, 3) := by decide +kernel
theorem dX8_ride_172 : decode cX8_ride 172 = .ok (.bipush (-2), 2) := by decide +kernel
theorem dX8_ride_174 : decode cX8_ride 174 = .ok (.ireturn, 1) := by decide +kernel
theorem dX8_ride_175 : decode cX8_ride 175 = .ok (.new 156, 3) := by decide +kernel
theorem dX8_ride_178 : decode cX8_ride 178 = .ok (.dup, 1) := by decide +kernel
theorem dX8_ride_179 : decode cX8_ride 179 = .ok (.ldc 158, 2) := by decide +kernel
theorem dX8_ride_181 : decode cX8_ride 181 = .ok (.invokespecial 160, 3) := by decide +kernel
theorem dX8_ride_184 : decode cX8_ride 184 = .ok (.athrow, 1) := by decide +kernel
theorem dX8_slack_0 : decode cX8_slack 0 = .ok (.aload_n 0, 1) := by decide +kernel
theorem dX8_slack_1 : decode cX8_slack 1 = .ok (.iload_n 1, 1) := by decide +kernel
theorem dX8_slack_2 : decode cX8_slack 2 = .ok (.invokevirtual 118, 3) := by decide +kernel
theorem dX8_slack_5 : decode cX8_slack 5 = .ok (.ifCond .eq 33, 3) := by decide +kernel
theorem dX8_slack_8 : decode cX8_slack 8 = .ok (.aload_n 0, 1) := by decide +kernel
theorem dX8_slack_9 : decode cX8_slack 9 = .ok (.iload_n 2, 1) := by decide +kernel
theorem dX8_slack_10 : decode cX8_slack 10 = .ok (.invokevirtual 118, 3) := by decide +kernel
theorem dX8_slack_13 : decode cX8_slack 13 = .ok (.ifCond .eq 25, 3) := by decide +kernel
theorem dX8_slack_16 : decode cX8_slack 16 = .ok (.aload_n 0, 1) := by decide +kernel
theorem dX8_slack_17 : decode cX8_slack 17 = .ok (.getfield 81, 3) := by decide +kernel
theorem dX8_slack_20 : decode cX8_slack 20 = .ok (.iload_n 1, 1) := by decide +kernel
theorem dX8_slack_21 : decode cX8_slack 21 = .ok (.invokevirtual 150, 3) := by decide +kernel
theorem dX8_slack_24 : decode cX8_slack 24 = .ok (.ifCond .ne 14, 3) := by decide +kernel
theorem dX8_slack_27 : decode cX8_slack 27 = .ok (.aload_n 0, 1) := by decide +kernel
theorem dX8_slack_28 : decode cX8_slack 28 = .ok (.getfield 81, 3) := by decide +kernel
theorem dX8_slack_31 : decode cX8_slack 31 = .ok (.iload_n 2, 1) := by decide +kernel
theorem dX8_slack_32 : decode cX8_slack 32 = .ok (.invokevirtual 150, 3) := by decide +kernel
theorem dX8_slack_35 : decode cX8_slack 35 = .ok (.ifCond .eq 7, 3) := by decide +kernel
theorem dX8_slack_38 : decode cX8_slack 38 = .ok (.sipush (-1000), 3) := by decide +kernel
theorem dX8_slack_41 : decode cX8_slack 41 = .ok (.ireturn, 1) := by decide +kernel
theorem dX8_slack_42 : decode cX8_slack 42 = .ok (.aload_n 0, 1) := by decide +kernel
theorem dX8_slack_43 : decode cX8_slack 43 = .ok (.getfield 65, 3) := by decide +kernel
theorem dX8_slack_46 : decode cX8_slack 46 = .ok (.getfield 365, 3) := by decide +kernel
theorem dX8_slack_49 : decode cX8_slack 49 = .ok (.aload_n 0, 1) := by decide +kernel
theorem dX8_slack_50 : decode cX8_slack 50 = .ok (.getfield 65, 3) := by decide +kernel
theorem dX8_slack_53 : decode cX8_slack 53 = .ok (.getfield 135, 3) := by decide +kernel
theorem dX8_slack_56 : decode cX8_slack 56 = .ok (.iload_n 1, 1) := by decide +kernel
theorem dX8_slack_57 : decode cX8_slack 57 = .ok (.iaload, 1) := by decide +kernel
theorem dX8_slack_58 : decode cX8_slack 58 = .ok (.aaload, 1) := by decide +kernel
theorem dX8_slack_59 : decode cX8_slack 59 = .ok (.aload_n 0, 1) := by decide +kernel
theorem dX8_slack_60 : decode cX8_slack 60 = .ok (.getfield 65, 3) := by decide +kernel
theorem dX8_slack_63 : decode cX8_slack 63 = .ok (.getfield 132, 3) := by decide +kernel
theorem dX8_slack_66 : decode cX8_slack 66 = .ok (.iload_n 2, 1) := by decide +kernel
theorem dX8_slack_67 : decode cX8_slack 67 = .ok (.iaload, 1) := by decide +kernel
theorem dX8_slack_68 : decode cX8_slack 68 = .ok (.iaload, 1) := by decide +kernel
theorem dX8_slack_69 : decode cX8_slack 69 = .ok (.ldc_w 286, 3) := by decide +kernel
theorem dX8_slack_72 : decode cX8_slack 72 = .ok (.if_icmp .lt 7, 3) := by decide +kernel
theorem dX8_slack_75 : decode cX8_slack 75 = .ok (.sipush (-1000), 3) := by decide +kernel
theorem dX8_slack_78 : decode cX8_slack 78 = .ok (.ireturn, 1) := by decide +kernel
theorem dX8_slack_79 : decode cX8_slack 79 = .ok (.aload_n 0, 1) := by decide +kernel
theorem dX8_slack_80 : decode cX8_slack 80 = .ok (.getfield 81, 3) := by decide +kernel
theorem dX8_slack_83 : decode cX8_slack 83 = .ok (.iload_n 1, 1) := by decide +kernel
theorem dX8_slack_84 : decode cX8_slack 84 = .ok (.iload_n 2, 1) := by decide +kernel
theorem dX8_slack_85 : decode cX8_slack 85 = .ok (.invokevirtual 368, 3) := by decide +kernel
theorem dX8_slack_88 : decode cX8_slack 88 = .ok (.ireturn, 1) := by decide +kernel
theorem dX8_spare_0 : decode cX8_spare 0 = .ok (.aload_n 0, 1) := by decide +kernel
theorem dX8_spare_1 : decode cX8_spare 1 = .ok (.iload_n 1, 1) := by decide +kernel
theorem dX8_spare_2 : decode cX8_spare 2 = .ok (.invokevirtual 161, 3) := by decide +kernel
theorem dX8_spare_5 : decode cX8_spare 5 = .ok (.ifCond .eq 18, 3) := by decide +kernel
theorem dX8_spare_8 : decode cX8_spare 8 = .ok (.aload_n 0, 1) := by decide +kernel
theorem dX8_spare_9 : decode cX8_spare 9 = .ok (.iload_n 2, 1) := by decide +kernel
theorem dX8_spare_10 : decode cX8_spare 10 = .ok (.invokevirtual 161, 3) := by decide +kernel
theorem dX8_spare_13 : decode cX8_spare 13 = .ok (.ifCond .eq 10, 3) := by decide +kernel
theorem dX8_spare_16 : decode cX8_spare 16 = .ok (.iload_n 3, 1) := by decide +kernel
theorem dX8_spare_17 : decode cX8_spare 17 = .ok (.invokestatic 307, 3) := by decide +kernel
theorem dX8_spare_20 : decode cX8_spare 20 = .ok (.ifCond .ne 5, 3) := by decide +kernel
theorem dX8_spare_23 : decode cX8_spare 23 = .ok (.iconst (-1), 1) := by decide +kernel
theorem dX8_spare_24 : decode cX8_spare 24 = .ok (.ireturn, 1) := by decide +kernel
theorem dX8_spare_25 : decode cX8_spare 25 = .ok (.aload_n 0, 1) := by decide +kernel
theorem dX8_spare_26 : decode cX8_spare 26 = .ok (.getfield 48, 3) := by decide +kernel
theorem dX8_spare_29 : decode cX8_spare 29 = .ok (.getfield 258, 3) := by decide +kernel
theorem dX8_spare_32 : decode cX8_spare 32 = .ok (.ifCond .ne 6, 3) := by decide +kernel
theorem dX8_spare_35 : decode cX8_spare 35 = .ok (.bipush (-2), 2) := by decide +kernel
theorem dX8_spare_37 : decode cX8_spare 37 = .ok (.ireturn, 1) := by decide +kernel
theorem dX8_spare_38 : decode cX8_spare 38 = .ok (.aload_n 0, 1) := by decide +kernel
theorem dX8_spare_39 : decode cX8_spare 39 = .ok (.getfield 54, 3) := by decide +kernel
theorem dX8_spare_42 : decode cX8_spare 42 = .ok (.aload_n 0, 1) := by decide +kernel
theorem dX8_spare_43 : decode cX8_spare 43 = .ok (.getfield 48, 3) := by decide +kernel
theorem dX8_spare_46 : decode cX8_spare 46 = .ok (.aload_n 0, 1) := by decide +kernel
theorem dX8_spare_47 : decode cX8_spare 47 = .ok (.getfield 81, 3) := by decide +kernel
theorem dX8_spare_50 : decode cX8_spare 50 = .ok (.iload_n 1, 1) := by decide +kernel
theorem dX8_spare_51 : decode cX8_spare 51 = .ok (.iload_n 2, 1) := by decide +kernel
theorem dX8_spare_52 : decode cX8_spare 52 = .ok (.iload_n 3, 1) := by decide +kernel
theorem dX8_spare_53 : decode cX8_spare 53 = .ok (.invokevirtual 377, 3) := by decide +kernel
theorem dX8_spare_56 : decode cX8_spare 56 = .ok (.aload_n 0, 1) := by decide +kernel
theorem dX8_spare_57 : decode cX8_spare 57 = .ok (.getfield 54, 3) := by decide +kernel
theorem dX8_spare_60 : decode cX8_spare 60 = .ok (.getfield 381, 3) := by decide +kernel
theorem dX8_spare_63 : decode cX8_spare 63 = .ok (.ifCond .ne 13, 3) := by decide +kernel
theorem dX8_spare_66 : decode cX8_spare 66 = .ok (.aload_n 0, 1) := by decide +kernel
theorem dX8_spare_67 : decode cX8_spare 67 = .ok (.getfield 54, 3) := by decide +kernel
theorem dX8_spare_70 : decode cX8_spare 70 = .ok (.getfield 399, 3) := by decide +kernel
theorem dX8_spare_73 : decode cX8_spare 73 = .ok (.goto 5, 3) := by decide +kernel
theorem dX8_spare_76 : decode cX8_spare 76 = .ok (.bipush (-2), 2) := by decide +kernel
theorem dX8_spare_78 : decode cX8_spare 78 = .ok (.ireturn, 1) := by decide +kernel
theorem dX8_stay_0 : decode cX8_stay 0 = .ok (.aload_n 0, 1) := by decide +kernel
theorem dX8_stay_1 : decode cX8_stay 1 = .ok (.iload_n 1, 1) := by decide +kernel
theorem dX8_stay_2 : decode cX8_stay 2 = .ok (.iload_n 2, 1) := by decide +kernel
theorem dX8_stay_3 : decode cX8_stay 3 = .ok (.invokevirtual 238, 3) := by decide +kernel
theorem dX8_stay_6 : decode cX8_stay 6 = .ok (.ifCond .eq 22, 3) := by decide +kernel
theorem dX8_stay_9 : decode cX8_stay 9 = .ok (.iload_n 3, 1) := by decide +kernel
theorem dX8_stay_10 : decode cX8_stay 10 = .ok (.invokestatic 307, 3) := by decide +kernel
theorem dX8_stay_13 : decode cX8_stay 13 = .ok (.ifCond .eq 15, 3) := by decide +kernel
theorem dX8_stay_16 : decode cX8_stay 16 = .ok (.iload 4, 2) := by decide +kernel
theorem dX8_stay_18 : decode cX8_stay 18 = .ok (.iconst 0, 1) := by decide +kernel
theorem dX8_stay_19 : decode cX8_stay 19 = .ok (.sipush 2000, 3) := by decide +kernel
theorem dX8_stay_22 : decode cX8_stay 22 = .ok (.invokestatic 179, 3) := by decide +kernel
theorem dX8_stay_25 : decode cX8_stay 25 = .ok (.ifCond .ne 5, 3) := by decide +kernel
theorem dX8_stay_28 : decode cX8_stay 28 = .ok (.iconst (-1), 1) := by decide +kernel
theorem dX8_stay_29 : decode cX8_stay 29 = .ok (.ireturn, 1) := by decide +kernel
theorem dX8_stay_30 : decode cX8_stay 30 = .ok (.aload_n 0, 1) := by decide +kernel
theorem dX8_stay_31 : decode cX8_stay 31 = .ok (.getfield 81, 3) := by decide +kernel
theorem dX8_stay_34 : decode cX8_stay 34 = .ok (.iload_n 1, 1) := by decide +kernel
theorem dX8_stay_35 : decode cX8_stay 35 = .ok (.iload_n 2, 1) := by decide +kernel
theorem dX8_stay_36 : decode cX8_stay 36 = .ok (.iload_n 3, 1) := by decide +kernel
theorem dX8_stay_37 : decode cX8_stay 37 = .ok (.iconst 4, 1) := by decide +kernel
theorem dX8_stay_38 : decode cX8_stay 38 = .ok (.lconst 0, 1) := by decide +kernel
theorem dX8_stay_39 : decode cX8_stay 39 = .ok (.invokevirtual 310, 3) := by decide +kernel
theorem dX8_stay_42 : decode cX8_stay 42 = .ok (.istore 5, 2) := by decide +kernel
theorem dX8_stay_44 : decode cX8_stay 44 = .ok (.aload_n 0, 1) := by decide +kernel
theorem dX8_stay_45 : decode cX8_stay 45 = .ok (.iload_n 2, 1) := by decide +kernel
theorem dX8_stay_46 : decode cX8_stay 46 = .ok (.iload_n 1, 1) := by decide +kernel
theorem dX8_stay_47 : decode cX8_stay 47 = .ok (.iload 4, 2) := by decide +kernel
theorem dX8_stay_49 : decode cX8_stay 49 = .ok (.invokevirtual 314, 3) := by decide +kernel
theorem dX8_stay_52 : decode cX8_stay 52 = .ok (.istore 6, 2) := by decide +kernel
theorem dX8_stay_54 : decode cX8_stay 54 = .ok (.iload 5, 2) := by decide +kernel
theorem dX8_stay_56 : decode cX8_stay 56 = .ok (.ldc_w 286, 3) := by decide +kernel
theorem dX8_stay_59 : decode cX8_stay 59 = .ok (.if_icmp .ge 8, 3) := by decide +kernel
theorem dX8_stay_62 : decode cX8_stay 62 = .ok (.iload 6, 2) := by decide +kernel
theorem dX8_stay_64 : decode cX8_stay 64 = .ok (.ifCond .ge 6, 3) := by decide +kernel
theorem dX8_stay_67 : decode cX8_stay 67 = .ok (.bipush (-2), 2) := by decide +kernel
theorem dX8_stay_69 : decode cX8_stay 69 = .ok (.ireturn, 1) := by decide +kernel
theorem dX8_stay_70 : decode cX8_stay 70 = .ok (.iload 6, 2) := by decide +kernel
theorem dX8_stay_72 : decode cX8_stay 72 = .ok (.iload 5, 2) := by decide +kernel
theorem dX8_stay_74 : decode cX8_stay 74 = .ok (.if_icmp .ge 8, 3) := by decide +kernel
theorem dX8_stay_77 : decode cX8_stay 77 = .ok (.bipush (-3), 2) := by decide +kernel
theorem dX8_stay_79 : decode cX8_stay 79 = .ok (.goto 8, 3) := by decide +kernel
theorem dX8_stay_82 : decode cX8_stay 82 = .ok (.iload 6, 2) := by decide +kernel
theorem dX8_stay_84 : decode cX8_stay 84 = .ok (.iload 5, 2) := by decide +kernel
theorem dX8_stay_86 : decode cX8_stay 86 = .ok (.isub, 1) := by decide +kernel
theorem dX8_stay_87 : decode cX8_stay 87 = .ok (.ireturn, 1) := by decide +kernel
theorem dX8_tallyChanges_0 : decode cX8_tallyChanges 0 = .ok (.aload_n 0, 1) := by decide +kernel
theorem dX8_tallyChanges_1 : decode cX8_tallyChanges 1 = .ok (.getfield 37, 3) := by decide +kernel
theorem dX8_tallyChanges_4 : decode cX8_tallyChanges 4 = .ok (.aload_n 0, 1) := by decide +kernel
theorem dX8_tallyChanges_5 : decode cX8_tallyChanges 5 = .ok (.getfield 81, 3) := by decide +kernel
theorem dX8_tallyChanges_8 : decode cX8_tallyChanges 8 = .ok (.aload_n 0, 1) := by decide +kernel
theorem dX8_tallyChanges_9 : decode cX8_tallyChanges 9 = .ok (.getfield 30, 3) := by decide +kernel
theorem dX8_tallyChanges_12 : decode cX8_tallyChanges 12 = .ok (.iload_n 1, 1) := by decide +kernel
theorem dX8_tallyChanges_13 : decode cX8_tallyChanges 13 = .ok (.iload_n 2, 1) := by decide +kernel
theorem dX8_tallyChanges_14 : decode cX8_tallyChanges 14 = .ok (.iconst 4, 1) := by decide +kernel
theorem dX8_tallyChanges_15 : decode cX8_tallyChanges 15 = .ok (.invokevirtual 241, 3) := by decide +kernel
theorem dX8_tallyChanges_18 : decode cX8_tallyChanges 18 = .ok (.iconst 0, 1) := by decide +kernel
theorem dX8_tallyChanges_19 : decode cX8_tallyChanges 19 = .ok (.istore_n 3, 1) := by decide +kernel
theorem dX8_tallyChanges_20 : decode cX8_tallyChanges 20 = .ok (.iload_n 3, 1) := by decide +kernel
theorem dX8_tallyChanges_21 : decode cX8_tallyChanges 21 = .ok (.aload_n 0, 1) := by decide +kernel
theorem dX8_tallyChanges_22 : decode cX8_tallyChanges 22 = .ok (.getfield 37, 3) := by decide +kernel
theorem dX8_tallyChanges_25 : decode cX8_tallyChanges 25 = .ok (.getfield 245, 3) := by decide +kernel
theorem dX8_tallyChanges_28 : decode cX8_tallyChanges 28 = .ok (.if_icmp .ge 75, 3) := by decide +kernel
theorem dX8_tallyChanges_31 : decode cX8_tallyChanges 31 = .ok (.aload_n 0, 1) := by decide +kernel
theorem dX8_tallyChanges_32 : decode cX8_tallyChanges 32 = .ok (.getfield 37, 3) := by decide +kernel
theorem dX8_tallyChanges_35 : decode cX8_tallyChanges 35 = .ok (.iload_n 3, 1) := by decide +kernel
theorem dX8_tallyChanges_36 : decode cX8_tallyChanges 36 = .ok (.aload_n 0, 1) := by decide +kernel
theorem dX8_tallyChanges_37 : decode cX8_tallyChanges 37 = .ok (.getfield 30, 3) := by decide +kernel
theorem dX8_tallyChanges_40 : decode cX8_tallyChanges 40 = .ok (.aload_n 0, 1) := by decide +kernel
theorem dX8_tallyChanges_41 : decode cX8_tallyChanges 41 = .ok (.getfield 44, 3) := by decide +kernel
theorem dX8_tallyChanges_44 : decode cX8_tallyChanges 44 = .ok (.invokevirtual 265, 3) := by decide +kernel
theorem dX8_tallyChanges_47 : decode cX8_tallyChanges 47 = .ok (.iconst 0, 1) := by decide +kernel
theorem dX8_tallyChanges_48 : decode cX8_tallyChanges 48 = .ok (.istore 4, 2) := by decide +kernel
theorem dX8_tallyChanges_50 : decode cX8_tallyChanges 50 = .ok (.iload 4, 2) := by decide +kernel
theorem dX8_tallyChanges_52 : decode cX8_tallyChanges 52 = .ok (.aload_n 0, 1) := by decide +kernel
theorem dX8_tallyChanges_53 : decode cX8_tallyChanges 53 = .ok (.getfield 44, 3) := by decide +kernel
theorem dX8_tallyChanges_56 : decode cX8_tallyChanges 56 = .ok (.getfield 258, 3) := by decide +kernel
theorem dX8_tallyChanges_59 : decode cX8_tallyChanges 59 = .ok (.iconst 1, 1) := by decide +kernel
theorem dX8_tallyChanges_60 : decode cX8_tallyChanges 60 = .ok (.isub, 1) := by decide +kernel
theorem dX8_tallyChanges_61 : decode cX8_tallyChanges 61 = .ok (.if_icmp .ge 36, 3) := by decide +kernel
theorem dX8_tallyChanges_64 : decode cX8_tallyChanges 64 = .ok (.aload_n 0, 1) := by decide +kernel
theorem dX8_tallyChanges_65 : decode cX8_tallyChanges 65 = .ok (.getfield 58, 3) := by decide +kernel
theorem dX8_tallyChanges_68 : decode cX8_tallyChanges 68 = .ok (.aload_n 0, 1) := by decide +kernel
theorem dX8_tallyChanges_69 : decode cX8_tallyChanges 69 = .ok (.getfield 65, 3) := by decide +kernel
theorem dX8_tallyChanges_72 : decode cX8_tallyChanges 72 = .ok (.getfield 135, 3) := by decide +kernel
theorem dX8_tallyChanges_75 : decode cX8_tallyChanges 75 = .ok (.aload_n 0, 1) := by decide +kernel
theorem dX8_tallyChanges_76 : decode cX8_tallyChanges 76 = .ok (.getfield 44, 3) := by decide +kernel
theorem dX8_tallyChanges_79 : decode cX8_tallyChanges 79 = .ok (.getfield 262, 3) := by decide +kernel
theorem dX8_tallyChanges_82 : decode cX8_tallyChanges 82 = .ok (.iload 4, 2) := by decide +kernel
theorem dX8_tallyChanges_84 : decode cX8_tallyChanges 84 = .ok (.iaload, 1) := by decide +kernel
theorem dX8_tallyChanges_85 : decode cX8_tallyChanges 85 = .ok (.iaload, 1) := by decide +kernel
theorem dX8_tallyChanges_86 : decode cX8_tallyChanges 86 = .ok (.dup2, 1) := by decide +kernel
theorem dX8_tallyChanges_87 : decode cX8_tallyChanges 87 = .ok (.iaload, 1) := by decide +kernel
theorem dX8_tallyChanges_88 : decode cX8_tallyChanges 88 = .ok (.iconst 1, 1) := by decide +kernel
theorem dX8_tallyChanges_89 : decode cX8_tallyChanges 89 = .ok (.iadd, 1) := by decide +kernel
theorem dX8_tallyChanges_90 : decode cX8_tallyChanges 90 = .ok (.iastore, 1) := by decide +kernel
theorem dX8_tallyChanges_91 : decode cX8_tallyChanges 91 = .ok (.iinc 4 1, 3) := by decide +kernel
theorem dX8_tallyChanges_94 : decode cX8_tallyChanges 94 = .ok (.goto (-44), 3) := by decide +kernel
theorem dX8_tallyChanges_97 : decode cX8_tallyChanges 97 = .ok (.iinc 3 1, 3) := by decide +kernel
theorem dX8_tallyChanges_100 : decode cX8_tallyChanges 100 = .ok (.goto (-80), 3) := by decide +kernel
theorem dX8_tallyChanges_103 : decode cX8_tallyChanges 103 = .ok (.return_, 1) := by decide +kernel
theorem dX8_text_0 : decode cX8_text 0 = .ok (.iload_n 1, 1) := by decide +kernel
theorem dX8_text_1 : decode cX8_text 1 = .ok (.ifCond .lt 11, 3) := by decide +kernel
theorem dX8_text_4 : decode cX8_text 4 = .ok (.iload_n 1, 1) := by decide +kernel
theorem dX8_text_5 : decode cX8_text 5 = .ok (.aload_n 0, 1) := by decide +kernel
theorem dX8_text_6 : decode cX8_text 6 = .ok (.getfield 87, 3) := by decide +kernel
theorem dX8_text_9 : decode cX8_text 9 = .ok (.if_icmp .le 6, 3) := by decide +kernel
theorem dX8_text_12 : decode cX8_text 12 = .ok (.bipush (-2), 2) := by decide +kernel
theorem dX8_text_14 : decode cX8_text 14 = .ok (.ireturn, 1) := by decide +kernel
theorem dX8_text_15 : decode cX8_text 15 = .ok (.aload_n 0, 1) := by decide +kernel
theorem dX8_text_16 : decode cX8_text 16 = .ok (.iconst 0, 1) := by decide +kernel
theorem dX8_text_17 : decode cX8_text 17 = .ok (.putfield 87, 3) := by decide +kernel
theorem dX8_text_20 : decode cX8_text 20 = .ok (.aload_n 0, 1) := by decide +kernel
theorem dX8_text_21 : decode cX8_text 21 = .ok (.getfield 16, 3) := by decide +kernel
theorem dX8_text_24 : decode cX8_text 24 = .ok (.aload_n 0, 1) := by decide +kernel
theorem dX8_text_25 : decode cX8_text 25 = .ok (.getfield 9, 3) := by decide +kernel
theorem dX8_text_28 : decode cX8_text 28 = .ok (.iload_n 1, 1) := by decide +kernel
theorem dX8_text_29 : decode cX8_text 29 = .ok (.aload_n 0, 1) := by decide +kernel
theorem dX8_text_30 : decode cX8_text 30 = .ok (.getfield 69, 3) := by decide +kernel
theorem dX8_text_33 : decode cX8_text 33 = .ok (.invokevirtual 95, 3) := by decide +kernel
theorem dX8_text_36 : decode cX8_text 36 = .ok (.ifCond .ne 5, 3) := by decide +kernel
theorem dX8_text_39 : decode cX8_text 39 = .ok (.iconst (-1), 1) := by decide +kernel
theorem dX8_text_40 : decode cX8_text 40 = .ok (.ireturn, 1) := by decide +kernel
theorem dX8_text_41 : decode cX8_text 41 = .ok (.aload_n 0, 1) := by decide +kernel
theorem dX8_text_42 : decode cX8_text 42 = .ok (.getfield 65, 3) := by decide +kernel
theorem dX8_text_45 : decode cX8_text 45 = .ok (.astore_n 2, 1) := by decide +kernel
theorem dX8_text_46 : decode cX8_text 46 = .ok (.aload_n 0, 1) := by decide +kernel
theorem dX8_text_47 : decode cX8_text 47 = .ok (.aload_n 0, 1) := by decide +kernel
theorem dX8_text_48 : decode cX8_text 48 = .ok (.getfield 69, 3) := by decide +kernel
theorem dX8_text_51 : decode cX8_text 51 = .ok (.putfield 65, 3) := by decide +kernel
theorem dX8_text_54 : decode cX8_text 54 = .ok (.aload_n 0, 1) := by decide +kernel
theorem dX8_text_55 : decode cX8_text 55 = .ok (.aload_n 2, 1) := by decide +kernel
theorem dX8_text_56 : decode cX8_text 56 = .ok (.putfield 69, 3) := by decide +kernel
theorem dX8_text_59 : decode cX8_text 59 = .ok (.aload_n 0, 1) := by decide +kernel
theorem dX8_text_60 : decode cX8_text 60 = .ok (.getfield 77, 3) := by decide +kernel
theorem dX8_text_63 : decode cX8_text 63 = .ok (.aload_n 0, 1) := by decide +kernel
theorem dX8_text_64 : decode cX8_text 64 = .ok (.getfield 65, 3) := by decide +kernel
theorem dX8_text_67 : decode cX8_text 67 = .ok (.invokevirtual 99, 3) := by decide +kernel
theorem dX8_text_70 : decode cX8_text 70 = .ok (.aload_n 0, 1) := by decide +kernel
theorem dX8_text_71 : decode cX8_text 71 = .ok (.getfield 81, 3) := by decide +kernel
theorem dX8_text_74 : decode cX8_text 74 = .ok (.aload_n 0, 1) := by decide +kernel
theorem dX8_text_75 : decode cX8_text 75 = .ok (.getfield 65, 3) := by decide +kernel
theorem dX8_text_78 : decode cX8_text 78 = .ok (.invokevirtual 99, 3) := by decide +kernel
theorem dX8_text_81 : decode cX8_text 81 = .ok (.aload_n 0, 1) := by decide +kernel
theorem dX8_text_82 : decode cX8_text 82 = .ok (.getfield 23, 3) := by decide +kernel
theorem dX8_text_85 : decode cX8_text 85 = .ok (.invokevirtual 102, 3) := by decide +kernel
theorem dX8_text_88 : decode cX8_text 88 = .ok (.aload_n 0, 1) := by decide +kernel
theorem dX8_text_89 : decode cX8_text 89 = .ok (.getfield 48, 3) := by decide +kernel
theorem dX8_text_92 : decode cX8_text 92 = .ok (.invokevirtual 105, 3) := by decide +kernel
theorem dX8_text_95 : decode cX8_text 95 = .ok (.aload_n 0, 1) := by decide +kernel
theorem dX8_text_96 : decode cX8_text 96 = .ok (.getfield 30, 3) := by decide +kernel
theorem dX8_text_99 : decode cX8_text 99 = .ok (.invokevirtual 106, 3) := by decide +kernel
theorem dX8_text_102 : decode cX8_text 102 = .ok (.aload_n 0, 1) := by decide +kernel
theorem dX8_text_103 : decode cX8_text 103 = .ok (.getfield 16, 3) := by decide +kernel
theorem dX8_text_106 : decode cX8_text 106 = .ok (.getfield 109, 3) := by decide +kernel
theorem dX8_text_109 : decode cX8_text 109 = .ok (.ireturn, 1) := by decide +kernel
theorem dX8_timesChanged_0 : decode cX8_timesChanged 0 = .ok (.aload_n 0, 1) := by decide +kernel
theorem dX8_timesChanged_1 : decode cX8_timesChanged 1 = .ok (.getfield 81, 3) := by decide +kernel
theorem dX8_timesChanged_4 : decode cX8_timesChanged 4 = .ok (.iconst 0, 1) := by decide +kernel
theorem dX8_timesChanged_5 : decode cX8_timesChanged 5 = .ok (.putfield 226, 3) := by decide +kernel
theorem dX8_timesChanged_8 : decode cX8_timesChanged 8 = .ok (.aload_n 0, 1) := by decide +kernel
theorem dX8_timesChanged_9 : decode cX8_timesChanged 9 = .ok (.getfield 30, 3) := by decide +kernel
theorem dX8_timesChanged_12 : decode cX8_timesChanged 12 = .ok (.invokevirtual 106, 3) := by decide +kernel
theorem dX8_timesChanged_15 : decode cX8_timesChanged 15 = .ok (.return_, 1) := by decide +kernel
theorem dX8_tooLate_0 : decode cX8_tooLate 0 = .ok (.aload_n 0, 1) := by decide +kernel
theorem dX8_tooLate_1 : decode cX8_tooLate 1 = .ok (.iload_n 1, 1) := by decide +kernel
theorem dX8_tooLate_2 : decode cX8_tooLate 2 = .ok (.invokevirtual 161, 3) := by decide +kernel
theorem dX8_tooLate_5 : decode cX8_tooLate 5 = .ok (.ifCond .eq 18, 3) := by decide +kernel
theorem dX8_tooLate_8 : decode cX8_tooLate 8 = .ok (.aload_n 0, 1) := by decide +kernel
theorem dX8_tooLate_9 : decode cX8_tooLate 9 = .ok (.iload_n 2, 1) := by decide +kernel
theorem dX8_tooLate_10 : decode cX8_tooLate 10 = .ok (.invokevirtual 161, 3) := by decide +kernel
theorem dX8_tooLate_13 : decode cX8_tooLate 13 = .ok (.ifCond .eq 10, 3) := by decide +kernel
theorem dX8_tooLate_16 : decode cX8_tooLate 16 = .ok (.iload_n 3, 1) := by decide +kernel
theorem dX8_tooLate_17 : decode cX8_tooLate 17 = .ok (.invokestatic 307, 3) := by decide +kernel
theorem dX8_tooLate_20 : decode cX8_tooLate 20 = .ok (.ifCond .ne 5, 3) := by decide +kernel
theorem dX8_tooLate_23 : decode cX8_tooLate 23 = .ok (.iconst (-1), 1) := by decide +kernel
theorem dX8_tooLate_24 : decode cX8_tooLate 24 = .ok (.ireturn, 1) := by decide +kernel
theorem dX8_tooLate_25 : decode cX8_tooLate 25 = .ok (.aload_n 0, 1) := by decide +kernel
theorem dX8_tooLate_26 : decode cX8_tooLate 26 = .ok (.iload_n 1, 1) := by decide +kernel
theorem dX8_tooLate_27 : decode cX8_tooLate 27 = .ok (.iload_n 2, 1) := by decide +kernel
theorem dX8_tooLate_28 : decode cX8_tooLate 28 = .ok (.iload_n 3, 1) := by decide +kernel
theorem dX8_tooLate_29 : decode cX8_tooLate 29 = .ok (.invokevirtual 389, 3) := by decide +kernel
theorem dX8_tooLate_32 : decode cX8_tooLate 32 = .ok (.ifCond .eq 28, 3) := by decide +kernel
theorem dX8_tooLate_35 : decode cX8_tooLate 35 = .ok (.aload_n 0, 1) := by decide +kernel
theorem dX8_tooLate_36 : decode cX8_tooLate 36 = .ok (.getfield 48, 3) := by decide +kernel
theorem dX8_tooLate_39 : decode cX8_tooLate 39 = .ok (.aload_n 0, 1) := by decide +kernel
theorem dX8_tooLate_40 : decode cX8_tooLate 40 = .ok (.getfield 65, 3) := by decide +kernel
theorem dX8_tooLate_43 : decode cX8_tooLate 43 = .ok (.aload_n 0, 1) := by decide +kernel
theorem dX8_tooLate_44 : decode cX8_tooLate 44 = .ok (.getfield 54, 3) := by decide +kernel
theorem dX8_tooLate_47 : decode cX8_tooLate 47 = .ok (.getfield 384, 3) := by decide +kernel
theorem dX8_tooLate_50 : decode cX8_tooLate 50 = .ok (.iload_n 1, 1) := by decide +kernel
theorem dX8_tooLate_51 : decode cX8_tooLate 51 = .ok (.invokevirtual 396, 3) := by decide +kernel
theorem dX8_tooLate_54 : decode cX8_tooLate 54 = .ok (.ldc_w 286, 3) := by decide +kernel
theorem dX8_tooLate_57 : decode cX8_tooLate 57 = .ok (.if_icmp .lt 6, 3) := by decide +kernel
theorem dX8_tooLate_60 : decode cX8_tooLate 60 = .ok (.bipush (-2), 2) := by decide +kernel
theorem dX8_tooLate_62 : decode cX8_tooLate 62 = .ok (.ireturn, 1) := by decide +kernel
theorem dX8_tooLate_63 : decode cX8_tooLate 63 = .ok (.aload_n 0, 1) := by decide +kernel
theorem dX8_tooLate_64 : decode cX8_tooLate 64 = .ok (.getfield 48, 3) := by decide +kernel
theorem dX8_tooLate_67 : decode cX8_tooLate 67 = .ok (.aload_n 0, 1) := by decide +kernel
theorem dX8_tooLate_68 : decode cX8_tooLate 68 = .ok (.getfield 81, 3) := by decide +kernel
theorem dX8_tooLate_71 : decode cX8_tooLate 71 = .ok (.aload_n 0, 1) := by decide +kernel
theorem dX8_tooLate_72 : decode cX8_tooLate 72 = .ok (.getfield 54, 3) := by decide +kernel
theorem dX8_tooLate_75 : decode cX8_tooLate 75 = .ok (.getfield 384, 3) := by decide +kernel
theorem dX8_tooLate_78 : decode cX8_tooLate 78 = .ok (.iload_n 1, 1) := by decide +kernel
theorem dX8_tooLate_79 : decode cX8_tooLate 79 = .ok (.iload_n 3, 1) := by decide +kernel
theorem dX8_tooLate_80 : decode cX8_tooLate 80 = .ok (.invokevirtual 392, 3) := by decide +kernel
theorem dX8_tooLate_83 : decode cX8_tooLate 83 = .ok (.ineg, 1) := by decide +kernel
theorem dX8_tooLate_84 : decode cX8_tooLate 84 = .ok (.ireturn, 1) := by decide +kernel
theorem dX8_travels_0 : decode cX8_travels 0 = .ok (.aload_n 0, 1) := by decide +kernel
theorem dX8_travels_1 : decode cX8_travels 1 = .ok (.iload_n 1, 1) := by decide +kernel
theorem dX8_travels_2 : decode cX8_travels 2 = .ok (.iload_n 2, 1) := by decide +kernel
theorem dX8_travels_3 : decode cX8_travels 3 = .ok (.invokevirtual 238, 3) := by decide +kernel
theorem dX8_travels_6 : decode cX8_travels 6 = .ok (.ifCond .eq 17, 3) := by decide +kernel
theorem dX8_travels_9 : decode cX8_travels 9 = .ok (.iload_n 3, 1) := by decide +kernel
theorem dX8_travels_10 : decode cX8_travels 10 = .ok (.ifCond .lt 13, 3) := by decide +kernel
theorem dX8_travels_13 : decode cX8_travels 13 = .ok (.iload 4, 2) := by decide +kernel
theorem dX8_travels_15 : decode cX8_travels 15 = .ok (.iconst 0, 1) := by decide +kernel
theorem dX8_travels_16 : decode cX8_travels 16 = .ok (.iconst 2, 1) := by decide +kernel
theorem dX8_travels_17 : decode cX8_travels 17 = .ok (.invokestatic 179, 3) := by decide +kernel
theorem dX8_travels_20 : decode cX8_travels 20 = .ok (.ifCond .ne 5, 3) := by decide +kernel
theorem dX8_travels_23 : decode cX8_travels 23 = .ok (.iconst (-1), 1) := by decide +kernel
theorem dX8_travels_24 : decode cX8_travels 24 = .ok (.ireturn, 1) := by decide +kernel
theorem dX8_travels_25 : decode cX8_travels 25 = .ok (.aload_n 0, 1) := by decide +kernel
theorem dX8_travels_26 : decode cX8_travels 26 = .ok (.iload_n 1, 1) := by decide +kernel
theorem dX8_travels_27 : decode cX8_travels 27 = .ok (.iload_n 2, 1) := by decide +kernel
theorem dX8_travels_28 : decode cX8_travels 28 = .ok (.iload_n 3, 1) := by decide +kernel
theorem dX8_travels_29 : decode cX8_travels 29 = .ok (.invokevirtual 255, 3) := by decide +kernel
theorem dX8_travels_32 : decode cX8_travels 32 = .ok (.ifCond .ne 6, 3) := by decide +kernel
theorem dX8_travels_35 : decode cX8_travels 35 = .ok (.bipush (-2), 2) := by decide +kernel
theorem dX8_travels_37 : decode cX8_travels 37 = .ok (.ireturn, 1) := by decide +kernel
theorem dX8_travels_38 : decode cX8_travels 38 = .ok (.iload 4, 2) := by decide +kernel
theorem dX8_travels_40 : decode cX8_travels 40 = .ok (.ifCond .ne 15, 3) := by decide +kernel
theorem dX8_travels_43 : decode cX8_travels 43 = .ok (.aload_n 0, 1) := by decide +kernel
theorem dX8_travels_44 : decode cX8_travels 44 = .ok (.getfield 44, 3) := by decide +kernel
theorem dX8_travels_47 : decode cX8_travels 47 = .ok (.aload_n 0, 1) := by decide +kernel
theorem dX8_travels_48 : decode cX8_travels 48 = .ok (.getfield 81, 3) := by decide +kernel
theorem dX8_travels_51 : decode cX8_travels 51 = .ok (.invokevirtual 272, 3) := by decide +kernel
theorem dX8_travels_54 : decode cX8_travels 54 = .ok (.ireturn, 1) := by decide +kernel
theorem dX8_travels_55 : decode cX8_travels 55 = .ok (.iload 4, 2) := by decide +kernel
theorem dX8_travels_57 : decode cX8_travels 57 = .ok (.iconst 1, 1) := by decide +kernel
theorem dX8_travels_58 : decode cX8_travels 58 = .ok (.if_icmp .ne 19, 3) := by decide +kernel
theorem dX8_travels_61 : decode cX8_travels 61 = .ok (.aload_n 0, 1) := by decide +kernel
theorem dX8_travels_62 : decode cX8_travels 62 = .ok (.getfield 44, 3) := by decide +kernel
theorem dX8_travels_65 : decode cX8_travels 65 = .ok (.aload_n 0, 1) := by decide +kernel
theorem dX8_travels_66 : decode cX8_travels 66 = .ok (.getfield 65, 3) := by decide +kernel
theorem dX8_travels_69 : decode cX8_travels 69 = .ok (.iload_n 1, 1) := by decide +kernel
theorem dX8_travels_70 : decode cX8_travels 70 = .ok (.iload_n 2, 1) := by decide +kernel
theorem dX8_travels_71 : decode cX8_travels 71 = .ok (.invokevirtual 275, 3) := by decide +kernel
theorem dX8_travels_74 : decode cX8_travels 74 = .ok (.goto 10, 3) := by decide +kernel
theorem dX8_travels_77 : decode cX8_travels 77 = .ok (.aload_n 0, 1) := by decide +kernel
theorem dX8_travels_78 : decode cX8_travels 78 = .ok (.getfield 44, 3) := by decide +kernel
theorem dX8_travels_81 : decode cX8_travels 81 = .ok (.invokevirtual 279, 3) := by decide +kernel
theorem dX8_travels_84 : decode cX8_travels 84 = .ok (.ireturn, 1) := by decide +kernel
theorem dX8_undo_0 : decode cX8_undo 0 = .ok (.aload_n 0, 1) := by decide +kernel
theorem dX8_undo_1 : decode cX8_undo 1 = .ok (.getfield 23, 3) := by decide +kernel
theorem dX8_undo_4 : decode cX8_undo 4 = .ok (.aload_n 0, 1) := by decide +kernel
theorem dX8_undo_5 : decode cX8_undo 5 = .ok (.getfield 81, 3) := by decide +kernel
theorem dX8_undo_8 : decode cX8_undo 8 = .ok (.invokevirtual 219, 3) := by decide +kernel
theorem dX8_undo_11 : decode cX8_undo 11 = .ok (.ifCond .ne 5, 3) := by decide +kernel
theorem dX8_undo_14 : decode cX8_undo 14 = .ok (.iconst (-1), 1) := by decide +kernel
theorem dX8_undo_15 : decode cX8_undo 15 = .ok (.ireturn, 1) := by decide +kernel
theorem dX8_undo_16 : decode cX8_undo 16 = .ok (.aload_n 0, 1) := by decide +kernel
theorem dX8_undo_17 : decode cX8_undo 17 = .ok (.invokevirtual 200, 3) := by decide +kernel
theorem dX8_undo_20 : decode cX8_undo 20 = .ok (.aload_n 0, 1) := by decide +kernel
theorem dX8_undo_21 : decode cX8_undo 21 = .ok (.getfield 23, 3) := by decide +kernel
theorem dX8_undo_24 : decode cX8_undo 24 = .ok (.getfield 223, 3) := by decide +kernel
theorem dX8_undo_27 : decode cX8_undo 27 = .ok (.ireturn, 1) := by decide +kernel
theorem dX8_unfold_0 : decode cX8_unfold 0 = .ok (.aload_n 0, 1) := by decide +kernel
theorem dX8_unfold_1 : decode cX8_unfold 1 = .ok (.getfield 37, 3) := by decide +kernel
theorem dX8_unfold_4 : decode cX8_unfold 4 = .ok (.aload_n 0, 1) := by decide +kernel
theorem dX8_unfold_5 : decode cX8_unfold 5 = .ok (.getfield 81, 3) := by decide +kernel
theorem dX8_unfold_8 : decode cX8_unfold 8 = .ok (.aload_n 0, 1) := by decide +kernel
theorem dX8_unfold_9 : decode cX8_unfold 9 = .ok (.getfield 30, 3) := by decide +kernel
theorem dX8_unfold_12 : decode cX8_unfold 12 = .ok (.iload_n 1, 1) := by decide +kernel
theorem dX8_unfold_13 : decode cX8_unfold 13 = .ok (.iload_n 2, 1) := by decide +kernel
theorem dX8_unfold_14 : decode cX8_unfold 14 = .ok (.iconst 4, 1) := by decide +kernel
theorem dX8_unfold_15 : decode cX8_unfold 15 = .ok (.invokevirtual 241, 3) := by decide +kernel
theorem dX8_unfold_18 : decode cX8_unfold 18 = .ok (.iload_n 3, 1) := by decide +kernel
theorem dX8_unfold_19 : decode cX8_unfold 19 = .ok (.ifCond .lt 14, 3) := by decide +kernel
theorem dX8_unfold_22 : decode cX8_unfold 22 = .ok (.iload_n 3, 1) := by decide +kernel
theorem dX8_unfold_23 : decode cX8_unfold 23 = .ok (.aload_n 0, 1) := by decide +kernel
theorem dX8_unfold_24 : decode cX8_unfold 24 = .ok (.getfield 37, 3) := by decide +kernel
theorem dX8_unfold_27 : decode cX8_unfold 27 = .ok (.getfield 245, 3) := by decide +kernel
theorem dX8_unfold_30 : decode cX8_unfold 30 = .ok (.if_icmp .lt 5, 3) := by decide +kernel
theorem dX8_unfold_33 : decode cX8_unfold 33 = .ok (.iconst 0, 1) := by decide +kernel
theorem dX8_unfold_34 : decode cX8_unfold 34 = .ok (.ireturn, 1) := by decide +kernel
theorem dX8_unfold_35 : decode cX8_unfold 35 = .ok (.aload_n 0, 1) := by decide +kernel
theorem dX8_unfold_36 : decode cX8_unfold 36 = .ok (.getfield 37, 3) := by decide +kernel
theorem dX8_unfold_39 : decode cX8_unfold 39 = .ok (.iload_n 3, 1) := by decide +kernel
theorem dX8_unfold_40 : decode cX8_unfold 40 = .ok (.aload_n 0, 1) := by decide +kernel
theorem dX8_unfold_41 : decode cX8_unfold 41 = .ok (.getfield 30, 3) := by decide +kernel
theorem dX8_unfold_44 : decode cX8_unfold 44 = .ok (.aload_n 0, 1) := by decide +kernel
theorem dX8_unfold_45 : decode cX8_unfold 45 = .ok (.getfield 44, 3) := by decide +kernel
theorem dX8_unfold_48 : decode cX8_unfold 48 = .ok (.invokevirtual 265, 3) := by decide +kernel
theorem dX8_unfold_51 : decode cX8_unfold 51 = .ok (.iconst 1, 1) := by decide +kernel
theorem dX8_unfold_52 : decode cX8_unfold 52 = .ok (.ireturn, 1) := by decide +kernel
theorem dX8_uses_0 : decode cX8_uses 0 = .ok (.aload_n 0, 1) := by decide +kernel
theorem dX8_uses_1 : decode cX8_uses 1 = .ok (.iload_n 1, 1) := by decide +kernel
theorem dX8_uses_2 : decode cX8_uses 2 = .ok (.invokevirtual 287, 3) := by decide +kernel
theorem dX8_uses_5 : decode cX8_uses 5 = .ok (.ifCond .eq 11, 3) := by decide +kernel
theorem dX8_uses_8 : decode cX8_uses 8 = .ok (.aload_n 0, 1) := by decide +kernel
theorem dX8_uses_9 : decode cX8_uses 9 = .ok (.iload_n 2, 1) := by decide +kernel
theorem dX8_uses_10 : decode cX8_uses 10 = .ok (.invokevirtual 161, 3) := by decide +kernel
theorem dX8_uses_13 : decode cX8_uses 13 = .ok (.ifCond .ne 5, 3) := by decide +kernel
theorem dX8_uses_16 : decode cX8_uses 16 = .ok (.iconst (-1), 1) := by decide +kernel
theorem dX8_uses_17 : decode cX8_uses 17 = .ok (.ireturn, 1) := by decide +kernel
theorem dX8_uses_18 : decode cX8_uses 18 = .ok (.aload_n 0, 1) := by decide +kernel
theorem dX8_uses_19 : decode cX8_uses 19 = .ok (.iload_n 2, 1) := by decide +kernel
theorem dX8_uses_20 : decode cX8_uses 20 = .ok (.iload_n 1, 1) := by decide +kernel
theorem dX8_uses_21 : decode cX8_uses 21 = .ok (.iconst 0, 1) := by decide +kernel
theorem dX8_uses_22 : decode cX8_uses 22 = .ok (.invokevirtual 290, 3) := by decide +kernel
theorem dX8_uses_25 : decode cX8_uses 25 = .ok (.ireturn, 1) := by decide +kernel
theorem dX8_via_0 : decode cX8_via 0 = .ok (.aload_n 0, 1) := by decide +kernel
theorem dX8_via_1 : decode cX8_via 1 = .ok (.iload_n 1, 1) := by decide +kernel
theorem dX8_via_2 : decode cX8_via 2 = .ok (.invokevirtual 161, 3) := by decide +kernel
theorem dX8_via_5 : decode cX8_via 5 = .ok (.ifCond .eq 27, 3) := by decide +kernel
theorem dX8_via_8 : decode cX8_via 8 = .ok (.aload_n 0, 1) := by decide +kernel
theorem dX8_via_9 : decode cX8_via 9 = .ok (.iload_n 2, 1) := by decide +kernel
theorem dX8_via_10 : decode cX8_via 10 = .ok (.invokevirtual 161, 3) := by decide +kernel
theorem dX8_via_13 : decode cX8_via 13 = .ok (.ifCond .eq 19, 3) := by decide +kernel
theorem dX8_via_16 : decode cX8_via 16 = .ok (.aload_n 0, 1) := by decide +kernel
theorem dX8_via_17 : decode cX8_via 17 = .ok (.iload_n 3, 1) := by decide +kernel
theorem dX8_via_18 : decode cX8_via 18 = .ok (.invokevirtual 161, 3) := by decide +kernel
theorem dX8_via_21 : decode cX8_via 21 = .ok (.ifCond .eq 11, 3) := by decide +kernel
theorem dX8_via_24 : decode cX8_via 24 = .ok (.iload 4, 2) := by decide +kernel
theorem dX8_via_26 : decode cX8_via 26 = .ok (.invokestatic 307, 3) := by decide +kernel
theorem dX8_via_29 : decode cX8_via 29 = .ok (.ifCond .ne 5, 3) := by decide +kernel
theorem dX8_via_32 : decode cX8_via 32 = .ok (.iconst (-1), 1) := by decide +kernel
theorem dX8_via_33 : decode cX8_via 33 = .ok (.ireturn, 1) := by decide +kernel
theorem dX8_via_34 : decode cX8_via 34 = .ok (.aload_n 0, 1) := by decide +kernel
theorem dX8_via_35 : decode cX8_via 35 = .ok (.getfield 81, 3) := by decide +kernel
theorem dX8_via_38 : decode cX8_via 38 = .ok (.iload_n 1, 1) := by decide +kernel
theorem dX8_via_39 : decode cX8_via 39 = .ok (.iload_n 2, 1) := by decide +kernel
theorem dX8_via_40 : decode cX8_via 40 = .ok (.iload 4, 2) := by decide +kernel
theorem dX8_via_42 : decode cX8_via 42 = .ok (.iconst 4, 1) := by decide +kernel
theorem dX8_via_43 : decode cX8_via 43 = .ok (.lconst 0, 1) := by decide +kernel
theorem dX8_via_44 : decode cX8_via 44 = .ok (.invokevirtual 310, 3) := by decide +kernel
theorem dX8_via_47 : decode cX8_via 47 = .ok (.istore 5, 2) := by decide +kernel
theorem dX8_via_49 : decode cX8_via 49 = .ok (.iload 5, 2) := by decide +kernel
theorem dX8_via_51 : decode cX8_via 51 = .ok (.ldc_w 286, 3) := by decide +kernel
theorem dX8_via_54 : decode cX8_via 54 = .ok (.if_icmp .lt 6, 3) := by decide +kernel
theorem dX8_via_57 : decode cX8_via 57 = .ok (.bipush (-2), 2) := by decide +kernel
theorem dX8_via_59 : decode cX8_via 59 = .ok (.ireturn, 1) := by decide +kernel
theorem dX8_via_60 : decode cX8_via 60 = .ok (.aload_n 0, 1) := by decide +kernel
theorem dX8_via_61 : decode cX8_via 61 = .ok (.getfield 81, 3) := by decide +kernel
theorem dX8_via_64 : decode cX8_via 64 = .ok (.iload_n 2, 1) := by decide +kernel
theorem dX8_via_65 : decode cX8_via 65 = .ok (.iload_n 3, 1) := by decide +kernel
theorem dX8_via_66 : decode cX8_via 66 = .ok (.iload 5, 2) := by decide +kernel
theorem dX8_via_68 : decode cX8_via 68 = .ok (.iconst 4, 1) := by decide +kernel
theorem dX8_via_69 : decode cX8_via 69 = .ok (.lconst 0, 1) := by decide +kernel
theorem dX8_via_70 : decode cX8_via 70 = .ok (.invokevirtual 310, 3) := by decide +kernel
theorem dX8_via_73 : decode cX8_via 73 = .ok (.invokestatic 168, 3) := by decide +kernel
theorem dX8_via_76 : decode cX8_via 76 = .ok (.ireturn, 1) := by decide +kernel
theorem dX8_waits_0 : decode cX8_waits 0 = .ok (.aload_n 0, 1) := by decide +kernel
theorem dX8_waits_1 : decode cX8_waits 1 = .ok (.iload_n 1, 1) := by decide +kernel
theorem dX8_waits_2 : decode cX8_waits 2 = .ok (.iload_n 2, 1) := by decide +kernel
theorem dX8_waits_3 : decode cX8_waits 3 = .ok (.invokevirtual 238, 3) := by decide +kernel
theorem dX8_waits_6 : decode cX8_waits 6 = .ok (.ifCond .eq 17, 3) := by decide +kernel
theorem dX8_waits_9 : decode cX8_waits 9 = .ok (.iload_n 3, 1) := by decide +kernel
theorem dX8_waits_10 : decode cX8_waits 10 = .ok (.ifCond .lt 13, 3) := by decide +kernel
theorem dX8_waits_13 : decode cX8_waits 13 = .ok (.iload 4, 2) := by decide +kernel
theorem dX8_waits_15 : decode cX8_waits 15 = .ok (.iconst 0, 1) := by decide +kernel
theorem dX8_waits_16 : decode cX8_waits 16 = .ok (.iconst 1, 1) := by decide +kernel
theorem dX8_waits_17 : decode cX8_waits 17 = .ok (.invokestatic 179, 3) := by decide +kernel
theorem dX8_waits_20 : decode cX8_waits 20 = .ok (.ifCond .ne 5, 3) := by decide +kernel
theorem dX8_waits_23 : decode cX8_waits 23 = .ok (.iconst (-1), 1) := by decide +kernel
theorem dX8_waits_24 : decode cX8_waits 24 = .ok (.ireturn, 1) := by decide +kernel
theorem dX8_waits_25 : decode cX8_waits 25 = .ok (.aload_n 0, 1) := by decide +kernel
theorem dX8_waits_26 : decode cX8_waits 26 = .ok (.iload_n 1, 1) := by decide +kernel
theorem dX8_waits_27 : decode cX8_waits 27 = .ok (.iload_n 2, 1) := by decide +kernel
theorem dX8_waits_28 : decode cX8_waits 28 = .ok (.iload_n 3, 1) := by decide +kernel
theorem dX8_waits_29 : decode cX8_waits 29 = .ok (.invokevirtual 255, 3) := by decide +kernel
theorem dX8_waits_32 : decode cX8_waits 32 = .ok (.ifCond .ne 6, 3) := by decide +kernel
theorem dX8_waits_35 : decode cX8_waits 35 = .ok (.bipush (-2), 2) := by decide +kernel
theorem dX8_waits_37 : decode cX8_waits 37 = .ok (.ireturn, 1) := by decide +kernel
theorem dX8_waits_38 : decode cX8_waits 38 = .ok (.iload 4, 2) := by decide +kernel
theorem dX8_waits_40 : decode cX8_waits 40 = .ok (.iconst 1, 1) := by decide +kernel
theorem dX8_waits_41 : decode cX8_waits 41 = .ok (.if_icmp .ne 31, 3) := by decide +kernel
theorem dX8_waits_44 : decode cX8_waits 44 = .ok (.aload_n 0, 1) := by decide +kernel
theorem dX8_waits_45 : decode cX8_waits 45 = .ok (.getfield 44, 3) := by decide +kernel
theorem dX8_waits_48 : decode cX8_waits 48 = .ok (.getfield 258, 3) := by decide +kernel
theorem dX8_waits_51 : decode cX8_waits 51 = .ok (.iconst 2, 1) := by decide +kernel
theorem dX8_waits_52 : decode cX8_waits 52 = .ok (.if_icmp .ge 8, 3) := by decide +kernel
theorem dX8_waits_55 : decode cX8_waits 55 = .ok (.bipush (-2), 2) := by decide +kernel
theorem dX8_waits_57 : decode cX8_waits 57 = .ok (.goto 14, 3) := by decide +kernel
theorem dX8_waits_60 : decode cX8_waits 60 = .ok (.aload_n 0, 1) := by decide +kernel
theorem dX8_waits_61 : decode cX8_waits 61 = .ok (.getfield 44, 3) := by decide +kernel
theorem dX8_waits_64 : decode cX8_waits 64 = .ok (.aload_n 0, 1) := by decide +kernel
theorem dX8_waits_65 : decode cX8_waits 65 = .ok (.getfield 81, 3) := by decide +kernel
theorem dX8_waits_68 : decode cX8_waits 68 = .ok (.invokevirtual 268, 3) := by decide +kernel
theorem dX8_waits_71 : decode cX8_waits 71 = .ok (.ireturn, 1) := by decide +kernel
theorem dX8_waits_72 : decode cX8_waits 72 = .ok (.aload_n 0, 1) := by decide +kernel
theorem dX8_waits_73 : decode cX8_waits 73 = .ok (.getfield 37, 3) := by decide +kernel
theorem dX8_waits_76 : decode cX8_waits 76 = .ok (.iload_n 3, 1) := by decide +kernel
theorem dX8_waits_77 : decode cX8_waits 77 = .ok (.invokevirtual 249, 3) := by decide +kernel
theorem dX8_waits_80 : decode cX8_waits 80 = .ok (.aload_n 0, 1) := by decide +kernel
theorem dX8_waits_81 : decode cX8_waits 81 = .ok (.getfield 37, 3) := by decide +kernel
theorem dX8_waits_84 : decode cX8_waits 84 = .ok (.iload_n 3, 1) := by decide +kernel
theorem dX8_waits_85 : decode cX8_waits 85 = .ok (.invokevirtual 246, 3) := by decide +kernel
theorem dX8_waits_88 : decode cX8_waits 88 = .ok (.isub, 1) := by decide +kernel
theorem dX8_waits_89 : decode cX8_waits 89 = .ok (.istore 5, 2) := by decide +kernel
theorem dX8_waits_91 : decode cX8_waits 91 = .ok (.iload 5, 2) := by decide +kernel
theorem dX8_waits_93 : decode cX8_waits 93 = .ok (.aload_n 0, 1) := by decide +kernel
theorem dX8_waits_94 : decode cX8_waits 94 = .ok (.getfield 44, 3) := by decide +kernel
theorem dX8_waits_97 : decode cX8_waits 97 = .ok (.aload_n 0, 1) := by decide +kernel
theorem dX8_waits_98 : decode cX8_waits 98 = .ok (.getfield 81, 3) := by decide +kernel
theorem dX8_waits_101 : decode cX8_waits 101 = .ok (.invokevirtual 272, 3) := by decide +kernel
theorem dX8_waits_104 : decode cX8_waits 104 = .ok (.isub, 1) := by decide +kernel
theorem dX8_waits_105 : decode cX8_waits 105 = .ok (.aload_n 0, 1) := by decide +kernel
theorem dX8_waits_106 : decode cX8_waits 106 = .ok (.getfield 44, 3) := by decide +kernel
theorem dX8_waits_109 : decode cX8_waits 109 = .ok (.aload_n 0, 1) := by decide +kernel
theorem dX8_waits_110 : decode cX8_waits 110 = .ok (.getfield 65, 3) := by decide +kernel
theorem dX8_waits_113 : decode cX8_waits 113 = .ok (.iload_n 1, 1) := by decide +kernel
theorem dX8_waits_114 : decode cX8_waits 114 = .ok (.iload_n 2, 1) := by decide +kernel
theorem dX8_waits_115 : decode cX8_waits 115 = .ok (.invokevirtual 275, 3) := by decide +kernel
theorem dX8_waits_118 : decode cX8_waits 118 = .ok (.isub, 1) := by decide +kernel
theorem dX8_waits_119 : decode cX8_waits 119 = .ok (.ireturn, 1) := by decide +kernel
theorem dX8_walk_0 : decode cX8_walk 0 = .ok (.aload_n 0, 1) := by decide +kernel
theorem dX8_walk_1 : decode cX8_walk 1 = .ok (.iload_n 1, 1) := by decide +kernel
theorem dX8_walk_2 : decode cX8_walk 2 = .ok (.invokevirtual 161, 3) := by decide +kernel
theorem dX8_walk_5 : decode cX8_walk 5 = .ok (.ifCond .eq 11, 3) := by decide +kernel
theorem dX8_walk_8 : decode cX8_walk 8 = .ok (.aload_n 0, 1) := by decide +kernel
theorem dX8_walk_9 : decode cX8_walk 9 = .ok (.iload_n 2, 1) := by decide +kernel
theorem dX8_walk_10 : decode cX8_walk 10 = .ok (.invokevirtual 161, 3) := by decide +kernel
theorem dX8_walk_13 : decode cX8_walk 13 = .ok (.ifCond .ne 5, 3) := by decide +kernel
theorem dX8_walk_16 : decode cX8_walk 16 = .ok (.iconst (-1), 1) := by decide +kernel
theorem dX8_walk_17 : decode cX8_walk 17 = .ok (.ireturn, 1) := by decide +kernel
theorem dX8_walk_18 : decode cX8_walk 18 = .ok (.aload_n 0, 1) := by decide +kernel
theorem dX8_walk_19 : decode cX8_walk 19 = .ok (.getfield 65, 3) := by decide +kernel
theorem dX8_walk_22 : decode cX8_walk 22 = .ok (.getfield 164, 3) := by decide +kernel
theorem dX8_walk_25 : decode cX8_walk 25 = .ok (.iload_n 1, 1) := by decide +kernel
theorem dX8_walk_26 : decode cX8_walk 26 = .ok (.aaload, 1) := by decide +kernel
theorem dX8_walk_27 : decode cX8_walk 27 = .ok (.iload_n 2, 1) := by decide +kernel
theorem dX8_walk_28 : decode cX8_walk 28 = .ok (.iaload, 1) := by decide +kernel
theorem dX8_walk_29 : decode cX8_walk 29 = .ok (.invokestatic 168, 3) := by decide +kernel
theorem dX8_walk_32 : decode cX8_walk 32 = .ok (.ireturn, 1) := by decide +kernel
theorem dX8_within_0 : decode cX8_within 0 = .ok (.iload_n 0, 1) := by decide +kernel
theorem dX8_within_1 : decode cX8_within 1 = .ok (.iload_n 1, 1) := by decide +kernel
theorem dX8_within_2 : decode cX8_within 2 = .ok (.if_icmp .lt 12, 3) := by decide +kernel
theorem dX8_within_5 : decode cX8_within 5 = .ok (.iload_n 0, 1) := by decide +kernel
theorem dX8_within_6 : decode cX8_within 6 = .ok (.iload_n 2, 1) := by decide +kernel
theorem dX8_within_7 : decode cX8_within 7 = .ok (.if_icmp .gt 7, 3) := by decide +kernel
theorem dX8_within_10 : decode cX8_within 10 = .ok (.iconst 1, 1) := by decide +kernel
theorem dX8_within_11 : decode cX8_within 11 = .ok (.goto 4, 3) := by decide +kernel
theorem dX8_within_14 : decode cX8_within 14 = .ok (.iconst 0, 1) := by decide +kernel
theorem dX8_within_15 : decode cX8_within 15 = .ok (.ireturn, 1) := by decide +kernel
theorem dX9_areFit_0 : decode cX9_areFit 0 = .ok (.aload_n 0, 1) := by decide +kernel
theorem dX9_areFit_1 : decode cX9_areFit 1 = .ok (.iload_n 1, 1) := by decide +kernel
theorem dX9_areFit_2 : decode cX9_areFit 2 = .ok (.invokevirtual 213, 3) := by decide +kernel
theorem dX9_areFit_5 : decode cX9_areFit 5 = .ok (.ifCond .eq 22, 3) := by decide +kernel
theorem dX9_areFit_8 : decode cX9_areFit 8 = .ok (.aload_n 0, 1) := by decide +kernel
theorem dX9_areFit_9 : decode cX9_areFit 9 = .ok (.iload_n 2, 1) := by decide +kernel
theorem dX9_areFit_10 : decode cX9_areFit 10 = .ok (.invokevirtual 213, 3) := by decide +kernel
theorem dX9_areFit_13 : decode cX9_areFit 13 = .ok (.ifCond .eq 14, 3) := by decide +kernel
theorem dX9_areFit_16 : decode cX9_areFit 16 = .ok (.iload_n 3, 1) := by decide +kernel
theorem dX9_areFit_17 : decode cX9_areFit 17 = .ok (.invokestatic 320, 3) := by decide +kernel
theorem dX9_areFit_20 : decode cX9_areFit 20 = .ok (.ifCond .eq 7, 3) := by decide +kernel
theorem dX9_areFit_23 : decode cX9_areFit 23 = .ok (.iconst 1, 1) := by decide +kernel
theorem dX9_areFit_24 : decode cX9_areFit 24 = .ok (.goto 4, 3) := by decide +kernel
theorem dX9_areFit_27 : decode cX9_areFit 27 = .ok (.iconst 0, 1) := by decide +kernel
theorem dX9_areFit_28 : decode cX9_areFit 28 = .ok (.ireturn, 1) := by decide +kernel
theorem dX9_areTwo_0 : decode cX9_areTwo 0 = .ok (.aload_n 0, 1) := by decide +kernel
theorem dX9_areTwo_1 : decode cX9_areTwo 1 = .ok (.iload_n 1, 1) := by decide +kernel
theorem dX9_areTwo_2 : decode cX9_areTwo 2 = .ok (.invokevirtual 213, 3) := by decide +kernel
theorem dX9_areTwo_5 : decode cX9_areTwo 5 = .ok (.ifCond .eq 20, 3) := by decide +kernel
theorem dX9_areTwo_8 : decode cX9_areTwo 8 = .ok (.aload_n 0, 1) := by decide +kernel
theorem dX9_areTwo_9 : decode cX9_areTwo 9 = .ok (.iload_n 2, 1) := by decide +kernel
theorem dX9_areTwo_10 : decode cX9_areTwo 10 = .ok (.invokevirtual 213, 3) := by decide +kernel
theorem dX9_areTwo_13 : decode cX9_areTwo 13 = .ok (.ifCond .eq 12, 3) := by decide +kernel
theorem dX9_areTwo_16 : decode cX9_areTwo 16 = .ok (.iload_n 1, 1) := by decide +kernel
theorem dX9_areTwo_17 : decode cX9_areTwo 17 = .ok (.iload_n 2, 1) := by decide +kernel
theorem dX9_areTwo_18 : decode cX9_areTwo 18 = .ok (.if_icmp .eq 7, 3) := by decide +kernel
theorem dX9_areTwo_21 : decode cX9_areTwo 21 = .ok (.iconst 1, 1) := by decide +kernel
theorem dX9_areTwo_22 : decode cX9_areTwo 22 = .ok (.goto 4, 3) := by decide +kernel
theorem dX9_areTwo_25 : decode cX9_areTwo 25 = .ok (.iconst 0, 1) := by decide +kernel
theorem dX9_areTwo_26 : decode cX9_areTwo 26 = .ok (.ireturn, 1) := by decide +kernel
theorem dX9_arrives_0 : decode cX9_arrives 0 = .ok (.ldc 175, 2) := by decide +kernel
theorem dX9_arrives_2 : decode cX9_arrives 2 = .ok (.istore 4, 2) := by decide +kernel
theorem dX9_arrives_4 : decode cX9_arrives 4 = .ok (.iconst 0, 1) := by decide +kernel
theorem dX9_arrives_5 : decode cX9_arrives 5 = .ok (.istore 5, 2) := by decide +kernel
theorem dX9_arrives_7 : decode cX9_arrives 7 = .ok (.iload 5, 2) := by decide +kernel
theorem dX9_arrives_9 : decode cX9_arrives 9 = .ok (.aload_n 0, 1) := by decide +kernel
theorem dX9_arrives_10 : decode cX9_arrives 10 = .ok (.invokevirtual 198, 3) := by decide +kernel
theorem dX9_arrives_13 : decode cX9_arrives 13 = .ok (.if_icmp .ge 68, 3) := by decide +kernel
theorem dX9_arrives_16 : decode cX9_arrives 16 = .ok (.aload_n 0, 1) := by decide +kernel
theorem dX9_arrives_17 : decode cX9_arrives 17 = .ok (.aload_n 0, 1) := by decide +kernel
theorem dX9_arrives_18 : decode cX9_arrives 18 = .ok (.iload 5, 2) := by decide +kernel
theorem dX9_arrives_20 : decode cX9_arrives 20 = .ok (.iconst 2, 1) := by decide +kernel
theorem dX9_arrives_21 : decode cX9_arrives 21 = .ok (.invokevirtual 201, 3) := by decide +kernel
theorem dX9_arrives_24 : decode cX9_arrives 24 = .ok (.iload_n 3, 1) := by decide +kernel
theorem dX9_arrives_25 : decode cX9_arrives 25 = .ok (.invokevirtual 216, 3) := by decide +kernel
theorem dX9_arrives_28 : decode cX9_arrives 28 = .ok (.istore 6, 2) := by decide +kernel
theorem dX9_arrives_30 : decode cX9_arrives 30 = .ok (.lload_n 1, 1) := by decide +kernel
theorem dX9_arrives_31 : decode cX9_arrives 31 = .ok (.iload 5, 2) := by decide +kernel
theorem dX9_arrives_33 : decode cX9_arrives 33 = .ok (.lshr, 1) := by decide +kernel
theorem dX9_arrives_34 : decode cX9_arrives 34 = .ok (.lconst 1, 1) := by decide +kernel
theorem dX9_arrives_35 : decode cX9_arrives 35 = .ok (.land, 1) := by decide +kernel
theorem dX9_arrives_36 : decode cX9_arrives 36 = .ok (.lconst 1, 1) := by decide +kernel
theorem dX9_arrives_37 : decode cX9_arrives 37 = .ok (.lcmp, 1) := by decide +kernel
theorem dX9_arrives_38 : decode cX9_arrives 38 = .ok (.ifCond .ne 37, 3) := by decide +kernel
theorem dX9_arrives_41 : decode cX9_arrives 41 = .ok (.iload 6, 2) := by decide +kernel
theorem dX9_arrives_43 : decode cX9_arrives 43 = .ok (.ldc 175, 2) := by decide +kernel
theorem dX9_arrives_45 : decode cX9_arrives 45 = .ok (.if_icmp .ge 30, 3) := by decide +kernel
theorem dX9_arrives_48 : decode cX9_arrives 48 = .ok (.aload_n 0, 1) := by decide +kernel
theorem dX9_arrives_49 : decode cX9_arrives 49 = .ok (.getfield 39, 3) := by decide +kernel
theorem dX9_arrives_52 : decode cX9_arrives 52 = .ok (.iload 5, 2) := by decide +kernel
theorem dX9_arrives_54 : decode cX9_arrives 54 = .ok (.iaload, 1) := by decide +kernel
theorem dX9_arrives_55 : decode cX9_arrives 55 = .ok (.iload 6, 2) := by decide +kernel
theorem dX9_arrives_57 : decode cX9_arrives 57 = .ok (.iadd, 1) := by decide +kernel
theorem dX9_arrives_58 : decode cX9_arrives 58 = .ok (.iload 4, 2) := by decide +kernel
theorem dX9_arrives_60 : decode cX9_arrives 60 = .ok (.if_icmp .ge 15, 3) := by decide +kernel
theorem dX9_arrives_63 : decode cX9_arrives 63 = .ok (.aload_n 0, 1) := by decide +kernel
theorem dX9_arrives_64 : decode cX9_arrives 64 = .ok (.getfield 39, 3) := by decide +kernel
theorem dX9_arrives_67 : decode cX9_arrives 67 = .ok (.iload 5, 2) := by decide +kernel
theorem dX9_arrives_69 : decode cX9_arrives 69 = .ok (.iaload, 1) := by decide +kernel
theorem dX9_arrives_70 : decode cX9_arrives 70 = .ok (.iload 6, 2) := by decide +kernel
theorem dX9_arrives_72 : decode cX9_arrives 72 = .ok (.iadd, 1) := by decide +kernel
theorem dX9_arrives_73 : decode cX9_arrives 73 = .ok (.istore 4, 2) := by decide +kernel
theorem dX9_arrives_75 : decode cX9_arrives 75 = .ok (.iinc 5 1, 3) := by decide +kernel
theorem dX9_arrives_78 : decode cX9_arrives 78 = .ok (.goto (-71), 3) := by decide +kernel
theorem dX9_arrives_81 : decode cX9_arrives 81 = .ok (.iload 4, 2) := by decide +kernel
theorem dX9_arrives_83 : decode cX9_arrives 83 = .ok (.ireturn, 1) := by decide +kernel
theorem dX9_at_0 : decode cX9_at 0 = .ok (.aload_n 0, 1) := by decide +kernel
theorem dX9_at_1 : decode cX9_at 1 = .ok (.iconst 0, 1) := by decide +kernel
theorem dX9_at_2 : decode cX9_at 2 = .ok (.putfield 85, 3) := by decide +kernel
theorem dX9_at_5 : decode cX9_at 5 = .ok (.aload_n 0, 1) := by decide +kernel
theorem dX9_at_6 : decode cX9_at 6 = .ok (.iload_n 1, 1) := by decide +kernel
theorem dX9_at_7 : decode cX9_at 7 = .ok (.iload_n 2, 1) := by decide +kernel
theorem dX9_at_8 : decode cX9_at 8 = .ok (.invokevirtual 287, 3) := by decide +kernel
theorem dX9_at_11 : decode cX9_at 11 = .ok (.ifCond .eq 18, 3) := by decide +kernel
theorem dX9_at_14 : decode cX9_at 14 = .ok (.iload_n 3, 1) := by decide +kernel
theorem dX9_at_15 : decode cX9_at 15 = .ok (.ifCond .lt 14, 3) := by decide +kernel
theorem dX9_at_18 : decode cX9_at 18 = .ok (.iload 4, 2) := by decide +kernel
theorem dX9_at_20 : decode cX9_at 20 = .ok (.ifCond .lt 9, 3) := by decide +kernel
theorem dX9_at_23 : decode cX9_at 23 = .ok (.iload 4, 2) := by decide +kernel
theorem dX9_at_25 : decode cX9_at 25 = .ok (.iconst 2, 1) := by decide +kernel
theorem dX9_at_26 : decode cX9_at 26 = .ok (.if_icmp .le 5, 3) := by decide +kernel
theorem dX9_at_29 : decode cX9_at 29 = .ok (.iconst (-1), 1) := by decide +kernel
theorem dX9_at_30 : decode cX9_at 30 = .ok (.ireturn, 1) := by decide +kernel
theorem dX9_at_31 : decode cX9_at 31 = .ok (.aload_n 0, 1) := by decide +kernel
theorem dX9_at_32 : decode cX9_at 32 = .ok (.invokevirtual 290, 3) := by decide +kernel
theorem dX9_at_35 : decode cX9_at 35 = .ok (.aload_n 0, 1) := by decide +kernel
theorem dX9_at_36 : decode cX9_at 36 = .ok (.iload_n 1, 1) := by decide +kernel
theorem dX9_at_37 : decode cX9_at 37 = .ok (.iload_n 2, 1) := by decide +kernel
theorem dX9_at_38 : decode cX9_at 38 = .ok (.invokevirtual 293, 3) := by decide +kernel
theorem dX9_at_41 : decode cX9_at 41 = .ok (.iload_n 3, 1) := by decide +kernel
theorem dX9_at_42 : decode cX9_at 42 = .ok (.aload_n 0, 1) := by decide +kernel
theorem dX9_at_43 : decode cX9_at 43 = .ok (.getfield 278, 3) := by decide +kernel
theorem dX9_at_46 : decode cX9_at 46 = .ok (.if_icmp .lt 6, 3) := by decide +kernel
theorem dX9_at_49 : decode cX9_at 49 = .ok (.bipush (-2), 2) := by decide +kernel
theorem dX9_at_51 : decode cX9_at 51 = .ok (.ireturn, 1) := by decide +kernel
theorem dX9_at_52 : decode cX9_at 52 = .ok (.iload 4, 2) := by decide +kernel
theorem dX9_at_54 : decode cX9_at 54 = .ok (.ifCond .ne 17, 3) := by decide +kernel
theorem dX9_at_57 : decode cX9_at 57 = .ok (.aload_n 0, 1) := by decide +kernel
theorem dX9_at_58 : decode cX9_at 58 = .ok (.getfield 45, 3) := by decide +kernel
theorem dX9_at_61 : decode cX9_at 61 = .ok (.aload_n 0, 1) := by decide +kernel
theorem dX9_at_62 : decode cX9_at 62 = .ok (.getfield 54, 3) := by decide +kernel
theorem dX9_at_65 : decode cX9_at 65 = .ok (.iload_n 3, 1) := by decide +kernel
theorem dX9_at_66 : decode cX9_at 66 = .ok (.iaload, 1) := by decide +kernel
theorem dX9_at_67 : decode cX9_at 67 = .ok (.iaload, 1) := by decide +kernel
theorem dX9_at_68 : decode cX9_at 68 = .ok (.goto 34, 3) := by decide +kernel
theorem dX9_at_71 : decode cX9_at 71 = .ok (.iload 4, 2) := by decide +kernel
theorem dX9_at_73 : decode cX9_at 73 = .ok (.iconst 1, 1) := by decide +kernel
theorem dX9_at_74 : decode cX9_at 74 = .ok (.if_icmp .ne 17, 3) := by decide +kernel
theorem dX9_at_77 : decode cX9_at 77 = .ok (.aload_n 0, 1) := by decide +kernel
theorem dX9_at_78 : decode cX9_at 78 = .ok (.getfield 48, 3) := by decide +kernel
theorem dX9_at_81 : decode cX9_at 81 = .ok (.aload_n 0, 1) := by decide +kernel
theorem dX9_at_82 : decode cX9_at 82 = .ok (.getfield 54, 3) := by decide +kernel
theorem dX9_at_85 : decode cX9_at 85 = .ok (.iload_n 3, 1) := by decide +kernel
theorem dX9_at_86 : decode cX9_at 86 = .ok (.iaload, 1) := by decide +kernel
theorem dX9_at_87 : decode cX9_at 87 = .ok (.iaload, 1) := by decide +kernel
theorem dX9_at_88 : decode cX9_at 88 = .ok (.goto 14, 3) := by decide +kernel
theorem dX9_at_91 : decode cX9_at 91 = .ok (.aload_n 0, 1) := by decide +kernel
theorem dX9_at_92 : decode cX9_at 92 = .ok (.getfield 51, 3) := by decide +kernel
theorem dX9_at_95 : decode cX9_at 95 = .ok (.aload_n 0, 1) := by decide +kernel
theorem dX9_at_96 : decode cX9_at 96 = .ok (.getfield 54, 3) := by decide +kernel
theorem dX9_at_99 : decode cX9_at 99 = .ok (.iload_n 3, 1) := by decide +kernel
theorem dX9_at_100 : decode cX9_at 100 = .ok (.iaload, 1) := by decide +kernel
theorem dX9_at_101 : decode cX9_at 101 = .ok (.iaload, 1) := by decide +kernel
theorem dX9_at_102 : decode cX9_at 102 = .ok (.ireturn, 1) := by decide +kernel
theorem dX9_atBy_0 : decode cX9_atBy 0 = .ok (.aload_n 0, 1) := by decide +kernel
theorem dX9_atBy_1 : decode cX9_atBy 1 = .ok (.iconst 0, 1) := by decide +kernel
theorem dX9_atBy_2 : decode cX9_atBy 2 = .ok (.putfield 85, 3) := by decide +kernel
theorem dX9_atBy_5 : decode cX9_atBy 5 = .ok (.aload_n 0, 1) := by decide +kernel
theorem dX9_atBy_6 : decode cX9_atBy 6 = .ok (.iload_n 1, 1) := by decide +kernel
theorem dX9_atBy_7 : decode cX9_atBy 7 = .ok (.iload_n 2, 1) := by decide +kernel
theorem dX9_atBy_8 : decode cX9_atBy 8 = .ok (.invokevirtual 287, 3) := by decide +kernel
theorem dX9_atBy_11 : decode cX9_atBy 11 = .ok (.ifCond .eq 28, 3) := by decide +kernel
theorem dX9_atBy_14 : decode cX9_atBy 14 = .ok (.iload_n 3, 1) := by decide +kernel
theorem dX9_atBy_15 : decode cX9_atBy 15 = .ok (.ifCond .lt 24, 3) := by decide +kernel
theorem dX9_atBy_18 : decode cX9_atBy 18 = .ok (.iload_n 3, 1) := by decide +kernel
theorem dX9_atBy_19 : decode cX9_atBy 19 = .ok (.iconst 4, 1) := by decide +kernel
theorem dX9_atBy_20 : decode cX9_atBy 20 = .ok (.if_icmp .gt 19, 3) := by decide +kernel
theorem dX9_atBy_23 : decode cX9_atBy 23 = .ok (.iload 4, 2) := by decide +kernel
theorem dX9_atBy_25 : decode cX9_atBy 25 = .ok (.ifCond .lt 14, 3) := by decide +kernel
theorem dX9_atBy_28 : decode cX9_atBy 28 = .ok (.iload 5, 2) := by decide +kernel
theorem dX9_atBy_30 : decode cX9_atBy 30 = .ok (.ifCond .lt 9, 3) := by decide +kernel
theorem dX9_atBy_33 : decode cX9_atBy 33 = .ok (.iload 5, 2) := by decide +kernel
theorem dX9_atBy_35 : decode cX9_atBy 35 = .ok (.iconst 2, 1) := by decide +kernel
theorem dX9_atBy_36 : decode cX9_atBy 36 = .ok (.if_icmp .le 5, 3) := by decide +kernel
theorem dX9_atBy_39 : decode cX9_atBy 39 = .ok (.iconst (-1), 1) := by decide +kernel
theorem dX9_atBy_40 : decode cX9_atBy 40 = .ok (.ireturn, 1) := by decide +kernel
theorem dX9_atBy_41 : decode cX9_atBy 41 = .ok (.aload_n 0, 1) := by decide +kernel
theorem dX9_atBy_42 : decode cX9_atBy 42 = .ok (.invokevirtual 290, 3) := by decide +kernel
theorem dX9_atBy_45 : decode cX9_atBy 45 = .ok (.aload_n 0, 1) := by decide +kernel
theorem dX9_atBy_46 : decode cX9_atBy 46 = .ok (.iload_n 1, 1) := by decide +kernel
theorem dX9_atBy_47 : decode cX9_atBy 47 = .ok (.iload_n 2, 1) := by decide +kernel
theorem dX9_atBy_48 : decode cX9_atBy 48 = .ok (.invokevirtual 293, 3) := by decide +kernel
theorem dX9_atBy_51 : decode cX9_atBy 51 = .ok (.aload_n 0, 1) := by decide +kernel
theorem dX9_atBy_52 : decode cX9_atBy 52 = .ok (.iload_n 3, 1) := by decide +kernel
theorem dX9_atBy_53 : decode cX9_atBy 53 = .ok (.iload 4, 2) := by decide +kernel
theorem dX9_atBy_55 : decode cX9_atBy 55 = .ok (.invokevirtual 303, 3) := by decide +kernel
theorem dX9_atBy_58 : decode cX9_atBy 58 = .ok (.istore 6, 2) := by decide +kernel
theorem dX9_atBy_60 : decode cX9_atBy 60 = .ok (.iload 6, 2) := by decide +kernel
theorem dX9_atBy_62 : decode cX9_atBy 62 = .ok (.iconst (-1), 1) := by decide +kernel
theorem dX9_atBy_63 : decode cX9_atBy 63 = .ok (.if_icmp .ne 6, 3) := by decide +kernel
theorem dX9_atBy_66 : decode cX9_atBy 66 = .ok (.bipush (-2), 2) := by decide +kernel
theorem dX9_atBy_68 : decode cX9_atBy 68 = .ok (.ireturn, 1) := by decide +kernel
theorem dX9_atBy_69 : decode cX9_atBy 69 = .ok (.iload 5, 2) := by decide +kernel
theorem dX9_atBy_71 : decode cX9_atBy 71 = .ok (.ifCond .ne 13, 3) := by decide +kernel
theorem dX9_atBy_74 : decode cX9_atBy 74 = .ok (.aload_n 0, 1) := by decide +kernel
theorem dX9_atBy_75 : decode cX9_atBy 75 = .ok (.getfield 45, 3) := by decide +kernel
theorem dX9_atBy_78 : decode cX9_atBy 78 = .ok (.iload 6, 2) := by decide +kernel
theorem dX9_atBy_80 : decode cX9_atBy 80 = .ok (.iaload, 1) := by decide +kernel
theorem dX9_atBy_81 : decode cX9_atBy 81 = .ok (.goto 26, 3) := by decide +kernel
theorem dX9_atBy_84 : decode cX9_atBy 84 = .ok (.iload 5, 2) := by decide +kernel
theorem dX9_atBy_86 : decode cX9_atBy 86 = .ok (.iconst 1, 1) := by decide +kernel
theorem dX9_atBy_87 : decode cX9_atBy 87 = .ok (.if_icmp .ne 13, 3) := by decide +kernel
theorem dX9_atBy_90 : decode cX9_atBy 90 = .ok (.aload_n 0, 1) := by decide +kernel
theorem dX9_atBy_91 : decode cX9_atBy 91 = .ok (.getfield 48, 3) := by decide +kernel
theorem dX9_atBy_94 : decode cX9_atBy 94 = .ok (.iload 6, 2) := by decide +kernel
theorem dX9_atBy_96 : decode cX9_atBy 96 = .ok (.iaload, 1) := by decide +kernel
theorem dX9_atBy_97 : decode cX9_atBy 97 = .ok (.goto 10, 3) := by decide +kernel
theorem dX9_atBy_100 : decode cX9_atBy 100 = .ok (.aload_n 0, 1) := by decide +kernel
theorem dX9_atBy_101 : decode cX9_atBy 101 = .ok (.getfield 51, 3) := by decide +kernel
theorem dX9_atBy_104 : decode cX9_atBy 104 = .ok (.iload 6, 2) := by decide +kernel
theorem dX9_atBy_106 : decode cX9_atBy 106 = .ok (.iaload, 1) := by decide +kernel
theorem dX9_atBy_107 : decode cX9_atBy 107 = .ok (.ireturn, 1) := by decide +kernel
theorem dX9_becomes_0 : decode cX9_becomes 0 = .ok (.iconst 0, 1) := by decide +kernel
theorem dX9_becomes_1 : decode cX9_becomes 1 = .ok (.istore_n 1, 1) := by decide +kernel
theorem dX9_becomes_2 : decode cX9_becomes 2 = .ok (.iload_n 1, 1) := by decide +kernel
theorem dX9_becomes_3 : decode cX9_becomes 3 = .ok (.sipush 415, 3) := by decide +kernel
theorem dX9_becomes_6 : decode cX9_becomes 6 = .ok (.if_icmp .ge 21, 3) := by decide +kernel
theorem dX9_becomes_9 : decode cX9_becomes 9 = .ok (.aload_n 0, 1) := by decide +kernel
theorem dX9_becomes_10 : decode cX9_becomes 10 = .ok (.getfield 13, 3) := by decide +kernel
theorem dX9_becomes_13 : decode cX9_becomes 13 = .ok (.iload_n 1, 1) := by decide +kernel
theorem dX9_becomes_14 : decode cX9_becomes 14 = .ok (.aload_n 0, 1) := by decide +kernel
theorem dX9_becomes_15 : decode cX9_becomes 15 = .ok (.getfield 16, 3) := by decide +kernel
theorem dX9_becomes_18 : decode cX9_becomes 18 = .ok (.iload_n 1, 1) := by decide +kernel
theorem dX9_becomes_19 : decode cX9_becomes 19 = .ok (.iaload, 1) := by decide +kernel
theorem dX9_becomes_20 : decode cX9_becomes 20 = .ok (.iastore, 1) := by decide +kernel
theorem dX9_becomes_21 : decode cX9_becomes 21 = .ok (.iinc 1 1, 3) := by decide +kernel
theorem dX9_becomes_24 : decode cX9_becomes 24 = .ok (.goto (-22), 3) := by decide +kernel
theorem dX9_becomes_27 : decode cX9_becomes 27 = .ok (.aload_n 0, 1) := by decide +kernel
theorem dX9_becomes_28 : decode cX9_becomes 28 = .ok (.invokevirtual 176, 3) := by decide +kernel
theorem dX9_becomes_31 : decode cX9_becomes 31 = .ok (.iconst 0, 1) := by decide +kernel
theorem dX9_becomes_32 : decode cX9_becomes 32 = .ok (.istore_n 1, 1) := by decide +kernel
theorem dX9_becomes_33 : decode cX9_becomes 33 = .ok (.iload_n 1, 1) := by decide +kernel
theorem dX9_becomes_34 : decode cX9_becomes 34 = .ok (.bipush 60, 2) := by decide +kernel
theorem dX9_becomes_36 : decode cX9_becomes 36 = .ok (.if_icmp .ge 16, 3) := by decide +kernel
theorem dX9_becomes_39 : decode cX9_becomes 39 = .ok (.aload_n 0, 1) := by decide +kernel
theorem dX9_becomes_40 : decode cX9_becomes 40 = .ok (.getfield 26, 3) := by decide +kernel
theorem dX9_becomes_43 : decode cX9_becomes 43 = .ok (.iload_n 1, 1) := by decide +kernel
theorem dX9_becomes_44 : decode cX9_becomes 44 = .ok (.iconst 0, 1) := by decide +kernel
theorem dX9_becomes_45 : decode cX9_becomes 45 = .ok (.iastore, 1) := by decide +kernel
theorem dX9_becomes_46 : decode cX9_becomes 46 = .ok (.iinc 1 1, 3) := by decide +kernel
theorem dX9_becomes_49 : decode cX9_becomes 49 = .ok (.goto (-16), 3) := by decide +kernel
theorem dX9_becomes_52 : decode cX9_becomes 52 = .ok (.aload_n 0, 1) := by decide +kernel
theorem dX9_becomes_53 : decode cX9_becomes 53 = .ok (.lconst 0, 1) := by decide +kernel
theorem dX9_becomes_54 : decode cX9_becomes 54 = .ok (.putfield 179, 3) := by decide +kernel
theorem dX9_becomes_57 : decode cX9_becomes 57 = .ok (.aload_n 0, 1) := by decide +kernel
theorem dX9_becomes_58 : decode cX9_becomes 58 = .ok (.iconst 0, 1) := by decide +kernel
theorem dX9_becomes_59 : decode cX9_becomes 59 = .ok (.putfield 183, 3) := by decide +kernel
theorem dX9_becomes_62 : decode cX9_becomes 62 = .ok (.aload_n 0, 1) := by decide +kernel
theorem dX9_becomes_63 : decode cX9_becomes 63 = .ok (.iconst 0, 1) := by decide +kernel
theorem dX9_becomes_64 : decode cX9_becomes 64 = .ok (.putfield 186, 3) := by decide +kernel
theorem dX9_becomes_67 : decode cX9_becomes 67 = .ok (.return_, 1) := by decide +kernel
theorem dX9_behind_0 : decode cX9_behind 0 = .ok (.iload_n 1, 1) := by decide +kernel
theorem dX9_behind_1 : decode cX9_behind 1 = .ok (.iconst 1, 1) := by decide +kernel
theorem dX9_behind_2 : decode cX9_behind 2 = .ok (.iadd, 1) := by decide +kernel
theorem dX9_behind_3 : decode cX9_behind 3 = .ok (.aload_n 0, 1) := by decide +kernel
theorem dX9_behind_4 : decode cX9_behind 4 = .ok (.invokevirtual 198, 3) := by decide +kernel
theorem dX9_behind_7 : decode cX9_behind 7 = .ok (.if_icmp .ge 26, 3) := by decide +kernel
theorem dX9_behind_10 : decode cX9_behind 10 = .ok (.aload_n 0, 1) := by decide +kernel
theorem dX9_behind_11 : decode cX9_behind 11 = .ok (.iload_n 1, 1) := by decide +kernel
theorem dX9_behind_12 : decode cX9_behind 12 = .ok (.iconst 1, 1) := by decide +kernel
theorem dX9_behind_13 : decode cX9_behind 13 = .ok (.iadd, 1) := by decide +kernel
theorem dX9_behind_14 : decode cX9_behind 14 = .ok (.iconst 0, 1) := by decide +kernel
theorem dX9_behind_15 : decode cX9_behind 15 = .ok (.invokevirtual 201, 3) := by decide +kernel
theorem dX9_behind_18 : decode cX9_behind 18 = .ok (.aload_n 0, 1) := by decide +kernel
theorem dX9_behind_19 : decode cX9_behind 19 = .ok (.iload_n 1, 1) := by decide +kernel
theorem dX9_behind_20 : decode cX9_behind 20 = .ok (.iconst 0, 1) := by decide +kernel
theorem dX9_behind_21 : decode cX9_behind 21 = .ok (.invokevirtual 201, 3) := by decide +kernel
theorem dX9_behind_24 : decode cX9_behind 24 = .ok (.if_icmp .ne 9, 3) := by decide +kernel
theorem dX9_behind_27 : decode cX9_behind 27 = .ok (.iload_n 1, 1) := by decide +kernel
theorem dX9_behind_28 : decode cX9_behind 28 = .ok (.iconst 1, 1) := by decide +kernel
theorem dX9_behind_29 : decode cX9_behind 29 = .ok (.iadd, 1) := by decide +kernel
theorem dX9_behind_30 : decode cX9_behind 30 = .ok (.goto 4, 3) := by decide +kernel
theorem dX9_behind_33 : decode cX9_behind 33 = .ok (.iconst (-1), 1) := by decide +kernel
theorem dX9_behind_34 : decode cX9_behind 34 = .ok (.ireturn, 1) := by decide +kernel
theorem dX9_between_0 : decode cX9_between 0 = .ok (.aload_n 0, 1) := by decide +kernel
theorem dX9_between_1 : decode cX9_between 1 = .ok (.iload_n 1, 1) := by decide +kernel
theorem dX9_between_2 : decode cX9_between 2 = .ok (.iconst 2, 1) := by decide +kernel
theorem dX9_between_3 : decode cX9_between 3 = .ok (.invokevirtual 201, 3) := by decide +kernel
theorem dX9_between_6 : decode cX9_between 6 = .ok (.istore_n 3, 1) := by decide +kernel
theorem dX9_between_7 : decode cX9_between 7 = .ok (.aload_n 0, 1) := by decide +kernel
theorem dX9_between_8 : decode cX9_between 8 = .ok (.iload_n 2, 1) := by decide +kernel
theorem dX9_between_9 : decode cX9_between 9 = .ok (.iconst 1, 1) := by decide +kernel
theorem dX9_between_10 : decode cX9_between 10 = .ok (.invokevirtual 201, 3) := by decide +kernel
theorem dX9_between_13 : decode cX9_between 13 = .ok (.istore 4, 2) := by decide +kernel
theorem dX9_between_15 : decode cX9_between 15 = .ok (.iload_n 3, 1) := by decide +kernel
theorem dX9_between_16 : decode cX9_between 16 = .ok (.iload 4, 2) := by decide +kernel
theorem dX9_between_18 : decode cX9_between 18 = .ok (.if_icmp .ne 14, 3) := by decide +kernel
theorem dX9_between_21 : decode cX9_between 21 = .ok (.aload_n 0, 1) := by decide +kernel
theorem dX9_between_22 : decode cX9_between 22 = .ok (.getfield 13, 3) := by decide +kernel
theorem dX9_between_25 : decode cX9_between 25 = .ok (.iconst 5, 1) := by decide +kernel
theorem dX9_between_26 : decode cX9_between 26 = .ok (.iload_n 3, 1) := by decide +kernel
theorem dX9_between_27 : decode cX9_between 27 = .ok (.iadd, 1) := by decide +kernel
theorem dX9_between_28 : decode cX9_between 28 = .ok (.iaload, 1) := by decide +kernel
theorem dX9_between_29 : decode cX9_between 29 = .ok (.goto 10, 3) := by decide +kernel
theorem dX9_between_32 : decode cX9_between 32 = .ok (.aload_n 0, 1) := by decide +kernel
theorem dX9_between_33 : decode cX9_between 33 = .ok (.iload_n 3, 1) := by decide +kernel
theorem dX9_between_34 : decode cX9_between 34 = .ok (.iload 4, 2) := by decide +kernel
theorem dX9_between_36 : decode cX9_between 36 = .ok (.invokevirtual 216, 3) := by decide +kernel
theorem dX9_between_39 : decode cX9_between 39 = .ok (.ireturn, 1) := by decide +kernel
theorem dX9_board_0 : decode cX9_board 0 = .ok (.aload_n 0, 1) := by decide +kernel
theorem dX9_board_1 : decode cX9_board 1 = .ok (.iconst 0, 1) := by decide +kernel
theorem dX9_board_2 : decode cX9_board 2 = .ok (.putfield 85, 3) := by decide +kernel
theorem dX9_board_5 : decode cX9_board 5 = .ok (.aload_n 0, 1) := by decide +kernel
theorem dX9_board_6 : decode cX9_board 6 = .ok (.iload_n 1, 1) := by decide +kernel
theorem dX9_board_7 : decode cX9_board 7 = .ok (.invokevirtual 213, 3) := by decide +kernel
theorem dX9_board_10 : decode cX9_board 10 = .ok (.ifCond .eq 15, 3) := by decide +kernel
theorem dX9_board_13 : decode cX9_board 13 = .ok (.iload_n 2, 1) := by decide +kernel
theorem dX9_board_14 : decode cX9_board 14 = .ok (.invokestatic 320, 3) := by decide +kernel
theorem dX9_board_17 : decode cX9_board 17 = .ok (.ifCond .eq 8, 3) := by decide +kernel
theorem dX9_board_20 : decode cX9_board 20 = .ok (.iload 4, 2) := by decide +kernel
theorem dX9_board_22 : decode cX9_board 22 = .ok (.ifCond .ge 5, 3) := by decide +kernel
theorem dX9_board_25 : decode cX9_board 25 = .ok (.iconst (-1), 1) := by decide +kernel
theorem dX9_board_26 : decode cX9_board 26 = .ok (.ireturn, 1) := by decide +kernel
theorem dX9_board_27 : decode cX9_board 27 = .ok (.aload_n 0, 1) := by decide +kernel
theorem dX9_board_28 : decode cX9_board 28 = .ok (.invokevirtual 290, 3) := by decide +kernel
theorem dX9_board_31 : decode cX9_board 31 = .ok (.iconst 0, 1) := by decide +kernel
theorem dX9_board_32 : decode cX9_board 32 = .ok (.istore 5, 2) := by decide +kernel
theorem dX9_board_34 : decode cX9_board 34 = .ok (.iload 5, 2) := by decide +kernel
theorem dX9_board_36 : decode cX9_board 36 = .ok (.aload_n 0, 1) := by decide +kernel
theorem dX9_board_37 : decode cX9_board 37 = .ok (.invokevirtual 198, 3) := by decide +kernel
theorem dX9_board_40 : decode cX9_board 40 = .ok (.if_icmp .ge 103, 3) := by decide +kernel
theorem dX9_board_43 : decode cX9_board 43 = .ok (.aload_n 0, 1) := by decide +kernel
theorem dX9_board_44 : decode cX9_board 44 = .ok (.iload 5, 2) := by decide +kernel
theorem dX9_board_46 : decode cX9_board 46 = .ok (.iload_n 1, 1) := by decide +kernel
theorem dX9_board_47 : decode cX9_board 47 = .ok (.iload_n 2, 1) := by decide +kernel
theorem dX9_board_48 : decode cX9_board 48 = .ok (.iload_n 3, 1) := by decide +kernel
theorem dX9_board_49 : decode cX9_board 49 = .ok (.invokevirtual 352, 3) := by decide +kernel
theorem dX9_board_52 : decode cX9_board 52 = .ok (.istore 6, 2) := by decide +kernel
theorem dX9_board_54 : decode cX9_board 54 = .ok (.iload 6, 2) := by decide +kernel
theorem dX9_board_56 : decode cX9_board 56 = .ok (.ldc 175, 2) := by decide +kernel
theorem dX9_board_58 : decode cX9_board 58 = .ok (.if_icmp .lt 6, 3) := by decide +kernel
theorem dX9_board_61 : decode cX9_board 61 = .ok (.goto 76, 3) := by decide +kernel
theorem dX9_board_64 : decode cX9_board 64 = .ok (.iconst 0, 1) := by decide +kernel
theorem dX9_board_65 : decode cX9_board 65 = .ok (.istore 7, 2) := by decide +kernel
theorem dX9_board_67 : decode cX9_board 67 = .ok (.iconst 0, 1) := by decide +kernel
theorem dX9_board_68 : decode cX9_board 68 = .ok (.istore 8, 2) := by decide +kernel
theorem dX9_board_70 : decode cX9_board 70 = .ok (.iload 8, 2) := by decide +kernel
theorem dX9_board_72 : decode cX9_board 72 = .ok (.aload_n 0, 1) := by decide +kernel
theorem dX9_board_73 : decode cX9_board 73 = .ok (.invokevirtual 198, 3) := by decide +kernel
theorem dX9_board_76 : decode cX9_board 76 = .ok (.if_icmp .ge 51, 3) := by decide +kernel
theorem dX9_board_79 : decode cX9_board 79 = .ok (.aload_n 0, 1) := by decide +kernel
theorem dX9_board_80 : decode cX9_board 80 = .ok (.iload 8, 2) := by decide +kernel
theorem dX9_board_82 : decode cX9_board 82 = .ok (.iload_n 1, 1) := by decide +kernel
theorem dX9_board_83 : decode cX9_board 83 = .ok (.iload_n 2, 1) := by decide +kernel
theorem dX9_board_84 : decode cX9_board 84 = .ok (.iload_n 3, 1) := by decide +kernel
theorem dX9_board_85 : decode cX9_board 85 = .ok (.invokevirtual 352, 3) := by decide +kernel
theorem dX9_board_88 : decode cX9_board 88 = .ok (.istore 9, 2) := by decide +kernel
theorem dX9_board_90 : decode cX9_board 90 = .ok (.iload 7, 2) := by decide +kernel
theorem dX9_board_92 : decode cX9_board 92 = .ok (.iload 9, 2) := by decide +kernel
theorem dX9_board_94 : decode cX9_board 94 = .ok (.iload 6, 2) := by decide +kernel
theorem dX9_board_96 : decode cX9_board 96 = .ok (.if_icmp .lt 17, 3) := by decide +kernel
theorem dX9_board_99 : decode cX9_board 99 = .ok (.iload 9, 2) := by decide +kernel
theorem dX9_board_101 : decode cX9_board 101 = .ok (.iload 6, 2) := by decide +kernel
theorem dX9_board_103 : decode cX9_board 103 = .ok (.if_icmp .ne 14, 3) := by decide +kernel
theorem dX9_board_106 : decode cX9_board 106 = .ok (.iload 8, 2) := by decide +kernel
theorem dX9_board_108 : decode cX9_board 108 = .ok (.iload 5, 2) := by decide +kernel
theorem dX9_board_110 : decode cX9_board 110 = .ok (.if_icmp .ge 7, 3) := by decide +kernel
theorem dX9_board_113 : decode cX9_board 113 = .ok (.iconst 1, 1) := by decide +kernel
theorem dX9_board_114 : decode cX9_board 114 = .ok (.goto 4, 3) := by decide +kernel
theorem dX9_board_117 : decode cX9_board 117 = .ok (.iconst 0, 1) := by decide +kernel
theorem dX9_board_118 : decode cX9_board 118 = .ok (.iadd, 1) := by decide +kernel
theorem dX9_board_119 : decode cX9_board 119 = .ok (.istore 7, 2) := by decide +kernel
theorem dX9_board_121 : decode cX9_board 121 = .ok (.iinc 8 1, 3) := by decide +kernel
theorem dX9_board_124 : decode cX9_board 124 = .ok (.goto (-54), 3) := by decide +kernel
theorem dX9_board_127 : decode cX9_board 127 = .ok (.iload 7, 2) := by decide +kernel
theorem dX9_board_129 : decode cX9_board 129 = .ok (.iload 4, 2) := by decide +kernel
theorem dX9_board_131 : decode cX9_board 131 = .ok (.if_icmp .ne 6, 3) := by decide +kernel
theorem dX9_board_134 : decode cX9_board 134 = .ok (.iload 5, 2) := by decide +kernel
theorem dX9_board_136 : decode cX9_board 136 = .ok (.ireturn, 1) := by decide +kernel
theorem dX9_board_137 : decode cX9_board 137 = .ok (.iinc 5 1, 3) := by decide +kernel
theorem dX9_board_140 : decode cX9_board 140 = .ok (.goto (-106), 3) := by decide +kernel
theorem dX9_board_143 : decode cX9_board 143 = .ok (.bipush (-2), 2) := by decide +kernel
theorem dX9_board_145 : decode cX9_board 145 = .ok (.ireturn, 1) := by decide +kernel
theorem dX9_breaks_0 : decode cX9_breaks 0 = .ok (.iconst 0, 1) := by decide +kernel
theorem dX9_breaks_1 : decode cX9_breaks 1 = .ok (.istore 5, 2) := by decide +kernel
theorem dX9_breaks_3 : decode cX9_breaks 3 = .ok (.iload 5, 2) := by decide +kernel
theorem dX9_breaks_5 : decode cX9_breaks 5 = .ok (.aload_n 0, 1) := by decide +kernel
theorem dX9_breaks_6 : decode cX9_breaks 6 = .ok (.getfield 186, 3) := by decide +kernel
theorem dX9_breaks_9 : decode cX9_breaks 9 = .ok (.if_icmp .ge 81, 3) := by decide +kernel
theorem dX9_breaks_12 : decode cX9_breaks 12 = .ok (.aload_n 0, 1) := by decide +kernel
theorem dX9_breaks_13 : decode cX9_breaks 13 = .ok (.iload 5, 2) := by decide +kernel
theorem dX9_breaks_15 : decode cX9_breaks 15 = .ok (.putfield 335, 3) := by decide +kernel
theorem dX9_breaks_18 : decode cX9_breaks 18 = .ok (.aload_n 0, 1) := by decide +kernel
theorem dX9_breaks_19 : decode cX9_breaks 19 = .ok (.getfield 73, 3) := by decide +kernel
theorem dX9_breaks_22 : decode cX9_breaks 22 = .ok (.iload 5, 2) := by decide +kernel
theorem dX9_breaks_24 : decode cX9_breaks 24 = .ok (.iaload, 1) := by decide +kernel
theorem dX9_breaks_25 : decode cX9_breaks 25 = .ok (.istore 6, 2) := by decide +kernel
theorem dX9_breaks_27 : decode cX9_breaks 27 = .ok (.iload 6, 2) := by decide +kernel
theorem dX9_breaks_29 : decode cX9_breaks 29 = .ok (.aload_n 0, 1) := by decide +kernel
theorem dX9_breaks_30 : decode cX9_breaks 30 = .ok (.getfield 76, 3) := by decide +kernel
theorem dX9_breaks_33 : decode cX9_breaks 33 = .ok (.iload 5, 2) := by decide +kernel
theorem dX9_breaks_35 : decode cX9_breaks 35 = .ok (.iaload, 1) := by decide +kernel
theorem dX9_breaks_36 : decode cX9_breaks 36 = .ok (.if_icmp .gt 25, 3) := by decide +kernel
theorem dX9_breaks_39 : decode cX9_breaks 39 = .ok (.iload 4, 2) := by decide +kernel
theorem dX9_breaks_41 : decode cX9_breaks 41 = .ok (.ifCond .ne 20, 3) := by decide +kernel
theorem dX9_breaks_44 : decode cX9_breaks 44 = .ok (.aload_n 0, 1) := by decide +kernel
theorem dX9_breaks_45 : decode cX9_breaks 45 = .ok (.iload 6, 2) := by decide +kernel
theorem dX9_breaks_47 : decode cX9_breaks 47 = .ok (.invokevirtual 207, 3) := by decide +kernel
theorem dX9_breaks_50 : decode cX9_breaks 50 = .ok (.ifCond .eq 5, 3) := by decide +kernel
theorem dX9_breaks_53 : decode cX9_breaks 53 = .ok (.iconst 1, 1) := by decide +kernel
theorem dX9_breaks_54 : decode cX9_breaks 54 = .ok (.ireturn, 1) := by decide +kernel
theorem dX9_breaks_55 : decode cX9_breaks 55 = .ok (.iinc 6 1, 3) := by decide +kernel
theorem dX9_breaks_58 : decode cX9_breaks 58 = .ok (.goto (-31), 3) := by decide +kernel
theorem dX9_breaks_61 : decode cX9_breaks 61 = .ok (.aload_n 0, 1) := by decide +kernel
theorem dX9_breaks_62 : decode cX9_breaks 62 = .ok (.iload 5, 2) := by decide +kernel
theorem dX9_breaks_64 : decode cX9_breaks 64 = .ok (.iload_n 1, 1) := by decide +kernel
theorem dX9_breaks_65 : decode cX9_breaks 65 = .ok (.iload_n 3, 1) := by decide +kernel
theorem dX9_breaks_66 : decode cX9_breaks 66 = .ok (.iload 4, 2) := by decide +kernel
theorem dX9_breaks_68 : decode cX9_breaks 68 = .ok (.invokevirtual 338, 3) := by decide +kernel
theorem dX9_breaks_71 : decode cX9_breaks 71 = .ok (.aload_n 0, 1) := by decide +kernel
theorem dX9_breaks_72 : decode cX9_breaks 72 = .ok (.iload 5, 2) := by decide +kernel
theorem dX9_breaks_74 : decode cX9_breaks 74 = .ok (.iload 4, 2) := by decide +kernel
theorem dX9_breaks_76 : decode cX9_breaks 76 = .ok (.invokevirtual 342, 3) := by decide +kernel
theorem dX9_breaks_79 : decode cX9_breaks 79 = .ok (.if_icmp .le 5, 3) := by decide +kernel
theorem dX9_breaks_82 : decode cX9_breaks 82 = .ok (.iconst 2, 1) := by decide +kernel
theorem dX9_breaks_83 : decode cX9_breaks 83 = .ok (.ireturn, 1) := by decide +kernel
theorem dX9_breaks_84 : decode cX9_breaks 84 = .ok (.iinc 5 1, 3) := by decide +kernel
theorem dX9_breaks_87 : decode cX9_breaks 87 = .ok (.goto (-84), 3) := by decide +kernel
theorem dX9_breaks_90 : decode cX9_breaks 90 = .ok (.aload_n 0, 1) := by decide +kernel
theorem dX9_breaks_91 : decode cX9_breaks 91 = .ok (.aload_n 0, 1) := by decide +kernel
theorem dX9_breaks_92 : decode cX9_breaks 92 = .ok (.getfield 186, 3) := by decide +kernel
theorem dX9_breaks_95 : decode cX9_breaks 95 = .ok (.putfield 335, 3) := by decide +kernel
theorem dX9_breaks_98 : decode cX9_breaks 98 = .ok (.aload_n 0, 1) := by decide +kernel
theorem dX9_breaks_99 : decode cX9_breaks 99 = .ok (.aload_n 0, 1) := by decide +kernel
theorem dX9_breaks_100 : decode cX9_breaks 100 = .ok (.aload_n 0, 1) := by decide +kernel
theorem dX9_breaks_101 : decode cX9_breaks 101 = .ok (.getfield 76, 3) := by decide +kernel
theorem dX9_breaks_104 : decode cX9_breaks 104 = .ok (.aload_n 0, 1) := by decide +kernel
theorem dX9_breaks_105 : decode cX9_breaks 105 = .ok (.getfield 186, 3) := by decide +kernel
theorem dX9_breaks_108 : decode cX9_breaks 108 = .ok (.iconst 1, 1) := by decide +kernel
theorem dX9_breaks_109 : decode cX9_breaks 109 = .ok (.isub, 1) := by decide +kernel
theorem dX9_breaks_110 : decode cX9_breaks 110 = .ok (.iaload, 1) := by decide +kernel
theorem dX9_breaks_111 : decode cX9_breaks 111 = .ok (.iconst 2, 1) := by decide +kernel
theorem dX9_breaks_112 : decode cX9_breaks 112 = .ok (.invokevirtual 201, 3) := by decide +kernel
theorem dX9_breaks_115 : decode cX9_breaks 115 = .ok (.iload_n 2, 1) := by decide +kernel
theorem dX9_breaks_116 : decode cX9_breaks 116 = .ok (.invokevirtual 216, 3) := by decide +kernel
theorem dX9_breaks_119 : decode cX9_breaks 119 = .ok (.ldc 175, 2) := by decide +kernel
theorem dX9_breaks_121 : decode cX9_breaks 121 = .ok (.if_icmp .lt 7, 3) := by decide +kernel
theorem dX9_breaks_124 : decode cX9_breaks 124 = .ok (.iconst 3, 1) := by decide +kernel
theorem dX9_breaks_125 : decode cX9_breaks 125 = .ok (.goto 4, 3) := by decide +kernel
theorem dX9_breaks_128 : decode cX9_breaks 128 = .ok (.iconst 0, 1) := by decide +kernel
theorem dX9_breaks_129 : decode cX9_breaks 129 = .ok (.ireturn, 1) := by decide +kernel
theorem dX9_breaks__0 : decode cX9_breaks_ 0 = .ok (.aload_n 0, 1) := by decide +kernel
theorem dX9_breaks__1 : decode cX9_breaks_ 1 = .ok (.iconst 0, 1) := by decide +kernel
theorem dX9_breaks__2 : decode cX9_breaks_ 2 = .ok (.putfield 85, 3) := by decide +kernel
theorem dX9_breaks__5 : decode cX9_breaks_ 5 = .ok (.aload_n 0, 1) := by decide +kernel
theorem dX9_breaks__6 : decode cX9_breaks_ 6 = .ok (.iload_n 1, 1) := by decide +kernel
theorem dX9_breaks__7 : decode cX9_breaks_ 7 = .ok (.invokevirtual 222, 3) := by decide +kernel
theorem dX9_breaks__10 : decode cX9_breaks_ 10 = .ok (.ifCond .eq 23, 3) := by decide +kernel
theorem dX9_breaks__13 : decode cX9_breaks_ 13 = .ok (.iload_n 2, 1) := by decide +kernel
theorem dX9_breaks__14 : decode cX9_breaks_ 14 = .ok (.iconst 1, 1) := by decide +kernel
theorem dX9_breaks__15 : decode cX9_breaks_ 15 = .ok (.if_icmp .lt 18, 3) := by decide +kernel
theorem dX9_breaks__18 : decode cX9_breaks_ 18 = .ok (.iload_n 2, 1) := by decide +kernel
theorem dX9_breaks__19 : decode cX9_breaks_ 19 = .ok (.sipush 240, 3) := by decide +kernel
theorem dX9_breaks__22 : decode cX9_breaks_ 22 = .ok (.if_icmp .gt 11, 3) := by decide +kernel
theorem dX9_breaks__25 : decode cX9_breaks_ 25 = .ok (.aload_n 0, 1) := by decide +kernel
theorem dX9_breaks__26 : decode cX9_breaks_ 26 = .ok (.iload_n 3, 1) := by decide +kernel
theorem dX9_breaks__27 : decode cX9_breaks_ 27 = .ok (.invokevirtual 213, 3) := by decide +kernel
theorem dX9_breaks__30 : decode cX9_breaks_ 30 = .ok (.ifCond .ne 5, 3) := by decide +kernel
theorem dX9_breaks__33 : decode cX9_breaks_ 33 = .ok (.iconst (-1), 1) := by decide +kernel
theorem dX9_breaks__34 : decode cX9_breaks_ 34 = .ok (.ireturn, 1) := by decide +kernel
theorem dX9_breaks__35 : decode cX9_breaks_ 35 = .ok (.aload_n 0, 1) := by decide +kernel
theorem dX9_breaks__36 : decode cX9_breaks_ 36 = .ok (.invokevirtual 290, 3) := by decide +kernel
theorem dX9_breaks__39 : decode cX9_breaks_ 39 = .ok (.iconst 0, 1) := by decide +kernel
theorem dX9_breaks__40 : decode cX9_breaks_ 40 = .ok (.istore 4, 2) := by decide +kernel
theorem dX9_breaks__42 : decode cX9_breaks_ 42 = .ok (.iconst 0, 1) := by decide +kernel
theorem dX9_breaks__43 : decode cX9_breaks_ 43 = .ok (.istore 5, 2) := by decide +kernel
theorem dX9_breaks__45 : decode cX9_breaks_ 45 = .ok (.iload 5, 2) := by decide +kernel
theorem dX9_breaks__47 : decode cX9_breaks_ 47 = .ok (.aload_n 0, 1) := by decide +kernel
theorem dX9_breaks__48 : decode cX9_breaks_ 48 = .ok (.invokevirtual 195, 3) := by decide +kernel
theorem dX9_breaks__51 : decode cX9_breaks_ 51 = .ok (.if_icmp .ge 90, 3) := by decide +kernel
theorem dX9_breaks__54 : decode cX9_breaks_ 54 = .ok (.iload 5, 2) := by decide +kernel
theorem dX9_breaks__56 : decode cX9_breaks_ 56 = .ok (.iload_n 3, 1) := by decide +kernel
theorem dX9_breaks__57 : decode cX9_breaks_ 57 = .ok (.if_icmp .ne 6, 3) := by decide +kernel
theorem dX9_breaks__60 : decode cX9_breaks_ 60 = .ok (.goto 75, 3) := by decide +kernel
theorem dX9_breaks__63 : decode cX9_breaks_ 63 = .ok (.aload_n 0, 1) := by decide +kernel
theorem dX9_breaks__64 : decode cX9_breaks_ 64 = .ok (.iload 5, 2) := by decide +kernel
theorem dX9_breaks__66 : decode cX9_breaks_ 66 = .ok (.iload_n 3, 1) := by decide +kernel
theorem dX9_breaks__67 : decode cX9_breaks_ 67 = .ok (.invokevirtual 293, 3) := by decide +kernel
theorem dX9_breaks__70 : decode cX9_breaks_ 70 = .ok (.iconst 0, 1) := by decide +kernel
theorem dX9_breaks__71 : decode cX9_breaks_ 71 = .ok (.istore 6, 2) := by decide +kernel
theorem dX9_breaks__73 : decode cX9_breaks_ 73 = .ok (.iload 6, 2) := by decide +kernel
theorem dX9_breaks__75 : decode cX9_breaks_ 75 = .ok (.aload_n 0, 1) := by decide +kernel
theorem dX9_breaks__76 : decode cX9_breaks_ 76 = .ok (.getfield 278, 3) := by decide +kernel
theorem dX9_breaks__79 : decode cX9_breaks_ 79 = .ok (.if_icmp .ge 56, 3) := by decide +kernel
theorem dX9_breaks__82 : decode cX9_breaks_ 82 = .ok (.aload_n 0, 1) := by decide +kernel
theorem dX9_breaks__83 : decode cX9_breaks_ 83 = .ok (.iload 5, 2) := by decide +kernel
theorem dX9_breaks__85 : decode cX9_breaks_ 85 = .ok (.iload_n 3, 1) := by decide +kernel
theorem dX9_breaks__86 : decode cX9_breaks_ 86 = .ok (.aload_n 0, 1) := by decide +kernel
theorem dX9_breaks__87 : decode cX9_breaks_ 87 = .ok (.getfield 54, 3) := by decide +kernel
theorem dX9_breaks__90 : decode cX9_breaks_ 90 = .ok (.iload 6, 2) := by decide +kernel
theorem dX9_breaks__92 : decode cX9_breaks_ 92 = .ok (.iaload, 1) := by decide +kernel
theorem dX9_breaks__93 : decode cX9_breaks_ 93 = .ok (.invokevirtual 299, 3) := by decide +kernel
theorem dX9_breaks__96 : decode cX9_breaks_ 96 = .ok (.iload 4, 2) := by decide +kernel
theorem dX9_breaks__98 : decode cX9_breaks_ 98 = .ok (.aload_n 0, 1) := by decide +kernel
theorem dX9_breaks__99 : decode cX9_breaks_ 99 = .ok (.iload_n 1, 1) := by decide +kernel
theorem dX9_breaks__100 : decode cX9_breaks_ 100 = .ok (.iload_n 2, 1) := by decide +kernel
theorem dX9_breaks__101 : decode cX9_breaks_ 101 = .ok (.aload_n 0, 1) := by decide +kernel
theorem dX9_breaks__102 : decode cX9_breaks_ 102 = .ok (.getfield 51, 3) := by decide +kernel
theorem dX9_breaks__105 : decode cX9_breaks_ 105 = .ok (.aload_n 0, 1) := by decide +kernel
theorem dX9_breaks__106 : decode cX9_breaks_ 106 = .ok (.getfield 54, 3) := by decide +kernel
theorem dX9_breaks__109 : decode cX9_breaks_ 109 = .ok (.iload 6, 2) := by decide +kernel
theorem dX9_breaks__111 : decode cX9_breaks_ 111 = .ok (.iaload, 1) := by decide +kernel
theorem dX9_breaks__112 : decode cX9_breaks_ 112 = .ok (.iaload, 1) := by decide +kernel
theorem dX9_breaks__113 : decode cX9_breaks_ 113 = .ok (.iconst 1, 1) := by decide +kernel
theorem dX9_breaks__114 : decode cX9_breaks_ 114 = .ok (.iadd, 1) := by decide +kernel
theorem dX9_breaks__115 : decode cX9_breaks_ 115 = .ok (.invokevirtual 355, 3) := by decide +kernel
theorem dX9_breaks__118 : decode cX9_breaks_ 118 = .ok (.ifCond .eq 7, 3) := by decide +kernel
theorem dX9_breaks__121 : decode cX9_breaks_ 121 = .ok (.iconst 1, 1) := by decide +kernel
theorem dX9_breaks__122 : decode cX9_breaks_ 122 = .ok (.goto 4, 3) := by decide +kernel
theorem dX9_breaks__125 : decode cX9_breaks_ 125 = .ok (.iconst 0, 1) := by decide +kernel
theorem dX9_breaks__126 : decode cX9_breaks_ 126 = .ok (.iadd, 1) := by decide +kernel
theorem dX9_breaks__127 : decode cX9_breaks_ 127 = .ok (.istore 4, 2) := by decide +kernel
theorem dX9_breaks__129 : decode cX9_breaks_ 129 = .ok (.iinc 6 1, 3) := by decide +kernel
theorem dX9_breaks__132 : decode cX9_breaks_ 132 = .ok (.goto (-59), 3) := by decide +kernel
theorem dX9_breaks__135 : decode cX9_breaks_ 135 = .ok (.iinc 5 1, 3) := by decide +kernel
theorem dX9_breaks__138 : decode cX9_breaks_ 138 = .ok (.goto (-93), 3) := by decide +kernel
theorem dX9_breaks__141 : decode cX9_breaks_ 141 = .ok (.iload 4, 2) := by decide +kernel
theorem dX9_breaks__143 : decode cX9_breaks_ 143 = .ok (.ireturn, 1) := by decide +kernel
theorem dX9_canGo_0 : decode cX9_canGo 0 = .ok (.iconst 0, 1) := by decide +kernel
theorem dX9_canGo_1 : decode cX9_canGo 1 = .ok (.istore 4, 2) := by decide +kernel
theorem dX9_canGo_3 : decode cX9_canGo 3 = .ok (.aload_n 0, 1) := by decide +kernel
theorem dX9_canGo_4 : decode cX9_canGo 4 = .ok (.iload_n 1, 1) := by decide +kernel
theorem dX9_canGo_5 : decode cX9_canGo 5 = .ok (.invokevirtual 219, 3) := by decide +kernel
theorem dX9_canGo_8 : decode cX9_canGo 8 = .ok (.istore 5, 2) := by decide +kernel
theorem dX9_canGo_10 : decode cX9_canGo 10 = .ok (.iload 5, 2) := by decide +kernel
theorem dX9_canGo_12 : decode cX9_canGo 12 = .ok (.iconst (-1), 1) := by decide +kernel
theorem dX9_canGo_13 : decode cX9_canGo 13 = .ok (.if_icmp .eq 62, 3) := by decide +kernel
theorem dX9_canGo_16 : decode cX9_canGo 16 = .ok (.iload 5, 2) := by decide +kernel
theorem dX9_canGo_18 : decode cX9_canGo 18 = .ok (.iload_n 2, 1) := by decide +kernel
theorem dX9_canGo_19 : decode cX9_canGo 19 = .ok (.if_icmp .ge 13, 3) := by decide +kernel
theorem dX9_canGo_22 : decode cX9_canGo 22 = .ok (.aload_n 0, 1) := by decide +kernel
theorem dX9_canGo_23 : decode cX9_canGo 23 = .ok (.getfield 26, 3) := by decide +kernel
theorem dX9_canGo_26 : decode cX9_canGo 26 = .ok (.iload 5, 2) := by decide +kernel
theorem dX9_canGo_28 : decode cX9_canGo 28 = .ok (.iaload, 1) := by decide +kernel
theorem dX9_canGo_29 : decode cX9_canGo 29 = .ok (.goto 4, 3) := by decide +kernel
theorem dX9_canGo_32 : decode cX9_canGo 32 = .ok (.iload_n 3, 1) := by decide +kernel
theorem dX9_canGo_33 : decode cX9_canGo 33 = .ok (.istore 6, 2) := by decide +kernel
theorem dX9_canGo_35 : decode cX9_canGo 35 = .ok (.aload_n 0, 1) := by decide +kernel
theorem dX9_canGo_36 : decode cX9_canGo 36 = .ok (.iload 5, 2) := by decide +kernel
theorem dX9_canGo_38 : decode cX9_canGo 38 = .ok (.iconst 3, 1) := by decide +kernel
theorem dX9_canGo_39 : decode cX9_canGo 39 = .ok (.invokevirtual 201, 3) := by decide +kernel
theorem dX9_canGo_42 : decode cX9_canGo 42 = .ok (.iload 6, 2) := by decide +kernel
theorem dX9_canGo_44 : decode cX9_canGo 44 = .ok (.iadd, 1) := by decide +kernel
theorem dX9_canGo_45 : decode cX9_canGo 45 = .ok (.iload 4, 2) := by decide +kernel
theorem dX9_canGo_47 : decode cX9_canGo 47 = .ok (.if_icmp .ge 5, 3) := by decide +kernel
theorem dX9_canGo_50 : decode cX9_canGo 50 = .ok (.iconst 0, 1) := by decide +kernel
theorem dX9_canGo_51 : decode cX9_canGo 51 = .ok (.ireturn, 1) := by decide +kernel
theorem dX9_canGo_52 : decode cX9_canGo 52 = .ok (.aload_n 0, 1) := by decide +kernel
theorem dX9_canGo_53 : decode cX9_canGo 53 = .ok (.iload 5, 2) := by decide +kernel
theorem dX9_canGo_55 : decode cX9_canGo 55 = .ok (.iconst 4, 1) := by decide +kernel
theorem dX9_canGo_56 : decode cX9_canGo 56 = .ok (.invokevirtual 201, 3) := by decide +kernel
theorem dX9_canGo_59 : decode cX9_canGo 59 = .ok (.iload 6, 2) := by decide +kernel
theorem dX9_canGo_61 : decode cX9_canGo 61 = .ok (.iadd, 1) := by decide +kernel
theorem dX9_canGo_62 : decode cX9_canGo 62 = .ok (.istore 4, 2) := by decide +kernel
