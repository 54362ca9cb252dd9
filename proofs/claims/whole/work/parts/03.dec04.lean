theorem dX9_canGo_64 : decode cX9_canGo 64 = .ok (.aload_n 0, 1) := by decide +kernel
theorem dX9_canGo_65 : decode cX9_canGo 65 = .ok (.iload 5, 2) := by decide +kernel
theorem dX9_canGo_67 : decode cX9_canGo 67 = .ok (.invokevirtual 210, 3) := by decide +kernel
theorem dX9_canGo_70 : decode cX9_canGo 70 = .ok (.istore 5, 2) := by decide +kernel
theorem dX9_canGo_72 : decode cX9_canGo 72 = .ok (.goto (-62), 3) := by decide +kernel
theorem dX9_canGo_75 : decode cX9_canGo 75 = .ok (.iconst 1, 1) := by decide +kernel
theorem dX9_canGo_76 : decode cX9_canGo 76 = .ok (.ireturn, 1) := by decide +kernel
theorem dX9_cancel_0 : decode cX9_cancel 0 = .ok (.aload_n 0, 1) := by decide +kernel
theorem dX9_cancel_1 : decode cX9_cancel 1 = .ok (.iconst 0, 1) := by decide +kernel
theorem dX9_cancel_2 : decode cX9_cancel 2 = .ok (.putfield 85, 3) := by decide +kernel
theorem dX9_cancel_5 : decode cX9_cancel 5 = .ok (.aload_n 0, 1) := by decide +kernel
theorem dX9_cancel_6 : decode cX9_cancel 6 = .ok (.iload_n 1, 1) := by decide +kernel
theorem dX9_cancel_7 : decode cX9_cancel 7 = .ok (.invokevirtual 222, 3) := by decide +kernel
theorem dX9_cancel_10 : decode cX9_cancel 10 = .ok (.ifCond .eq 21, 3) := by decide +kernel
theorem dX9_cancel_13 : decode cX9_cancel 13 = .ok (.iload_n 2, 1) := by decide +kernel
theorem dX9_cancel_14 : decode cX9_cancel 14 = .ok (.ifCond .lt 17, 3) := by decide +kernel
theorem dX9_cancel_17 : decode cX9_cancel 17 = .ok (.iload_n 2, 1) := by decide +kernel
theorem dX9_cancel_18 : decode cX9_cancel 18 = .ok (.aload_n 0, 1) := by decide +kernel
theorem dX9_cancel_19 : decode cX9_cancel 19 = .ok (.iload_n 1, 1) := by decide +kernel
theorem dX9_cancel_20 : decode cX9_cancel 20 = .ok (.invokevirtual 225, 3) := by decide +kernel
theorem dX9_cancel_23 : decode cX9_cancel 23 = .ok (.if_icmp .ge 8, 3) := by decide +kernel
theorem dX9_cancel_26 : decode cX9_cancel 26 = .ok (.iload_n 3, 1) := by decide +kernel
theorem dX9_cancel_27 : decode cX9_cancel 27 = .ok (.iconst 1, 1) := by decide +kernel
theorem dX9_cancel_28 : decode cX9_cancel 28 = .ok (.if_icmp .ge 5, 3) := by decide +kernel
theorem dX9_cancel_31 : decode cX9_cancel 31 = .ok (.iconst (-1), 1) := by decide +kernel
theorem dX9_cancel_32 : decode cX9_cancel 32 = .ok (.ireturn, 1) := by decide +kernel
theorem dX9_cancel_33 : decode cX9_cancel 33 = .ok (.aload_n 0, 1) := by decide +kernel
theorem dX9_cancel_34 : decode cX9_cancel 34 = .ok (.getfield 179, 3) := by decide +kernel
theorem dX9_cancel_37 : decode cX9_cancel 37 = .ok (.lstore 5, 2) := by decide +kernel
theorem dX9_cancel_39 : decode cX9_cancel 39 = .ok (.aload_n 0, 1) := by decide +kernel
theorem dX9_cancel_40 : decode cX9_cancel 40 = .ok (.iload_n 1, 1) := by decide +kernel
theorem dX9_cancel_41 : decode cX9_cancel 41 = .ok (.invokevirtual 219, 3) := by decide +kernel
theorem dX9_cancel_44 : decode cX9_cancel 44 = .ok (.iload_n 2, 1) := by decide +kernel
theorem dX9_cancel_45 : decode cX9_cancel 45 = .ok (.iadd, 1) := by decide +kernel
theorem dX9_cancel_46 : decode cX9_cancel 46 = .ok (.istore 7, 2) := by decide +kernel
theorem dX9_cancel_48 : decode cX9_cancel 48 = .ok (.iload_n 3, 1) := by decide +kernel
theorem dX9_cancel_49 : decode cX9_cancel 49 = .ok (.istore 8, 2) := by decide +kernel
theorem dX9_cancel_51 : decode cX9_cancel 51 = .ok (.iload 8, 2) := by decide +kernel
theorem dX9_cancel_53 : decode cX9_cancel 53 = .ok (.ifCond .le 51, 3) := by decide +kernel
theorem dX9_cancel_56 : decode cX9_cancel 56 = .ok (.iload 7, 2) := by decide +kernel
theorem dX9_cancel_58 : decode cX9_cancel 58 = .ok (.iconst (-1), 1) := by decide +kernel
theorem dX9_cancel_59 : decode cX9_cancel 59 = .ok (.if_icmp .eq 45, 3) := by decide +kernel
theorem dX9_cancel_62 : decode cX9_cancel 62 = .ok (.iload 4, 2) := by decide +kernel
theorem dX9_cancel_64 : decode cX9_cancel 64 = .ok (.ifCond .eq 13, 3) := by decide +kernel
theorem dX9_cancel_67 : decode cX9_cancel 67 = .ok (.lload 5, 2) := by decide +kernel
theorem dX9_cancel_69 : decode cX9_cancel 69 = .ok (.lconst 1, 1) := by decide +kernel
theorem dX9_cancel_70 : decode cX9_cancel 70 = .ok (.iload 7, 2) := by decide +kernel
theorem dX9_cancel_72 : decode cX9_cancel 72 = .ok (.lshl, 1) := by decide +kernel
theorem dX9_cancel_73 : decode cX9_cancel 73 = .ok (.lor, 1) := by decide +kernel
theorem dX9_cancel_74 : decode cX9_cancel 74 = .ok (.goto 14, 3) := by decide +kernel
theorem dX9_cancel_77 : decode cX9_cancel 77 = .ok (.lload 5, 2) := by decide +kernel
theorem dX9_cancel_79 : decode cX9_cancel 79 = .ok (.lconst 1, 1) := by decide +kernel
theorem dX9_cancel_80 : decode cX9_cancel 80 = .ok (.iload 7, 2) := by decide +kernel
theorem dX9_cancel_82 : decode cX9_cancel 82 = .ok (.lshl, 1) := by decide +kernel
theorem dX9_cancel_83 : decode cX9_cancel 83 = .ok (.ldc2_w 235, 3) := by decide +kernel
theorem dX9_cancel_86 : decode cX9_cancel 86 = .ok (.lxor, 1) := by decide +kernel
theorem dX9_cancel_87 : decode cX9_cancel 87 = .ok (.land, 1) := by decide +kernel
theorem dX9_cancel_88 : decode cX9_cancel 88 = .ok (.lstore 5, 2) := by decide +kernel
theorem dX9_cancel_90 : decode cX9_cancel 90 = .ok (.aload_n 0, 1) := by decide +kernel
theorem dX9_cancel_91 : decode cX9_cancel 91 = .ok (.iload 7, 2) := by decide +kernel
theorem dX9_cancel_93 : decode cX9_cancel 93 = .ok (.invokevirtual 210, 3) := by decide +kernel
theorem dX9_cancel_96 : decode cX9_cancel 96 = .ok (.istore 7, 2) := by decide +kernel
theorem dX9_cancel_98 : decode cX9_cancel 98 = .ok (.iinc 8 (-1), 3) := by decide +kernel
theorem dX9_cancel_101 : decode cX9_cancel 101 = .ok (.goto (-50), 3) := by decide +kernel
theorem dX9_cancel_104 : decode cX9_cancel 104 = .ok (.lload 5, 2) := by decide +kernel
theorem dX9_cancel_106 : decode cX9_cancel 106 = .ok (.aload_n 0, 1) := by decide +kernel
theorem dX9_cancel_107 : decode cX9_cancel 107 = .ok (.getfield 179, 3) := by decide +kernel
theorem dX9_cancel_110 : decode cX9_cancel 110 = .ok (.lxor, 1) := by decide +kernel
theorem dX9_cancel_111 : decode cX9_cancel 111 = .ok (.invokestatic 237, 3) := by decide +kernel
theorem dX9_cancel_114 : decode cX9_cancel 114 = .ok (.istore 8, 2) := by decide +kernel
theorem dX9_cancel_116 : decode cX9_cancel 116 = .ok (.iload 8, 2) := by decide +kernel
theorem dX9_cancel_118 : decode cX9_cancel 118 = .ok (.ifCond .ne 5, 3) := by decide +kernel
theorem dX9_cancel_121 : decode cX9_cancel 121 = .ok (.iconst 0, 1) := by decide +kernel
theorem dX9_cancel_122 : decode cX9_cancel 122 = .ok (.ireturn, 1) := by decide +kernel
theorem dX9_cancel_123 : decode cX9_cancel 123 = .ok (.aload_n 0, 1) := by decide +kernel
theorem dX9_cancel_124 : decode cX9_cancel 124 = .ok (.invokevirtual 232, 3) := by decide +kernel
theorem dX9_cancel_127 : decode cX9_cancel 127 = .ok (.aload_n 0, 1) := by decide +kernel
theorem dX9_cancel_128 : decode cX9_cancel 128 = .ok (.lload 5, 2) := by decide +kernel
theorem dX9_cancel_130 : decode cX9_cancel 130 = .ok (.putfield 179, 3) := by decide +kernel
theorem dX9_cancel_133 : decode cX9_cancel 133 = .ok (.iload 8, 2) := by decide +kernel
theorem dX9_cancel_135 : decode cX9_cancel 135 = .ok (.ireturn, 1) := by decide +kernel
theorem dX9_cause_0 : decode cX9_cause 0 = .ok (.aload_n 0, 1) := by decide +kernel
theorem dX9_cause_1 : decode cX9_cause 1 = .ok (.iconst 0, 1) := by decide +kernel
theorem dX9_cause_2 : decode cX9_cause 2 = .ok (.putfield 85, 3) := by decide +kernel
theorem dX9_cause_5 : decode cX9_cause 5 = .ok (.aload_n 0, 1) := by decide +kernel
theorem dX9_cause_6 : decode cX9_cause 6 = .ok (.iload_n 1, 1) := by decide +kernel
theorem dX9_cause_7 : decode cX9_cause 7 = .ok (.iload_n 2, 1) := by decide +kernel
theorem dX9_cause_8 : decode cX9_cause 8 = .ok (.iload_n 3, 1) := by decide +kernel
theorem dX9_cause_9 : decode cX9_cause 9 = .ok (.invokevirtual 346, 3) := by decide +kernel
theorem dX9_cause_12 : decode cX9_cause 12 = .ok (.ifCond .ne 5, 3) := by decide +kernel
theorem dX9_cause_15 : decode cX9_cause 15 = .ok (.iconst (-1), 1) := by decide +kernel
theorem dX9_cause_16 : decode cX9_cause 16 = .ok (.ireturn, 1) := by decide +kernel
theorem dX9_cause_17 : decode cX9_cause 17 = .ok (.aload_n 0, 1) := by decide +kernel
theorem dX9_cause_18 : decode cX9_cause 18 = .ok (.getfield 186, 3) := by decide +kernel
theorem dX9_cause_21 : decode cX9_cause 21 = .ok (.ifCond .eq 15, 3) := by decide +kernel
theorem dX9_cause_24 : decode cX9_cause 24 = .ok (.aload_n 0, 1) := by decide +kernel
theorem dX9_cause_25 : decode cX9_cause 25 = .ok (.iload_n 1, 1) := by decide +kernel
theorem dX9_cause_26 : decode cX9_cause 26 = .ok (.iload_n 2, 1) := by decide +kernel
theorem dX9_cause_27 : decode cX9_cause 27 = .ok (.iload_n 3, 1) := by decide +kernel
theorem dX9_cause_28 : decode cX9_cause 28 = .ok (.iconst 0, 1) := by decide +kernel
theorem dX9_cause_29 : decode cX9_cause 29 = .ok (.invokevirtual 349, 3) := by decide +kernel
theorem dX9_cause_32 : decode cX9_cause 32 = .ok (.iconst 2, 1) := by decide +kernel
theorem dX9_cause_33 : decode cX9_cause 33 = .ok (.if_icmp .eq 6, 3) := by decide +kernel
theorem dX9_cause_36 : decode cX9_cause 36 = .ok (.bipush (-2), 2) := by decide +kernel
theorem dX9_cause_38 : decode cX9_cause 38 = .ok (.ireturn, 1) := by decide +kernel
theorem dX9_cause_39 : decode cX9_cause 39 = .ok (.aload_n 0, 1) := by decide +kernel
theorem dX9_cause_40 : decode cX9_cause 40 = .ok (.aload_n 0, 1) := by decide +kernel
theorem dX9_cause_41 : decode cX9_cause 41 = .ok (.getfield 335, 3) := by decide +kernel
theorem dX9_cause_44 : decode cX9_cause 44 = .ok (.iload_n 1, 1) := by decide +kernel
theorem dX9_cause_45 : decode cX9_cause 45 = .ok (.iload_n 3, 1) := by decide +kernel
theorem dX9_cause_46 : decode cX9_cause 46 = .ok (.iconst 1, 1) := by decide +kernel
theorem dX9_cause_47 : decode cX9_cause 47 = .ok (.invokevirtual 338, 3) := by decide +kernel
theorem dX9_cause_50 : decode cX9_cause 50 = .ok (.aload_n 0, 1) := by decide +kernel
theorem dX9_cause_51 : decode cX9_cause 51 = .ok (.aload_n 0, 1) := by decide +kernel
theorem dX9_cause_52 : decode cX9_cause 52 = .ok (.getfield 335, 3) := by decide +kernel
theorem dX9_cause_55 : decode cX9_cause 55 = .ok (.iconst 1, 1) := by decide +kernel
theorem dX9_cause_56 : decode cX9_cause 56 = .ok (.invokevirtual 342, 3) := by decide +kernel
theorem dX9_cause_59 : decode cX9_cause 59 = .ok (.if_icmp .le 6, 3) := by decide +kernel
theorem dX9_cause_62 : decode cX9_cause 62 = .ok (.bipush (-3), 2) := by decide +kernel
theorem dX9_cause_64 : decode cX9_cause 64 = .ok (.ireturn, 1) := by decide +kernel
theorem dX9_cause_65 : decode cX9_cause 65 = .ok (.aload_n 0, 1) := by decide +kernel
theorem dX9_cause_66 : decode cX9_cause 66 = .ok (.getfield 335, 3) := by decide +kernel
theorem dX9_cause_69 : decode cX9_cause 69 = .ok (.iconst 1, 1) := by decide +kernel
theorem dX9_cause_70 : decode cX9_cause 70 = .ok (.isub, 1) := by decide +kernel
theorem dX9_cause_71 : decode cX9_cause 71 = .ok (.istore 4, 2) := by decide +kernel
theorem dX9_cause_73 : decode cX9_cause 73 = .ok (.iload 4, 2) := by decide +kernel
theorem dX9_cause_75 : decode cX9_cause 75 = .ok (.ifCond .lt 27, 3) := by decide +kernel
theorem dX9_cause_78 : decode cX9_cause 78 = .ok (.aload_n 0, 1) := by decide +kernel
theorem dX9_cause_79 : decode cX9_cause 79 = .ok (.getfield 26, 3) := by decide +kernel
theorem dX9_cause_82 : decode cX9_cause 82 = .ok (.aload_n 0, 1) := by decide +kernel
theorem dX9_cause_83 : decode cX9_cause 83 = .ok (.getfield 76, 3) := by decide +kernel
theorem dX9_cause_86 : decode cX9_cause 86 = .ok (.iload 4, 2) := by decide +kernel
theorem dX9_cause_88 : decode cX9_cause 88 = .ok (.iaload, 1) := by decide +kernel
theorem dX9_cause_89 : decode cX9_cause 89 = .ok (.iaload, 1) := by decide +kernel
theorem dX9_cause_90 : decode cX9_cause 90 = .ok (.ifCond .eq 6, 3) := by decide +kernel
theorem dX9_cause_93 : decode cX9_cause 93 = .ok (.iload 4, 2) := by decide +kernel
theorem dX9_cause_95 : decode cX9_cause 95 = .ok (.ireturn, 1) := by decide +kernel
theorem dX9_cause_96 : decode cX9_cause 96 = .ok (.iinc 4 (-1), 3) := by decide +kernel
theorem dX9_cause_99 : decode cX9_cause 99 = .ok (.goto (-26), 3) := by decide +kernel
theorem dX9_cause_102 : decode cX9_cause 102 = .ok (.aload_n 0, 1) := by decide +kernel
theorem dX9_cause_103 : decode cX9_cause 103 = .ok (.getfield 335, 3) := by decide +kernel
theorem dX9_cause_106 : decode cX9_cause 106 = .ok (.ireturn, 1) := by decide +kernel
theorem dX9_change_0 : decode cX9_change 0 = .ok (.aload_n 0, 1) := by decide +kernel
theorem dX9_change_1 : decode cX9_change 1 = .ok (.iconst 0, 1) := by decide +kernel
theorem dX9_change_2 : decode cX9_change 2 = .ok (.putfield 85, 3) := by decide +kernel
theorem dX9_change_5 : decode cX9_change 5 = .ok (.aload_n 0, 1) := by decide +kernel
theorem dX9_change_6 : decode cX9_change 6 = .ok (.iload_n 1, 1) := by decide +kernel
theorem dX9_change_7 : decode cX9_change 7 = .ok (.invokevirtual 213, 3) := by decide +kernel
theorem dX9_change_10 : decode cX9_change 10 = .ok (.ifCond .eq 14, 3) := by decide +kernel
theorem dX9_change_13 : decode cX9_change 13 = .ok (.aload_n 0, 1) := by decide +kernel
theorem dX9_change_14 : decode cX9_change 14 = .ok (.getfield 13, 3) := by decide +kernel
theorem dX9_change_17 : decode cX9_change 17 = .ok (.iconst 5, 1) := by decide +kernel
theorem dX9_change_18 : decode cX9_change 18 = .ok (.iload_n 1, 1) := by decide +kernel
theorem dX9_change_19 : decode cX9_change 19 = .ok (.iadd, 1) := by decide +kernel
theorem dX9_change_20 : decode cX9_change 20 = .ok (.iaload, 1) := by decide +kernel
theorem dX9_change_21 : decode cX9_change 21 = .ok (.goto 4, 3) := by decide +kernel
theorem dX9_change_24 : decode cX9_change 24 = .ok (.iconst (-1), 1) := by decide +kernel
theorem dX9_change_25 : decode cX9_change 25 = .ok (.ireturn, 1) := by decide +kernel
theorem dX9_changed_0 : decode cX9_changed 0 = .ok (.lconst 0, 1) := by decide +kernel
theorem dX9_changed_1 : decode cX9_changed 1 = .ok (.lstore_n 3, 1) := by decide +kernel
theorem dX9_changed_2 : decode cX9_changed 2 = .ok (.iconst 0, 1) := by decide +kernel
theorem dX9_changed_3 : decode cX9_changed 3 = .ok (.istore 5, 2) := by decide +kernel
theorem dX9_changed_5 : decode cX9_changed 5 = .ok (.iload 5, 2) := by decide +kernel
theorem dX9_changed_7 : decode cX9_changed 7 = .ok (.aload_n 0, 1) := by decide +kernel
theorem dX9_changed_8 : decode cX9_changed 8 = .ok (.invokevirtual 198, 3) := by decide +kernel
theorem dX9_changed_11 : decode cX9_changed 11 = .ok (.if_icmp .ge 34, 3) := by decide +kernel
theorem dX9_changed_14 : decode cX9_changed 14 = .ok (.lload_n 3, 1) := by decide +kernel
theorem dX9_changed_15 : decode cX9_changed 15 = .ok (.lload_n 1, 1) := by decide +kernel
theorem dX9_changed_16 : decode cX9_changed 16 = .ok (.iload 5, 2) := by decide +kernel
theorem dX9_changed_18 : decode cX9_changed 18 = .ok (.lshr, 1) := by decide +kernel
theorem dX9_changed_19 : decode cX9_changed 19 = .ok (.lconst 1, 1) := by decide +kernel
theorem dX9_changed_20 : decode cX9_changed 20 = .ok (.land, 1) := by decide +kernel
theorem dX9_changed_21 : decode cX9_changed 21 = .ok (.lconst 1, 1) := by decide +kernel
theorem dX9_changed_22 : decode cX9_changed 22 = .ok (.lcmp, 1) := by decide +kernel
theorem dX9_changed_23 : decode cX9_changed 23 = .ok (.ifCond .ne 13, 3) := by decide +kernel
theorem dX9_changed_26 : decode cX9_changed 26 = .ok (.aload_n 0, 1) := by decide +kernel
theorem dX9_changed_27 : decode cX9_changed 27 = .ok (.getfield 42, 3) := by decide +kernel
theorem dX9_changed_30 : decode cX9_changed 30 = .ok (.iload 5, 2) := by decide +kernel
theorem dX9_changed_32 : decode cX9_changed 32 = .ok (.laload, 1) := by decide +kernel
theorem dX9_changed_33 : decode cX9_changed 33 = .ok (.goto 4, 3) := by decide +kernel
theorem dX9_changed_36 : decode cX9_changed 36 = .ok (.lconst 0, 1) := by decide +kernel
theorem dX9_changed_37 : decode cX9_changed 37 = .ok (.lor, 1) := by decide +kernel
theorem dX9_changed_38 : decode cX9_changed 38 = .ok (.lstore_n 3, 1) := by decide +kernel
theorem dX9_changed_39 : decode cX9_changed 39 = .ok (.iinc 5 1, 3) := by decide +kernel
theorem dX9_changed_42 : decode cX9_changed 42 = .ok (.goto (-37), 3) := by decide +kernel
theorem dX9_changed_45 : decode cX9_changed 45 = .ok (.aload_n 0, 1) := by decide +kernel
theorem dX9_changed_46 : decode cX9_changed 46 = .ok (.lload_n 3, 1) := by decide +kernel
theorem dX9_changed_47 : decode cX9_changed 47 = .ok (.invokevirtual 253, 3) := by decide +kernel
theorem dX9_changed_50 : decode cX9_changed 50 = .ok (.lreturn, 1) := by decide +kernel
theorem dX9_checked_0 : decode cX9_checked 0 = .ok (.aload_n 0, 1) := by decide +kernel
theorem dX9_checked_1 : decode cX9_checked 1 = .ok (.iconst 0, 1) := by decide +kernel
theorem dX9_checked_2 : decode cX9_checked 2 = .ok (.putfield 85, 3) := by decide +kernel
theorem dX9_checked_5 : decode cX9_checked 5 = .ok (.aload_n 0, 1) := by decide +kernel
theorem dX9_checked_6 : decode cX9_checked 6 = .ok (.iload_n 1, 1) := by decide +kernel
theorem dX9_checked_7 : decode cX9_checked 7 = .ok (.iload_n 2, 1) := by decide +kernel
theorem dX9_checked_8 : decode cX9_checked 8 = .ok (.iload_n 3, 1) := by decide +kernel
theorem dX9_checked_9 : decode cX9_checked 9 = .ok (.invokevirtual 346, 3) := by decide +kernel
theorem dX9_checked_12 : decode cX9_checked 12 = .ok (.ifCond .eq 14, 3) := by decide +kernel
theorem dX9_checked_15 : decode cX9_checked 15 = .ok (.iload 5, 2) := by decide +kernel
theorem dX9_checked_17 : decode cX9_checked 17 = .ok (.ifCond .lt 9, 3) := by decide +kernel
theorem dX9_checked_20 : decode cX9_checked 20 = .ok (.iload 5, 2) := by decide +kernel
theorem dX9_checked_22 : decode cX9_checked 22 = .ok (.iconst 2, 1) := by decide +kernel
theorem dX9_checked_23 : decode cX9_checked 23 = .ok (.if_icmp .le 5, 3) := by decide +kernel
theorem dX9_checked_26 : decode cX9_checked 26 = .ok (.iconst (-1), 1) := by decide +kernel
theorem dX9_checked_27 : decode cX9_checked 27 = .ok (.ireturn, 1) := by decide +kernel
theorem dX9_checked_28 : decode cX9_checked 28 = .ok (.aload_n 0, 1) := by decide +kernel
theorem dX9_checked_29 : decode cX9_checked 29 = .ok (.getfield 186, 3) := by decide +kernel
theorem dX9_checked_32 : decode cX9_checked 32 = .ok (.ifCond .ne 6, 3) := by decide +kernel
theorem dX9_checked_35 : decode cX9_checked 35 = .ok (.bipush (-3), 2) := by decide +kernel
theorem dX9_checked_37 : decode cX9_checked 37 = .ok (.ireturn, 1) := by decide +kernel
theorem dX9_checked_38 : decode cX9_checked 38 = .ok (.aload_n 0, 1) := by decide +kernel
theorem dX9_checked_39 : decode cX9_checked 39 = .ok (.iload_n 1, 1) := by decide +kernel
theorem dX9_checked_40 : decode cX9_checked 40 = .ok (.iload_n 2, 1) := by decide +kernel
theorem dX9_checked_41 : decode cX9_checked 41 = .ok (.iload_n 3, 1) := by decide +kernel
theorem dX9_checked_42 : decode cX9_checked 42 = .ok (.iload 4, 2) := by decide +kernel
theorem dX9_checked_44 : decode cX9_checked 44 = .ok (.invokevirtual 349, 3) := by decide +kernel
theorem dX9_checked_47 : decode cX9_checked 47 = .ok (.istore 6, 2) := by decide +kernel
theorem dX9_checked_49 : decode cX9_checked 49 = .ok (.iload 5, 2) := by decide +kernel
theorem dX9_checked_51 : decode cX9_checked 51 = .ok (.ifCond .ne 6, 3) := by decide +kernel
theorem dX9_checked_54 : decode cX9_checked 54 = .ok (.iload 6, 2) := by decide +kernel
theorem dX9_checked_56 : decode cX9_checked 56 = .ok (.ireturn, 1) := by decide +kernel
theorem dX9_checked_57 : decode cX9_checked 57 = .ok (.iload 5, 2) := by decide +kernel
theorem dX9_checked_59 : decode cX9_checked 59 = .ok (.iconst 1, 1) := by decide +kernel
theorem dX9_checked_60 : decode cX9_checked 60 = .ok (.if_icmp .ne 18, 3) := by decide +kernel
theorem dX9_checked_63 : decode cX9_checked 63 = .ok (.iload 6, 2) := by decide +kernel
theorem dX9_checked_65 : decode cX9_checked 65 = .ok (.ifCond .ne 8, 3) := by decide +kernel
theorem dX9_checked_68 : decode cX9_checked 68 = .ok (.bipush (-2), 2) := by decide +kernel
theorem dX9_checked_70 : decode cX9_checked 70 = .ok (.goto 7, 3) := by decide +kernel
theorem dX9_checked_73 : decode cX9_checked 73 = .ok (.aload_n 0, 1) := by decide +kernel
theorem dX9_checked_74 : decode cX9_checked 74 = .ok (.getfield 335, 3) := by decide +kernel
theorem dX9_checked_77 : decode cX9_checked 77 = .ok (.ireturn, 1) := by decide +kernel
theorem dX9_checked_78 : decode cX9_checked 78 = .ok (.aload_n 0, 1) := by decide +kernel
theorem dX9_checked_79 : decode cX9_checked 79 = .ok (.getfield 76, 3) := by decide +kernel
theorem dX9_checked_82 : decode cX9_checked 82 = .ok (.aload_n 0, 1) := by decide +kernel
theorem dX9_checked_83 : decode cX9_checked 83 = .ok (.getfield 186, 3) := by decide +kernel
theorem dX9_checked_86 : decode cX9_checked 86 = .ok (.iconst 1, 1) := by decide +kernel
theorem dX9_checked_87 : decode cX9_checked 87 = .ok (.isub, 1) := by decide +kernel
theorem dX9_checked_88 : decode cX9_checked 88 = .ok (.iaload, 1) := by decide +kernel
theorem dX9_checked_89 : decode cX9_checked 89 = .ok (.istore 7, 2) := by decide +kernel
theorem dX9_checked_91 : decode cX9_checked 91 = .ok (.iload 6, 2) := by decide +kernel
theorem dX9_checked_93 : decode cX9_checked 93 = .ok (.ifCond .ne 43, 3) := by decide +kernel
theorem dX9_checked_96 : decode cX9_checked 96 = .ok (.aload_n 0, 1) := by decide +kernel
theorem dX9_checked_97 : decode cX9_checked 97 = .ok (.iload 7, 2) := by decide +kernel
theorem dX9_checked_99 : decode cX9_checked 99 = .ok (.iconst 4, 1) := by decide +kernel
theorem dX9_checked_100 : decode cX9_checked 100 = .ok (.invokevirtual 201, 3) := by decide +kernel
theorem dX9_checked_103 : decode cX9_checked 103 = .ok (.iload 4, 2) := by decide +kernel
theorem dX9_checked_105 : decode cX9_checked 105 = .ok (.ifCond .eq 7, 3) := by decide +kernel
theorem dX9_checked_108 : decode cX9_checked 108 = .ok (.iconst 0, 1) := by decide +kernel
theorem dX9_checked_109 : decode cX9_checked 109 = .ok (.goto 10, 3) := by decide +kernel
theorem dX9_checked_112 : decode cX9_checked 112 = .ok (.aload_n 0, 1) := by decide +kernel
theorem dX9_checked_113 : decode cX9_checked 113 = .ok (.getfield 26, 3) := by decide +kernel
theorem dX9_checked_116 : decode cX9_checked 116 = .ok (.iload 7, 2) := by decide +kernel
theorem dX9_checked_118 : decode cX9_checked 118 = .ok (.iaload, 1) := by decide +kernel
theorem dX9_checked_119 : decode cX9_checked 119 = .ok (.iadd, 1) := by decide +kernel
theorem dX9_checked_120 : decode cX9_checked 120 = .ok (.aload_n 0, 1) := by decide +kernel
theorem dX9_checked_121 : decode cX9_checked 121 = .ok (.aload_n 0, 1) := by decide +kernel
theorem dX9_checked_122 : decode cX9_checked 122 = .ok (.iload 7, 2) := by decide +kernel
theorem dX9_checked_124 : decode cX9_checked 124 = .ok (.iconst 2, 1) := by decide +kernel
theorem dX9_checked_125 : decode cX9_checked 125 = .ok (.invokevirtual 201, 3) := by decide +kernel
theorem dX9_checked_128 : decode cX9_checked 128 = .ok (.iload_n 2, 1) := by decide +kernel
theorem dX9_checked_129 : decode cX9_checked 129 = .ok (.invokevirtual 216, 3) := by decide +kernel
theorem dX9_checked_132 : decode cX9_checked 132 = .ok (.iadd, 1) := by decide +kernel
theorem dX9_checked_133 : decode cX9_checked 133 = .ok (.goto 5, 3) := by decide +kernel
theorem dX9_checked_136 : decode cX9_checked 136 = .ok (.bipush (-2), 2) := by decide +kernel
theorem dX9_checked_138 : decode cX9_checked 138 = .ok (.ireturn, 1) := by decide +kernel
theorem dX9_closes_0 : decode cX9_closes 0 = .ok (.iconst 0, 1) := by decide +kernel
theorem dX9_closes_1 : decode cX9_closes 1 = .ok (.istore_n 1, 1) := by decide +kernel
theorem dX9_closes_2 : decode cX9_closes 2 = .ok (.iload_n 1, 1) := by decide +kernel
theorem dX9_closes_3 : decode cX9_closes 3 = .ok (.bipush 10, 2) := by decide +kernel
theorem dX9_closes_5 : decode cX9_closes 5 = .ok (.if_icmp .ge 103, 3) := by decide +kernel
theorem dX9_closes_8 : decode cX9_closes 8 = .ok (.iconst 0, 1) := by decide +kernel
theorem dX9_closes_9 : decode cX9_closes 9 = .ok (.istore_n 2, 1) := by decide +kernel
theorem dX9_closes_10 : decode cX9_closes 10 = .ok (.iload_n 2, 1) := by decide +kernel
theorem dX9_closes_11 : decode cX9_closes 11 = .ok (.bipush 10, 2) := by decide +kernel
theorem dX9_closes_13 : decode cX9_closes 13 = .ok (.if_icmp .ge 89, 3) := by decide +kernel
theorem dX9_closes_16 : decode cX9_closes 16 = .ok (.iconst 0, 1) := by decide +kernel
theorem dX9_closes_17 : decode cX9_closes 17 = .ok (.istore_n 3, 1) := by decide +kernel
theorem dX9_closes_18 : decode cX9_closes 18 = .ok (.iload_n 3, 1) := by decide +kernel
theorem dX9_closes_19 : decode cX9_closes 19 = .ok (.bipush 10, 2) := by decide +kernel
theorem dX9_closes_21 : decode cX9_closes 21 = .ok (.if_icmp .ge 75, 3) := by decide +kernel
theorem dX9_closes_24 : decode cX9_closes 24 = .ok (.aload_n 0, 1) := by decide +kernel
theorem dX9_closes_25 : decode cX9_closes 25 = .ok (.getfield 13, 3) := by decide +kernel
theorem dX9_closes_28 : decode cX9_closes 28 = .ok (.bipush 15, 2) := by decide +kernel
theorem dX9_closes_30 : decode cX9_closes 30 = .ok (.bipush 10, 2) := by decide +kernel
theorem dX9_closes_32 : decode cX9_closes 32 = .ok (.iload_n 2, 1) := by decide +kernel
theorem dX9_closes_33 : decode cX9_closes 33 = .ok (.imul, 1) := by decide +kernel
theorem dX9_closes_34 : decode cX9_closes 34 = .ok (.iadd, 1) := by decide +kernel
theorem dX9_closes_35 : decode cX9_closes 35 = .ok (.iload_n 1, 1) := by decide +kernel
theorem dX9_closes_36 : decode cX9_closes 36 = .ok (.iadd, 1) := by decide +kernel
theorem dX9_closes_37 : decode cX9_closes 37 = .ok (.iaload, 1) := by decide +kernel
theorem dX9_closes_38 : decode cX9_closes 38 = .ok (.aload_n 0, 1) := by decide +kernel
theorem dX9_closes_39 : decode cX9_closes 39 = .ok (.getfield 13, 3) := by decide +kernel
theorem dX9_closes_42 : decode cX9_closes 42 = .ok (.bipush 15, 2) := by decide +kernel
theorem dX9_closes_44 : decode cX9_closes 44 = .ok (.bipush 10, 2) := by decide +kernel
theorem dX9_closes_46 : decode cX9_closes 46 = .ok (.iload_n 1, 1) := by decide +kernel
theorem dX9_closes_47 : decode cX9_closes 47 = .ok (.imul, 1) := by decide +kernel
theorem dX9_closes_48 : decode cX9_closes 48 = .ok (.iadd, 1) := by decide +kernel
theorem dX9_closes_49 : decode cX9_closes 49 = .ok (.iload_n 3, 1) := by decide +kernel
theorem dX9_closes_50 : decode cX9_closes 50 = .ok (.iadd, 1) := by decide +kernel
theorem dX9_closes_51 : decode cX9_closes 51 = .ok (.iaload, 1) := by decide +kernel
theorem dX9_closes_52 : decode cX9_closes 52 = .ok (.iadd, 1) := by decide +kernel
theorem dX9_closes_53 : decode cX9_closes 53 = .ok (.istore 4, 2) := by decide +kernel
theorem dX9_closes_55 : decode cX9_closes 55 = .ok (.iload 4, 2) := by decide +kernel
theorem dX9_closes_57 : decode cX9_closes 57 = .ok (.aload_n 0, 1) := by decide +kernel
theorem dX9_closes_58 : decode cX9_closes 58 = .ok (.getfield 13, 3) := by decide +kernel
theorem dX9_closes_61 : decode cX9_closes 61 = .ok (.bipush 15, 2) := by decide +kernel
theorem dX9_closes_63 : decode cX9_closes 63 = .ok (.bipush 10, 2) := by decide +kernel
theorem dX9_closes_65 : decode cX9_closes 65 = .ok (.iload_n 2, 1) := by decide +kernel
theorem dX9_closes_66 : decode cX9_closes 66 = .ok (.imul, 1) := by decide +kernel
theorem dX9_closes_67 : decode cX9_closes 67 = .ok (.iadd, 1) := by decide +kernel
theorem dX9_closes_68 : decode cX9_closes 68 = .ok (.iload_n 3, 1) := by decide +kernel
theorem dX9_closes_69 : decode cX9_closes 69 = .ok (.iadd, 1) := by decide +kernel
theorem dX9_closes_70 : decode cX9_closes 70 = .ok (.iaload, 1) := by decide +kernel
theorem dX9_closes_71 : decode cX9_closes 71 = .ok (.if_icmp .ge 19, 3) := by decide +kernel
theorem dX9_closes_74 : decode cX9_closes 74 = .ok (.aload_n 0, 1) := by decide +kernel
theorem dX9_closes_75 : decode cX9_closes 75 = .ok (.getfield 13, 3) := by decide +kernel
theorem dX9_closes_78 : decode cX9_closes 78 = .ok (.bipush 15, 2) := by decide +kernel
theorem dX9_closes_80 : decode cX9_closes 80 = .ok (.bipush 10, 2) := by decide +kernel
theorem dX9_closes_82 : decode cX9_closes 82 = .ok (.iload_n 2, 1) := by decide +kernel
theorem dX9_closes_83 : decode cX9_closes 83 = .ok (.imul, 1) := by decide +kernel
theorem dX9_closes_84 : decode cX9_closes 84 = .ok (.iadd, 1) := by decide +kernel
theorem dX9_closes_85 : decode cX9_closes 85 = .ok (.iload_n 3, 1) := by decide +kernel
theorem dX9_closes_86 : decode cX9_closes 86 = .ok (.iadd, 1) := by decide +kernel
theorem dX9_closes_87 : decode cX9_closes 87 = .ok (.iload 4, 2) := by decide +kernel
theorem dX9_closes_89 : decode cX9_closes 89 = .ok (.iastore, 1) := by decide +kernel
theorem dX9_closes_90 : decode cX9_closes 90 = .ok (.iinc 3 1, 3) := by decide +kernel
theorem dX9_closes_93 : decode cX9_closes 93 = .ok (.goto (-75), 3) := by decide +kernel
theorem dX9_closes_96 : decode cX9_closes 96 = .ok (.iinc 2 1, 3) := by decide +kernel
theorem dX9_closes_99 : decode cX9_closes 99 = .ok (.goto (-89), 3) := by decide +kernel
theorem dX9_closes_102 : decode cX9_closes 102 = .ok (.iinc 1 1, 3) := by decide +kernel
theorem dX9_closes_105 : decode cX9_closes 105 = .ok (.goto (-103), 3) := by decide +kernel
theorem dX9_closes_108 : decode cX9_closes 108 = .ok (.return_, 1) := by decide +kernel
theorem dX9_comesTo_0 : decode cX9_comesTo 0 = .ok (.iload_n 1, 1) := by decide +kernel
theorem dX9_comesTo_1 : decode cX9_comesTo 1 = .ok (.iload_n 2, 1) := by decide +kernel
theorem dX9_comesTo_2 : decode cX9_comesTo 2 = .ok (.if_icmp .ne 7, 3) := by decide +kernel
theorem dX9_comesTo_5 : decode cX9_comesTo 5 = .ok (.iload_n 3, 1) := by decide +kernel
theorem dX9_comesTo_6 : decode cX9_comesTo 6 = .ok (.goto 11, 3) := by decide +kernel
theorem dX9_comesTo_9 : decode cX9_comesTo 9 = .ok (.aload_n 0, 1) := by decide +kernel
theorem dX9_comesTo_10 : decode cX9_comesTo 10 = .ok (.iload_n 1, 1) := by decide +kernel
theorem dX9_comesTo_11 : decode cX9_comesTo 11 = .ok (.iload_n 2, 1) := by decide +kernel
theorem dX9_comesTo_12 : decode cX9_comesTo 12 = .ok (.iload_n 3, 1) := by decide +kernel
theorem dX9_comesTo_13 : decode cX9_comesTo 13 = .ok (.iconst 4, 1) := by decide +kernel
theorem dX9_comesTo_14 : decode cX9_comesTo 14 = .ok (.invokevirtual 316, 3) := by decide +kernel
theorem dX9_comesTo_17 : decode cX9_comesTo 17 = .ok (.ireturn, 1) := by decide +kernel
theorem dX9_costOfFewer_0 : decode cX9_costOfFewer 0 = .ok (.aload_n 0, 1) := by decide +kernel
theorem dX9_costOfFewer_1 : decode cX9_costOfFewer 1 = .ok (.iconst 0, 1) := by decide +kernel
theorem dX9_costOfFewer_2 : decode cX9_costOfFewer 2 = .ok (.putfield 85, 3) := by decide +kernel
theorem dX9_costOfFewer_5 : decode cX9_costOfFewer 5 = .ok (.aload_n 0, 1) := by decide +kernel
theorem dX9_costOfFewer_6 : decode cX9_costOfFewer 6 = .ok (.iload_n 1, 1) := by decide +kernel
theorem dX9_costOfFewer_7 : decode cX9_costOfFewer 7 = .ok (.iload_n 2, 1) := by decide +kernel
theorem dX9_costOfFewer_8 : decode cX9_costOfFewer 8 = .ok (.invokevirtual 287, 3) := by decide +kernel
theorem dX9_costOfFewer_11 : decode cX9_costOfFewer 11 = .ok (.ifCond .eq 22, 3) := by decide +kernel
theorem dX9_costOfFewer_14 : decode cX9_costOfFewer 14 = .ok (.iload_n 3, 1) := by decide +kernel
theorem dX9_costOfFewer_15 : decode cX9_costOfFewer 15 = .ok (.invokestatic 320, 3) := by decide +kernel
theorem dX9_costOfFewer_18 : decode cX9_costOfFewer 18 = .ok (.ifCond .eq 15, 3) := by decide +kernel
theorem dX9_costOfFewer_21 : decode cX9_costOfFewer 21 = .ok (.iload 4, 2) := by decide +kernel
theorem dX9_costOfFewer_23 : decode cX9_costOfFewer 23 = .ok (.iconst 1, 1) := by decide +kernel
theorem dX9_costOfFewer_24 : decode cX9_costOfFewer 24 = .ok (.if_icmp .lt 9, 3) := by decide +kernel
theorem dX9_costOfFewer_27 : decode cX9_costOfFewer 27 = .ok (.iload 4, 2) := by decide +kernel
theorem dX9_costOfFewer_29 : decode cX9_costOfFewer 29 = .ok (.iconst 4, 1) := by decide +kernel
theorem dX9_costOfFewer_30 : decode cX9_costOfFewer 30 = .ok (.if_icmp .le 7, 3) := by decide +kernel
theorem dX9_costOfFewer_33 : decode cX9_costOfFewer 33 = .ok (.sipush (-1000), 3) := by decide +kernel
theorem dX9_costOfFewer_36 : decode cX9_costOfFewer 36 = .ok (.ireturn, 1) := by decide +kernel
theorem dX9_costOfFewer_37 : decode cX9_costOfFewer 37 = .ok (.aload_n 0, 1) := by decide +kernel
theorem dX9_costOfFewer_38 : decode cX9_costOfFewer 38 = .ok (.invokevirtual 290, 3) := by decide +kernel
theorem dX9_costOfFewer_41 : decode cX9_costOfFewer 41 = .ok (.aload_n 0, 1) := by decide +kernel
theorem dX9_costOfFewer_42 : decode cX9_costOfFewer 42 = .ok (.iload_n 1, 1) := by decide +kernel
theorem dX9_costOfFewer_43 : decode cX9_costOfFewer 43 = .ok (.iload_n 2, 1) := by decide +kernel
theorem dX9_costOfFewer_44 : decode cX9_costOfFewer 44 = .ok (.iload_n 3, 1) := by decide +kernel
theorem dX9_costOfFewer_45 : decode cX9_costOfFewer 45 = .ok (.iload 4, 2) := by decide +kernel
theorem dX9_costOfFewer_47 : decode cX9_costOfFewer 47 = .ok (.invokevirtual 316, 3) := by decide +kernel
theorem dX9_costOfFewer_50 : decode cX9_costOfFewer 50 = .ok (.istore 5, 2) := by decide +kernel
theorem dX9_costOfFewer_52 : decode cX9_costOfFewer 52 = .ok (.iload 5, 2) := by decide +kernel
theorem dX9_costOfFewer_54 : decode cX9_costOfFewer 54 = .ok (.ldc 175, 2) := by decide +kernel
theorem dX9_costOfFewer_56 : decode cX9_costOfFewer 56 = .ok (.if_icmp .lt 7, 3) := by decide +kernel
theorem dX9_costOfFewer_59 : decode cX9_costOfFewer 59 = .ok (.sipush (-1000), 3) := by decide +kernel
theorem dX9_costOfFewer_62 : decode cX9_costOfFewer 62 = .ok (.ireturn, 1) := by decide +kernel
theorem dX9_costOfFewer_63 : decode cX9_costOfFewer 63 = .ok (.aload_n 0, 1) := by decide +kernel
theorem dX9_costOfFewer_64 : decode cX9_costOfFewer 64 = .ok (.iload_n 1, 1) := by decide +kernel
theorem dX9_costOfFewer_65 : decode cX9_costOfFewer 65 = .ok (.iload_n 2, 1) := by decide +kernel
theorem dX9_costOfFewer_66 : decode cX9_costOfFewer 66 = .ok (.iload_n 3, 1) := by decide +kernel
theorem dX9_costOfFewer_67 : decode cX9_costOfFewer 67 = .ok (.iload 4, 2) := by decide +kernel
theorem dX9_costOfFewer_69 : decode cX9_costOfFewer 69 = .ok (.iconst 1, 1) := by decide +kernel
theorem dX9_costOfFewer_70 : decode cX9_costOfFewer 70 = .ok (.isub, 1) := by decide +kernel
theorem dX9_costOfFewer_71 : decode cX9_costOfFewer 71 = .ok (.invokevirtual 316, 3) := by decide +kernel
theorem dX9_costOfFewer_74 : decode cX9_costOfFewer 74 = .ok (.istore 6, 2) := by decide +kernel
theorem dX9_costOfFewer_76 : decode cX9_costOfFewer 76 = .ok (.iload 6, 2) := by decide +kernel
theorem dX9_costOfFewer_78 : decode cX9_costOfFewer 78 = .ok (.ldc 175, 2) := by decide +kernel
theorem dX9_costOfFewer_80 : decode cX9_costOfFewer 80 = .ok (.if_icmp .lt 9, 3) := by decide +kernel
theorem dX9_costOfFewer_83 : decode cX9_costOfFewer 83 = .ok (.sipush 5000, 3) := by decide +kernel
theorem dX9_costOfFewer_86 : decode cX9_costOfFewer 86 = .ok (.goto 8, 3) := by decide +kernel
theorem dX9_costOfFewer_89 : decode cX9_costOfFewer 89 = .ok (.iload 6, 2) := by decide +kernel
theorem dX9_costOfFewer_91 : decode cX9_costOfFewer 91 = .ok (.iload 5, 2) := by decide +kernel
theorem dX9_costOfFewer_93 : decode cX9_costOfFewer 93 = .ok (.isub, 1) := by decide +kernel
theorem dX9_costOfFewer_94 : decode cX9_costOfFewer 94 = .ok (.ireturn, 1) := by decide +kernel
theorem dX9_count_0 : decode cX9_count 0 = .ok (.aload_n 0, 1) := by decide +kernel
theorem dX9_count_1 : decode cX9_count 1 = .ok (.iconst 0, 1) := by decide +kernel
theorem dX9_count_2 : decode cX9_count 2 = .ok (.putfield 85, 3) := by decide +kernel
theorem dX9_count_5 : decode cX9_count 5 = .ok (.iload_n 1, 1) := by decide +kernel
theorem dX9_count_6 : decode cX9_count 6 = .ok (.tableswitch 102 0 8 #[50, 55, 62, 69, 74, 82, 87, 92, 97], 50) := by decide +kernel
theorem dX9_count_56 : decode cX9_count 56 = .ok (.aload_n 0, 1) := by decide +kernel
theorem dX9_count_57 : decode cX9_count 57 = .ok (.invokevirtual 195, 3) := by decide +kernel
theorem dX9_count_60 : decode cX9_count 60 = .ok (.ireturn, 1) := by decide +kernel
theorem dX9_count_61 : decode cX9_count 61 = .ok (.aload_n 0, 1) := by decide +kernel
theorem dX9_count_62 : decode cX9_count 62 = .ok (.getfield 13, 3) := by decide +kernel
theorem dX9_count_65 : decode cX9_count 65 = .ok (.iconst 1, 1) := by decide +kernel
theorem dX9_count_66 : decode cX9_count 66 = .ok (.iaload, 1) := by decide +kernel
theorem dX9_count_67 : decode cX9_count 67 = .ok (.ireturn, 1) := by decide +kernel
theorem dX9_count_68 : decode cX9_count 68 = .ok (.aload_n 0, 1) := by decide +kernel
theorem dX9_count_69 : decode cX9_count 69 = .ok (.getfield 13, 3) := by decide +kernel
theorem dX9_count_72 : decode cX9_count 72 = .ok (.iconst 2, 1) := by decide +kernel
theorem dX9_count_73 : decode cX9_count 73 = .ok (.iaload, 1) := by decide +kernel
theorem dX9_count_74 : decode cX9_count 74 = .ok (.ireturn, 1) := by decide +kernel
theorem dX9_count_75 : decode cX9_count 75 = .ok (.aload_n 0, 1) := by decide +kernel
theorem dX9_count_76 : decode cX9_count 76 = .ok (.invokevirtual 198, 3) := by decide +kernel
theorem dX9_count_79 : decode cX9_count 79 = .ok (.ireturn, 1) := by decide +kernel
theorem dX9_count_80 : decode cX9_count 80 = .ok (.aload_n 0, 1) := by decide +kernel
theorem dX9_count_81 : decode cX9_count 81 = .ok (.getfield 179, 3) := by decide +kernel
theorem dX9_count_84 : decode cX9_count 84 = .ok (.invokestatic 237, 3) := by decide +kernel
theorem dX9_count_87 : decode cX9_count 87 = .ok (.ireturn, 1) := by decide +kernel
theorem dX9_count_88 : decode cX9_count 88 = .ok (.aload_n 0, 1) := by decide +kernel
theorem dX9_count_89 : decode cX9_count 89 = .ok (.invokevirtual 358, 3) := by decide +kernel
theorem dX9_count_92 : decode cX9_count 92 = .ok (.ireturn, 1) := by decide +kernel
theorem dX9_count_93 : decode cX9_count 93 = .ok (.aload_n 0, 1) := by decide +kernel
theorem dX9_count_94 : decode cX9_count 94 = .ok (.getfield 186, 3) := by decide +kernel
theorem dX9_count_97 : decode cX9_count 97 = .ok (.ireturn, 1) := by decide +kernel
theorem dX9_count_98 : decode cX9_count 98 = .ok (.aload_n 0, 1) := by decide +kernel
theorem dX9_count_99 : decode cX9_count 99 = .ok (.getfield 183, 3) := by decide +kernel
theorem dX9_count_102 : decode cX9_count 102 = .ok (.ireturn, 1) := by decide +kernel
theorem dX9_count_103 : decode cX9_count 103 = .ok (.aload_n 0, 1) := by decide +kernel
theorem dX9_count_104 : decode cX9_count 104 = .ok (.getfield 88, 3) := by decide +kernel
theorem dX9_count_107 : decode cX9_count 107 = .ok (.ireturn, 1) := by decide +kernel
theorem dX9_count_108 : decode cX9_count 108 = .ok (.iconst (-1), 1) := by decide +kernel
theorem dX9_count_109 : decode cX9_count 109 = .ok (.ireturn, 1) := by decide +kernel
theorem dX9_delay_0 : decode cX9_delay 0 = .ok (.aload_n 0, 1) := by decide +kernel
theorem dX9_delay_1 : decode cX9_delay 1 = .ok (.iconst 0, 1) := by decide +kernel
theorem dX9_delay_2 : decode cX9_delay 2 = .ok (.putfield 85, 3) := by decide +kernel
theorem dX9_delay_5 : decode cX9_delay 5 = .ok (.aload_n 0, 1) := by decide +kernel
theorem dX9_delay_6 : decode cX9_delay 6 = .ok (.iload_n 1, 1) := by decide +kernel
theorem dX9_delay_7 : decode cX9_delay 7 = .ok (.invokevirtual 222, 3) := by decide +kernel
theorem dX9_delay_10 : decode cX9_delay 10 = .ok (.ifCond .eq 29, 3) := by decide +kernel
theorem dX9_delay_13 : decode cX9_delay 13 = .ok (.iload_n 2, 1) := by decide +kernel
theorem dX9_delay_14 : decode cX9_delay 14 = .ok (.ifCond .lt 25, 3) := by decide +kernel
theorem dX9_delay_17 : decode cX9_delay 17 = .ok (.iload_n 2, 1) := by decide +kernel
theorem dX9_delay_18 : decode cX9_delay 18 = .ok (.aload_n 0, 1) := by decide +kernel
theorem dX9_delay_19 : decode cX9_delay 19 = .ok (.iload_n 1, 1) := by decide +kernel
theorem dX9_delay_20 : decode cX9_delay 20 = .ok (.invokevirtual 225, 3) := by decide +kernel
theorem dX9_delay_23 : decode cX9_delay 23 = .ok (.if_icmp .ge 16, 3) := by decide +kernel
theorem dX9_delay_26 : decode cX9_delay 26 = .ok (.iload_n 3, 1) := by decide +kernel
theorem dX9_delay_27 : decode cX9_delay 27 = .ok (.bipush (-60), 2) := by decide +kernel
theorem dX9_delay_29 : decode cX9_delay 29 = .ok (.if_icmp .lt 10, 3) := by decide +kernel
theorem dX9_delay_32 : decode cX9_delay 32 = .ok (.iload_n 3, 1) := by decide +kernel
theorem dX9_delay_33 : decode cX9_delay 33 = .ok (.sipush 240, 3) := by decide +kernel
theorem dX9_delay_36 : decode cX9_delay 36 = .ok (.if_icmp .le 5, 3) := by decide +kernel
theorem dX9_delay_39 : decode cX9_delay 39 = .ok (.iconst (-1), 1) := by decide +kernel
theorem dX9_delay_40 : decode cX9_delay 40 = .ok (.ireturn, 1) := by decide +kernel
theorem dX9_delay_41 : decode cX9_delay 41 = .ok (.aload_n 0, 1) := by decide +kernel
theorem dX9_delay_42 : decode cX9_delay 42 = .ok (.iload_n 1, 1) := by decide +kernel
theorem dX9_delay_43 : decode cX9_delay 43 = .ok (.invokevirtual 219, 3) := by decide +kernel
theorem dX9_delay_46 : decode cX9_delay 46 = .ok (.iload_n 2, 1) := by decide +kernel
theorem dX9_delay_47 : decode cX9_delay 47 = .ok (.iadd, 1) := by decide +kernel
theorem dX9_delay_48 : decode cX9_delay 48 = .ok (.istore 4, 2) := by decide +kernel
theorem dX9_delay_50 : decode cX9_delay 50 = .ok (.aload_n 0, 1) := by decide +kernel
theorem dX9_delay_51 : decode cX9_delay 51 = .ok (.iload_n 1, 1) := by decide +kernel
theorem dX9_delay_52 : decode cX9_delay 52 = .ok (.iload 4, 2) := by decide +kernel
theorem dX9_delay_54 : decode cX9_delay 54 = .ok (.iload_n 3, 1) := by decide +kernel
theorem dX9_delay_55 : decode cX9_delay 55 = .ok (.invokevirtual 228, 3) := by decide +kernel
theorem dX9_delay_58 : decode cX9_delay 58 = .ok (.ifCond .ne 6, 3) := by decide +kernel
theorem dX9_delay_61 : decode cX9_delay 61 = .ok (.bipush (-2), 2) := by decide +kernel
theorem dX9_delay_63 : decode cX9_delay 63 = .ok (.ireturn, 1) := by decide +kernel
theorem dX9_delay_64 : decode cX9_delay 64 = .ok (.iconst 0, 1) := by decide +kernel
theorem dX9_delay_65 : decode cX9_delay 65 = .ok (.istore 5, 2) := by decide +kernel
theorem dX9_delay_67 : decode cX9_delay 67 = .ok (.iload 4, 2) := by decide +kernel
theorem dX9_delay_69 : decode cX9_delay 69 = .ok (.istore 6, 2) := by decide +kernel
theorem dX9_delay_71 : decode cX9_delay 71 = .ok (.iload 6, 2) := by decide +kernel
theorem dX9_delay_73 : decode cX9_delay 73 = .ok (.iconst (-1), 1) := by decide +kernel
theorem dX9_delay_74 : decode cX9_delay 74 = .ok (.if_icmp .eq 35, 3) := by decide +kernel
theorem dX9_delay_77 : decode cX9_delay 77 = .ok (.iload 5, 2) := by decide +kernel
theorem dX9_delay_79 : decode cX9_delay 79 = .ok (.aload_n 0, 1) := by decide +kernel
theorem dX9_delay_80 : decode cX9_delay 80 = .ok (.getfield 26, 3) := by decide +kernel
theorem dX9_delay_83 : decode cX9_delay 83 = .ok (.iload 6, 2) := by decide +kernel
theorem dX9_delay_85 : decode cX9_delay 85 = .ok (.iaload, 1) := by decide +kernel
theorem dX9_delay_86 : decode cX9_delay 86 = .ok (.iload_n 3, 1) := by decide +kernel
theorem dX9_delay_87 : decode cX9_delay 87 = .ok (.if_icmp .ne 7, 3) := by decide +kernel
theorem dX9_delay_90 : decode cX9_delay 90 = .ok (.iconst 0, 1) := by decide +kernel
theorem dX9_delay_91 : decode cX9_delay 91 = .ok (.goto 4, 3) := by decide +kernel
theorem dX9_delay_94 : decode cX9_delay 94 = .ok (.iconst 1, 1) := by decide +kernel
theorem dX9_delay_95 : decode cX9_delay 95 = .ok (.iadd, 1) := by decide +kernel
theorem dX9_delay_96 : decode cX9_delay 96 = .ok (.istore 5, 2) := by decide +kernel
theorem dX9_delay_98 : decode cX9_delay 98 = .ok (.aload_n 0, 1) := by decide +kernel
theorem dX9_delay_99 : decode cX9_delay 99 = .ok (.iload 6, 2) := by decide +kernel
theorem dX9_delay_101 : decode cX9_delay 101 = .ok (.invokevirtual 210, 3) := by decide +kernel
theorem dX9_delay_104 : decode cX9_delay 104 = .ok (.istore 6, 2) := by decide +kernel
theorem dX9_delay_106 : decode cX9_delay 106 = .ok (.goto (-35), 3) := by decide +kernel
theorem dX9_delay_109 : decode cX9_delay 109 = .ok (.iload 5, 2) := by decide +kernel
theorem dX9_delay_111 : decode cX9_delay 111 = .ok (.ifCond .ne 5, 3) := by decide +kernel
theorem dX9_delay_114 : decode cX9_delay 114 = .ok (.iconst 0, 1) := by decide +kernel
theorem dX9_delay_115 : decode cX9_delay 115 = .ok (.ireturn, 1) := by decide +kernel
theorem dX9_delay_116 : decode cX9_delay 116 = .ok (.aload_n 0, 1) := by decide +kernel
theorem dX9_delay_117 : decode cX9_delay 117 = .ok (.invokevirtual 232, 3) := by decide +kernel
theorem dX9_delay_120 : decode cX9_delay 120 = .ok (.iload 4, 2) := by decide +kernel
theorem dX9_delay_122 : decode cX9_delay 122 = .ok (.istore 6, 2) := by decide +kernel
theorem dX9_delay_124 : decode cX9_delay 124 = .ok (.iload 6, 2) := by decide +kernel
theorem dX9_delay_126 : decode cX9_delay 126 = .ok (.iconst (-1), 1) := by decide +kernel
theorem dX9_delay_127 : decode cX9_delay 127 = .ok (.if_icmp .eq 22, 3) := by decide +kernel
theorem dX9_delay_130 : decode cX9_delay 130 = .ok (.aload_n 0, 1) := by decide +kernel
theorem dX9_delay_131 : decode cX9_delay 131 = .ok (.getfield 26, 3) := by decide +kernel
theorem dX9_delay_134 : decode cX9_delay 134 = .ok (.iload 6, 2) := by decide +kernel
theorem dX9_delay_136 : decode cX9_delay 136 = .ok (.iload_n 3, 1) := by decide +kernel
theorem dX9_delay_137 : decode cX9_delay 137 = .ok (.iastore, 1) := by decide +kernel
theorem dX9_delay_138 : decode cX9_delay 138 = .ok (.aload_n 0, 1) := by decide +kernel
theorem dX9_delay_139 : decode cX9_delay 139 = .ok (.iload 6, 2) := by decide +kernel
theorem dX9_delay_141 : decode cX9_delay 141 = .ok (.invokevirtual 210, 3) := by decide +kernel
theorem dX9_delay_144 : decode cX9_delay 144 = .ok (.istore 6, 2) := by decide +kernel
theorem dX9_delay_146 : decode cX9_delay 146 = .ok (.goto (-22), 3) := by decide +kernel
theorem dX9_delay_149 : decode cX9_delay 149 = .ok (.iload 5, 2) := by decide +kernel
theorem dX9_delay_151 : decode cX9_delay 151 = .ok (.ireturn, 1) := by decide +kernel
theorem dX9_earliest_0 : decode cX9_earliest 0 = .ok (.aload_n 0, 1) := by decide +kernel
theorem dX9_earliest_1 : decode cX9_earliest 1 = .ok (.iconst 0, 1) := by decide +kernel
theorem dX9_earliest_2 : decode cX9_earliest 2 = .ok (.putfield 85, 3) := by decide +kernel
theorem dX9_earliest_5 : decode cX9_earliest 5 = .ok (.aload_n 0, 1) := by decide +kernel
theorem dX9_earliest_6 : decode cX9_earliest 6 = .ok (.iload_n 1, 1) := by decide +kernel
theorem dX9_earliest_7 : decode cX9_earliest 7 = .ok (.invokevirtual 213, 3) := by decide +kernel
theorem dX9_earliest_10 : decode cX9_earliest 10 = .ok (.ifCond .eq 29, 3) := by decide +kernel
theorem dX9_earliest_13 : decode cX9_earliest 13 = .ok (.aload_n 0, 1) := by decide +kernel
theorem dX9_earliest_14 : decode cX9_earliest 14 = .ok (.iload_n 2, 1) := by decide +kernel
theorem dX9_earliest_15 : decode cX9_earliest 15 = .ok (.invokevirtual 213, 3) := by decide +kernel
theorem dX9_earliest_18 : decode cX9_earliest 18 = .ok (.ifCond .eq 21, 3) := by decide +kernel
theorem dX9_earliest_21 : decode cX9_earliest 21 = .ok (.iload_n 3, 1) := by decide +kernel
theorem dX9_earliest_22 : decode cX9_earliest 22 = .ok (.invokestatic 320, 3) := by decide +kernel
theorem dX9_earliest_25 : decode cX9_earliest 25 = .ok (.ifCond .eq 14, 3) := by decide +kernel
theorem dX9_earliest_28 : decode cX9_earliest 28 = .ok (.iload 4, 2) := by decide +kernel
theorem dX9_earliest_30 : decode cX9_earliest 30 = .ok (.ifCond .lt 9, 3) := by decide +kernel
theorem dX9_earliest_33 : decode cX9_earliest 33 = .ok (.iload 4, 2) := by decide +kernel
theorem dX9_earliest_35 : decode cX9_earliest 35 = .ok (.iconst 4, 1) := by decide +kernel
theorem dX9_earliest_36 : decode cX9_earliest 36 = .ok (.if_icmp .le 5, 3) := by decide +kernel
theorem dX9_earliest_39 : decode cX9_earliest 39 = .ok (.iconst (-1), 1) := by decide +kernel
theorem dX9_earliest_40 : decode cX9_earliest 40 = .ok (.ireturn, 1) := by decide +kernel
theorem dX9_earliest_41 : decode cX9_earliest 41 = .ok (.aload_n 0, 1) := by decide +kernel
theorem dX9_earliest_42 : decode cX9_earliest 42 = .ok (.invokevirtual 290, 3) := by decide +kernel
theorem dX9_earliest_45 : decode cX9_earliest 45 = .ok (.iload_n 1, 1) := by decide +kernel
theorem dX9_earliest_46 : decode cX9_earliest 46 = .ok (.iload_n 2, 1) := by decide +kernel
theorem dX9_earliest_47 : decode cX9_earliest 47 = .ok (.if_icmp .ne 7, 3) := by decide +kernel
theorem dX9_earliest_50 : decode cX9_earliest 50 = .ok (.iload_n 3, 1) := by decide +kernel
theorem dX9_earliest_51 : decode cX9_earliest 51 = .ok (.goto 15, 3) := by decide +kernel
theorem dX9_earliest_54 : decode cX9_earliest 54 = .ok (.aload_n 0, 1) := by decide +kernel
theorem dX9_earliest_55 : decode cX9_earliest 55 = .ok (.iload_n 1, 1) := by decide +kernel
theorem dX9_earliest_56 : decode cX9_earliest 56 = .ok (.iload_n 2, 1) := by decide +kernel
theorem dX9_earliest_57 : decode cX9_earliest 57 = .ok (.iload_n 3, 1) := by decide +kernel
theorem dX9_earliest_58 : decode cX9_earliest 58 = .ok (.iload 4, 2) := by decide +kernel
theorem dX9_earliest_60 : decode cX9_earliest 60 = .ok (.invokevirtual 316, 3) := by decide +kernel
theorem dX9_earliest_63 : decode cX9_earliest 63 = .ok (.invokestatic 326, 3) := by decide +kernel
theorem dX9_earliest_66 : decode cX9_earliest 66 = .ok (.ireturn, 1) := by decide +kernel
theorem dX9_earliestOf_0 : decode cX9_earliestOf 0 = .ok (.aload_n 0, 1) := by decide +kernel
theorem dX9_earliestOf_1 : decode cX9_earliestOf 1 = .ok (.iload_n 1, 1) := by decide +kernel
theorem dX9_earliestOf_2 : decode cX9_earliestOf 2 = .ok (.iload_n 2, 1) := by decide +kernel
theorem dX9_earliestOf_3 : decode cX9_earliestOf 3 = .ok (.invokevirtual 216, 3) := by decide +kernel
theorem dX9_earliestOf_6 : decode cX9_earliestOf 6 = .ok (.ldc 175, 2) := by decide +kernel
theorem dX9_earliestOf_8 : decode cX9_earliestOf 8 = .ok (.if_icmp .lt 8, 3) := by decide +kernel
theorem dX9_earliestOf_11 : decode cX9_earliestOf 11 = .ok (.ldc 175, 2) := by decide +kernel
theorem dX9_earliestOf_13 : decode cX9_earliestOf 13 = .ok (.goto 11, 3) := by decide +kernel
theorem dX9_earliestOf_16 : decode cX9_earliestOf 16 = .ok (.iload_n 3, 1) := by decide +kernel
theorem dX9_earliestOf_17 : decode cX9_earliestOf 17 = .ok (.aload_n 0, 1) := by decide +kernel
theorem dX9_earliestOf_18 : decode cX9_earliestOf 18 = .ok (.iload_n 1, 1) := by decide +kernel
theorem dX9_earliestOf_19 : decode cX9_earliestOf 19 = .ok (.iload_n 2, 1) := by decide +kernel
theorem dX9_earliestOf_20 : decode cX9_earliestOf 20 = .ok (.invokevirtual 216, 3) := by decide +kernel
theorem dX9_earliestOf_23 : decode cX9_earliestOf 23 = .ok (.iadd, 1) := by decide +kernel
theorem dX9_earliestOf_24 : decode cX9_earliestOf 24 = .ok (.istore 5, 2) := by decide +kernel
theorem dX9_earliestOf_26 : decode cX9_earliestOf 26 = .ok (.lconst 0, 1) := by decide +kernel
theorem dX9_earliestOf_27 : decode cX9_earliestOf 27 = .ok (.lstore 6, 2) := by decide +kernel
theorem dX9_earliestOf_29 : decode cX9_earliestOf 29 = .ok (.iconst 0, 1) := by decide +kernel
theorem dX9_earliestOf_30 : decode cX9_earliestOf 30 = .ok (.istore 8, 2) := by decide +kernel
theorem dX9_earliestOf_32 : decode cX9_earliestOf 32 = .ok (.iload 8, 2) := by decide +kernel
theorem dX9_earliestOf_34 : decode cX9_earliestOf 34 = .ok (.aload_n 0, 1) := by decide +kernel
theorem dX9_earliestOf_35 : decode cX9_earliestOf 35 = .ok (.invokevirtual 198, 3) := by decide +kernel
theorem dX9_earliestOf_38 : decode cX9_earliestOf 38 = .ok (.if_icmp .ge 42, 3) := by decide +kernel
theorem dX9_earliestOf_41 : decode cX9_earliestOf 41 = .ok (.aload_n 0, 1) := by decide +kernel
theorem dX9_earliestOf_42 : decode cX9_earliestOf 42 = .ok (.iload_n 1, 1) := by decide +kernel
theorem dX9_earliestOf_43 : decode cX9_earliestOf 43 = .ok (.iload 8, 2) := by decide +kernel
theorem dX9_earliestOf_45 : decode cX9_earliestOf 45 = .ok (.invokevirtual 257, 3) := by decide +kernel
theorem dX9_earliestOf_48 : decode cX9_earliestOf 48 = .ok (.istore 9, 2) := by decide +kernel
theorem dX9_earliestOf_50 : decode cX9_earliestOf 50 = .ok (.lload 6, 2) := by decide +kernel
theorem dX9_earliestOf_52 : decode cX9_earliestOf 52 = .ok (.iload 9, 2) := by decide +kernel
theorem dX9_earliestOf_54 : decode cX9_earliestOf 54 = .ok (.iload_n 3, 1) := by decide +kernel
theorem dX9_earliestOf_55 : decode cX9_earliestOf 55 = .ok (.if_icmp .lt 15, 3) := by decide +kernel
theorem dX9_earliestOf_58 : decode cX9_earliestOf 58 = .ok (.iload 9, 2) := by decide +kernel
theorem dX9_earliestOf_60 : decode cX9_earliestOf 60 = .ok (.ifCond .lt 10, 3) := by decide +kernel
theorem dX9_earliestOf_63 : decode cX9_earliestOf 63 = .ok (.lconst 1, 1) := by decide +kernel
theorem dX9_earliestOf_64 : decode cX9_earliestOf 64 = .ok (.iload 8, 2) := by decide +kernel
theorem dX9_earliestOf_66 : decode cX9_earliestOf 66 = .ok (.lshl, 1) := by decide +kernel
theorem dX9_earliestOf_67 : decode cX9_earliestOf 67 = .ok (.goto 4, 3) := by decide +kernel
theorem dX9_earliestOf_70 : decode cX9_earliestOf 70 = .ok (.lconst 0, 1) := by decide +kernel
theorem dX9_earliestOf_71 : decode cX9_earliestOf 71 = .ok (.lor, 1) := by decide +kernel
theorem dX9_earliestOf_72 : decode cX9_earliestOf 72 = .ok (.lstore 6, 2) := by decide +kernel
theorem dX9_earliestOf_74 : decode cX9_earliestOf 74 = .ok (.iinc 8 1, 3) := by decide +kernel
theorem dX9_earliestOf_77 : decode cX9_earliestOf 77 = .ok (.goto (-45), 3) := by decide +kernel
theorem dX9_earliestOf_80 : decode cX9_earliestOf 80 = .ok (.aload_n 0, 1) := by decide +kernel
theorem dX9_earliestOf_81 : decode cX9_earliestOf 81 = .ok (.lload 6, 2) := by decide +kernel
theorem dX9_earliestOf_83 : decode cX9_earliestOf 83 = .ok (.invokevirtual 253, 3) := by decide +kernel
theorem dX9_earliestOf_86 : decode cX9_earliestOf 86 = .ok (.lstore 6, 2) := by decide +kernel
theorem dX9_earliestOf_88 : decode cX9_earliestOf 88 = .ok (.iconst 0, 1) := by decide +kernel
theorem dX9_earliestOf_89 : decode cX9_earliestOf 89 = .ok (.istore 8, 2) := by decide +kernel
theorem dX9_earliestOf_91 : decode cX9_earliestOf 91 = .ok (.iload 8, 2) := by decide +kernel
theorem dX9_earliestOf_93 : decode cX9_earliestOf 93 = .ok (.iload 4, 2) := by decide +kernel
theorem dX9_earliestOf_95 : decode cX9_earliestOf 95 = .ok (.if_icmp .gt 42, 3) := by decide +kernel
theorem dX9_earliestOf_98 : decode cX9_earliestOf 98 = .ok (.aload_n 0, 1) := by decide +kernel
theorem dX9_earliestOf_99 : decode cX9_earliestOf 99 = .ok (.lload 6, 2) := by decide +kernel
theorem dX9_earliestOf_101 : decode cX9_earliestOf 101 = .ok (.iload_n 2, 1) := by decide +kernel
theorem dX9_earliestOf_102 : decode cX9_earliestOf 102 = .ok (.invokevirtual 260, 3) := by decide +kernel
theorem dX9_earliestOf_105 : decode cX9_earliestOf 105 = .ok (.istore 9, 2) := by decide +kernel
theorem dX9_earliestOf_107 : decode cX9_earliestOf 107 = .ok (.iload 9, 2) := by decide +kernel
theorem dX9_earliestOf_109 : decode cX9_earliestOf 109 = .ok (.iload 5, 2) := by decide +kernel
theorem dX9_earliestOf_111 : decode cX9_earliestOf 111 = .ok (.if_icmp .ge 8, 3) := by decide +kernel
theorem dX9_earliestOf_114 : decode cX9_earliestOf 114 = .ok (.iload 9, 2) := by decide +kernel
theorem dX9_earliestOf_116 : decode cX9_earliestOf 116 = .ok (.goto 5, 3) := by decide +kernel
theorem dX9_earliestOf_119 : decode cX9_earliestOf 119 = .ok (.iload 5, 2) := by decide +kernel
theorem dX9_earliestOf_121 : decode cX9_earliestOf 121 = .ok (.istore 5, 2) := by decide +kernel
theorem dX9_earliestOf_123 : decode cX9_earliestOf 123 = .ok (.aload_n 0, 1) := by decide +kernel
theorem dX9_earliestOf_124 : decode cX9_earliestOf 124 = .ok (.lload 6, 2) := by decide +kernel
theorem dX9_earliestOf_126 : decode cX9_earliestOf 126 = .ok (.invokevirtual 264, 3) := by decide +kernel
theorem dX9_earliestOf_129 : decode cX9_earliestOf 129 = .ok (.lstore 6, 2) := by decide +kernel
theorem dX9_earliestOf_131 : decode cX9_earliestOf 131 = .ok (.iinc 8 1, 3) := by decide +kernel
theorem dX9_earliestOf_134 : decode cX9_earliestOf 134 = .ok (.goto (-43), 3) := by decide +kernel
theorem dX9_earliestOf_137 : decode cX9_earliestOf 137 = .ok (.iload 5, 2) := by decide +kernel
theorem dX9_earliestOf_139 : decode cX9_earliestOf 139 = .ok (.ireturn, 1) := by decide +kernel
theorem dX9_endsOf_0 : decode cX9_endsOf 0 = .ok (.aload_n 0, 1) := by decide +kernel
theorem dX9_endsOf_1 : decode cX9_endsOf 1 = .ok (.iload_n 1, 1) := by decide +kernel
theorem dX9_endsOf_2 : decode cX9_endsOf 2 = .ok (.iload_n 2, 1) := by decide +kernel
theorem dX9_endsOf_3 : decode cX9_endsOf 3 = .ok (.invokevirtual 293, 3) := by decide +kernel
theorem dX9_endsOf_6 : decode cX9_endsOf 6 = .ok (.iconst 0, 1) := by decide +kernel
theorem dX9_endsOf_7 : decode cX9_endsOf 7 = .ok (.istore_n 3, 1) := by decide +kernel
theorem dX9_endsOf_8 : decode cX9_endsOf 8 = .ok (.iload_n 3, 1) := by decide +kernel
theorem dX9_endsOf_9 : decode cX9_endsOf 9 = .ok (.aload_n 0, 1) := by decide +kernel
theorem dX9_endsOf_10 : decode cX9_endsOf 10 = .ok (.getfield 278, 3) := by decide +kernel
theorem dX9_endsOf_13 : decode cX9_endsOf 13 = .ok (.if_icmp .ge 67, 3) := by decide +kernel
theorem dX9_endsOf_16 : decode cX9_endsOf 16 = .ok (.aload_n 0, 1) := by decide +kernel
theorem dX9_endsOf_17 : decode cX9_endsOf 17 = .ok (.iload_n 1, 1) := by decide +kernel
theorem dX9_endsOf_18 : decode cX9_endsOf 18 = .ok (.iload_n 2, 1) := by decide +kernel
theorem dX9_endsOf_19 : decode cX9_endsOf 19 = .ok (.aload_n 0, 1) := by decide +kernel
theorem dX9_endsOf_20 : decode cX9_endsOf 20 = .ok (.getfield 54, 3) := by decide +kernel
theorem dX9_endsOf_23 : decode cX9_endsOf 23 = .ok (.iload_n 3, 1) := by decide +kernel
theorem dX9_endsOf_24 : decode cX9_endsOf 24 = .ok (.iaload, 1) := by decide +kernel
theorem dX9_endsOf_25 : decode cX9_endsOf 25 = .ok (.invokevirtual 299, 3) := by decide +kernel
theorem dX9_endsOf_28 : decode cX9_endsOf 28 = .ok (.iconst 0, 1) := by decide +kernel
theorem dX9_endsOf_29 : decode cX9_endsOf 29 = .ok (.istore 4, 2) := by decide +kernel
theorem dX9_endsOf_31 : decode cX9_endsOf 31 = .ok (.iload 4, 2) := by decide +kernel
theorem dX9_endsOf_33 : decode cX9_endsOf 33 = .ok (.aload_n 0, 1) := by decide +kernel
theorem dX9_endsOf_34 : decode cX9_endsOf 34 = .ok (.getfield 51, 3) := by decide +kernel
theorem dX9_endsOf_37 : decode cX9_endsOf 37 = .ok (.aload_n 0, 1) := by decide +kernel
theorem dX9_endsOf_38 : decode cX9_endsOf 38 = .ok (.getfield 54, 3) := by decide +kernel
theorem dX9_endsOf_41 : decode cX9_endsOf 41 = .ok (.iload_n 3, 1) := by decide +kernel
theorem dX9_endsOf_42 : decode cX9_endsOf 42 = .ok (.iaload, 1) := by decide +kernel
theorem dX9_endsOf_43 : decode cX9_endsOf 43 = .ok (.iaload, 1) := by decide +kernel
theorem dX9_endsOf_44 : decode cX9_endsOf 44 = .ok (.if_icmp .ge 30, 3) := by decide +kernel
theorem dX9_endsOf_47 : decode cX9_endsOf 47 = .ok (.aload_n 0, 1) := by decide +kernel
theorem dX9_endsOf_48 : decode cX9_endsOf 48 = .ok (.getfield 70, 3) := by decide +kernel
theorem dX9_endsOf_51 : decode cX9_endsOf 51 = .ok (.aload_n 0, 1) := by decide +kernel
theorem dX9_endsOf_52 : decode cX9_endsOf 52 = .ok (.aload_n 0, 1) := by decide +kernel
theorem dX9_endsOf_53 : decode cX9_endsOf 53 = .ok (.getfield 67, 3) := by decide +kernel
theorem dX9_endsOf_56 : decode cX9_endsOf 56 = .ok (.iload 4, 2) := by decide +kernel
theorem dX9_endsOf_58 : decode cX9_endsOf 58 = .ok (.iaload, 1) := by decide +kernel
theorem dX9_endsOf_59 : decode cX9_endsOf 59 = .ok (.iconst 2, 1) := by decide +kernel
theorem dX9_endsOf_60 : decode cX9_endsOf 60 = .ok (.invokevirtual 201, 3) := by decide +kernel
theorem dX9_endsOf_63 : decode cX9_endsOf 63 = .ok (.dup2, 1) := by decide +kernel
theorem dX9_endsOf_64 : decode cX9_endsOf 64 = .ok (.iaload, 1) := by decide +kernel
theorem dX9_endsOf_65 : decode cX9_endsOf 65 = .ok (.iconst 1, 1) := by decide +kernel
theorem dX9_endsOf_66 : decode cX9_endsOf 66 = .ok (.iadd, 1) := by decide +kernel
theorem dX9_endsOf_67 : decode cX9_endsOf 67 = .ok (.iastore, 1) := by decide +kernel
theorem dX9_endsOf_68 : decode cX9_endsOf 68 = .ok (.iinc 4 1, 3) := by decide +kernel
theorem dX9_endsOf_71 : decode cX9_endsOf 71 = .ok (.goto (-40), 3) := by decide +kernel
theorem dX9_endsOf_74 : decode cX9_endsOf 74 = .ok (.iinc 3 1, 3) := by decide +kernel
theorem dX9_endsOf_77 : decode cX9_endsOf 77 = .ok (.goto (-69), 3) := by decide +kernel
theorem dX9_endsOf_80 : decode cX9_endsOf 80 = .ok (.return_, 1) := by decide +kernel
theorem dX9_fault_0 : decode cX9_fault 0 = .ok (.aload_n 0, 1) := by decide +kernel
theorem dX9_fault_1 : decode cX9_fault 1 = .ok (.iconst 0, 1) := by decide +kernel
theorem dX9_fault_2 : decode cX9_fault 2 = .ok (.putfield 85, 3) := by decide +kernel
theorem dX9_fault_5 : decode cX9_fault 5 = .ok (.iload_n 1, 1) := by decide +kernel
theorem dX9_fault_6 : decode cX9_fault 6 = .ok (.ifCond .ne 10, 3) := by decide +kernel
theorem dX9_fault_9 : decode cX9_fault 9 = .ok (.aload_n 0, 1) := by decide +kernel
theorem dX9_fault_10 : decode cX9_fault 10 = .ok (.getfield 192, 3) := by decide +kernel
theorem dX9_fault_13 : decode cX9_fault 13 = .ok (.goto 16, 3) := by decide +kernel
theorem dX9_fault_16 : decode cX9_fault 16 = .ok (.iload_n 1, 1) := by decide +kernel
theorem dX9_fault_17 : decode cX9_fault 17 = .ok (.iconst 1, 1) := by decide +kernel
theorem dX9_fault_18 : decode cX9_fault 18 = .ok (.if_icmp .ne 10, 3) := by decide +kernel
theorem dX9_fault_21 : decode cX9_fault 21 = .ok (.aload_n 0, 1) := by decide +kernel
theorem dX9_fault_22 : decode cX9_fault 22 = .ok (.getfield 22, 3) := by decide +kernel
theorem dX9_fault_25 : decode cX9_fault 25 = .ok (.goto 4, 3) := by decide +kernel
theorem dX9_fault_28 : decode cX9_fault 28 = .ok (.iconst (-1), 1) := by decide +kernel
theorem dX9_fault_29 : decode cX9_fault 29 = .ok (.ireturn, 1) := by decide +kernel
theorem dX9_feed_0 : decode cX9_feed 0 = .ok (.aload_n 0, 1) := by decide +kernel
theorem dX9_feed_1 : decode cX9_feed 1 = .ok (.iconst 0, 1) := by decide +kernel
theorem dX9_feed_2 : decode cX9_feed 2 = .ok (.putfield 85, 3) := by decide +kernel
theorem dX9_feed_5 : decode cX9_feed 5 = .ok (.aload_n 0, 1) := by decide +kernel
theorem dX9_feed_6 : decode cX9_feed 6 = .ok (.getfield 88, 3) := by decide +kernel
theorem dX9_feed_9 : decode cX9_feed 9 = .ok (.sipush 880, 3) := by decide +kernel
theorem dX9_feed_12 : decode cX9_feed 12 = .ok (.if_icmp .le 5, 3) := by decide +kernel
theorem dX9_feed_15 : decode cX9_feed 15 = .ok (.iconst (-1), 1) := by decide +kernel
theorem dX9_feed_16 : decode cX9_feed 16 = .ok (.ireturn, 1) := by decide +kernel
theorem dX9_feed_17 : decode cX9_feed 17 = .ok (.iconst 0, 1) := by decide +kernel
theorem dX9_feed_18 : decode cX9_feed 18 = .ok (.istore 6, 2) := by decide +kernel
theorem dX9_feed_20 : decode cX9_feed 20 = .ok (.iload 6, 2) := by decide +kernel
theorem dX9_feed_22 : decode cX9_feed 22 = .ok (.bipush 20, 2) := by decide +kernel
theorem dX9_feed_24 : decode cX9_feed 24 = .ok (.if_icmp .ge 86, 3) := by decide +kernel
theorem dX9_feed_27 : decode cX9_feed 27 = .ok (.iload 6, 2) := by decide +kernel
theorem dX9_feed_29 : decode cX9_feed 29 = .ok (.iconst 4, 1) := by decide +kernel
theorem dX9_feed_30 : decode cX9_feed 30 = .ok (.if_icmp .ge 7, 3) := by decide +kernel
theorem dX9_feed_33 : decode cX9_feed 33 = .ok (.iload_n 1, 1) := by decide +kernel
theorem dX9_feed_34 : decode cX9_feed 34 = .ok (.goto 39, 3) := by decide +kernel
theorem dX9_feed_37 : decode cX9_feed 37 = .ok (.iload 6, 2) := by decide +kernel
theorem dX9_feed_39 : decode cX9_feed 39 = .ok (.bipush 8, 2) := by decide +kernel
theorem dX9_feed_41 : decode cX9_feed 41 = .ok (.if_icmp .ge 7, 3) := by decide +kernel
theorem dX9_feed_44 : decode cX9_feed 44 = .ok (.iload_n 2, 1) := by decide +kernel
theorem dX9_feed_45 : decode cX9_feed 45 = .ok (.goto 28, 3) := by decide +kernel
theorem dX9_feed_48 : decode cX9_feed 48 = .ok (.iload 6, 2) := by decide +kernel
theorem dX9_feed_50 : decode cX9_feed 50 = .ok (.bipush 12, 2) := by decide +kernel
theorem dX9_feed_52 : decode cX9_feed 52 = .ok (.if_icmp .ge 7, 3) := by decide +kernel
theorem dX9_feed_55 : decode cX9_feed 55 = .ok (.iload_n 3, 1) := by decide +kernel
theorem dX9_feed_56 : decode cX9_feed 56 = .ok (.goto 17, 3) := by decide +kernel
theorem dX9_feed_59 : decode cX9_feed 59 = .ok (.iload 6, 2) := by decide +kernel
theorem dX9_feed_61 : decode cX9_feed 61 = .ok (.bipush 16, 2) := by decide +kernel
theorem dX9_feed_63 : decode cX9_feed 63 = .ok (.if_icmp .ge 8, 3) := by decide +kernel
theorem dX9_feed_66 : decode cX9_feed 66 = .ok (.iload 4, 2) := by decide +kernel
theorem dX9_feed_68 : decode cX9_feed 68 = .ok (.goto 5, 3) := by decide +kernel
theorem dX9_feed_71 : decode cX9_feed 71 = .ok (.iload 5, 2) := by decide +kernel
theorem dX9_feed_73 : decode cX9_feed 73 = .ok (.istore 7, 2) := by decide +kernel
theorem dX9_feed_75 : decode cX9_feed 75 = .ok (.aload_n 0, 1) := by decide +kernel
theorem dX9_feed_76 : decode cX9_feed 76 = .ok (.getfield 7, 3) := by decide +kernel
theorem dX9_feed_79 : decode cX9_feed 79 = .ok (.aload_n 0, 1) := by decide +kernel
theorem dX9_feed_80 : decode cX9_feed 80 = .ok (.getfield 88, 3) := by decide +kernel
theorem dX9_feed_83 : decode cX9_feed 83 = .ok (.iload 6, 2) := by decide +kernel
theorem dX9_feed_85 : decode cX9_feed 85 = .ok (.iadd, 1) := by decide +kernel
theorem dX9_feed_86 : decode cX9_feed 86 = .ok (.iload 7, 2) := by decide +kernel
theorem dX9_feed_88 : decode cX9_feed 88 = .ok (.bipush 24, 2) := by decide +kernel
theorem dX9_feed_90 : decode cX9_feed 90 = .ok (.bipush 8, 2) := by decide +kernel
theorem dX9_feed_92 : decode cX9_feed 92 = .ok (.iload 6, 2) := by decide +kernel
theorem dX9_feed_94 : decode cX9_feed 94 = .ok (.iconst 4, 1) := by decide +kernel
theorem dX9_feed_95 : decode cX9_feed 95 = .ok (.irem, 1) := by decide +kernel
theorem dX9_feed_96 : decode cX9_feed 96 = .ok (.imul, 1) := by decide +kernel
theorem dX9_feed_97 : decode cX9_feed 97 = .ok (.isub, 1) := by decide +kernel
theorem dX9_feed_98 : decode cX9_feed 98 = .ok (.ishr, 1) := by decide +kernel
theorem dX9_feed_99 : decode cX9_feed 99 = .ok (.sipush 255, 3) := by decide +kernel
theorem dX9_feed_102 : decode cX9_feed 102 = .ok (.iand, 1) := by decide +kernel
theorem dX9_feed_103 : decode cX9_feed 103 = .ok (.iastore, 1) := by decide +kernel
theorem dX9_feed_104 : decode cX9_feed 104 = .ok (.iinc 6 1, 3) := by decide +kernel
theorem dX9_feed_107 : decode cX9_feed 107 = .ok (.goto (-87), 3) := by decide +kernel
theorem dX9_feed_110 : decode cX9_feed 110 = .ok (.aload_n 0, 1) := by decide +kernel
theorem dX9_feed_111 : decode cX9_feed 111 = .ok (.dup, 1) := by decide +kernel
theorem dX9_feed_112 : decode cX9_feed 112 = .ok (.getfield 88, 3) := by decide +kernel
theorem dX9_feed_115 : decode cX9_feed 115 = .ok (.bipush 20, 2) := by decide +kernel
theorem dX9_feed_117 : decode cX9_feed 117 = .ok (.iadd, 1) := by decide +kernel
theorem dX9_feed_118 : decode cX9_feed 118 = .ok (.putfield 88, 3) := by decide +kernel
theorem dX9_feed_121 : decode cX9_feed 121 = .ok (.aload_n 0, 1) := by decide +kernel
theorem dX9_feed_122 : decode cX9_feed 122 = .ok (.getfield 88, 3) := by decide +kernel
theorem dX9_feed_125 : decode cX9_feed 125 = .ok (.ireturn, 1) := by decide +kernel
theorem dX9_fewest_0 : decode cX9_fewest 0 = .ok (.aload_n 0, 1) := by decide +kernel
theorem dX9_fewest_1 : decode cX9_fewest 1 = .ok (.iconst 0, 1) := by decide +kernel
theorem dX9_fewest_2 : decode cX9_fewest 2 = .ok (.putfield 85, 3) := by decide +kernel
theorem dX9_fewest_5 : decode cX9_fewest 5 = .ok (.aload_n 0, 1) := by decide +kernel
theorem dX9_fewest_6 : decode cX9_fewest 6 = .ok (.iload_n 1, 1) := by decide +kernel
theorem dX9_fewest_7 : decode cX9_fewest 7 = .ok (.iload_n 2, 1) := by decide +kernel
theorem dX9_fewest_8 : decode cX9_fewest 8 = .ok (.invokevirtual 287, 3) := by decide +kernel
theorem dX9_fewest_11 : decode cX9_fewest 11 = .ok (.ifCond .eq 23, 3) := by decide +kernel
theorem dX9_fewest_14 : decode cX9_fewest 14 = .ok (.iload_n 3, 1) := by decide +kernel
theorem dX9_fewest_15 : decode cX9_fewest 15 = .ok (.invokestatic 320, 3) := by decide +kernel
theorem dX9_fewest_18 : decode cX9_fewest 18 = .ok (.ifCond .eq 16, 3) := by decide +kernel
theorem dX9_fewest_21 : decode cX9_fewest 21 = .ok (.iload 4, 2) := by decide +kernel
theorem dX9_fewest_23 : decode cX9_fewest 23 = .ok (.ifCond .lt 11, 3) := by decide +kernel
theorem dX9_fewest_26 : decode cX9_fewest 26 = .ok (.iload 4, 2) := by decide +kernel
theorem dX9_fewest_28 : decode cX9_fewest 28 = .ok (.sipush 2000, 3) := by decide +kernel
theorem dX9_fewest_31 : decode cX9_fewest 31 = .ok (.if_icmp .le 5, 3) := by decide +kernel
theorem dX9_fewest_34 : decode cX9_fewest 34 = .ok (.iconst (-1), 1) := by decide +kernel
theorem dX9_fewest_35 : decode cX9_fewest 35 = .ok (.ireturn, 1) := by decide +kernel
theorem dX9_fewest_36 : decode cX9_fewest 36 = .ok (.aload_n 0, 1) := by decide +kernel
theorem dX9_fewest_37 : decode cX9_fewest 37 = .ok (.invokevirtual 290, 3) := by decide +kernel
theorem dX9_fewest_40 : decode cX9_fewest 40 = .ok (.iconst 0, 1) := by decide +kernel
theorem dX9_fewest_41 : decode cX9_fewest 41 = .ok (.istore 5, 2) := by decide +kernel
theorem dX9_fewest_43 : decode cX9_fewest 43 = .ok (.iload 5, 2) := by decide +kernel
theorem dX9_fewest_45 : decode cX9_fewest 45 = .ok (.iconst 4, 1) := by decide +kernel
theorem dX9_fewest_46 : decode cX9_fewest 46 = .ok (.if_icmp .gt 26, 3) := by decide +kernel
theorem dX9_fewest_49 : decode cX9_fewest 49 = .ok (.aload_n 0, 1) := by decide +kernel
theorem dX9_fewest_50 : decode cX9_fewest 50 = .ok (.iload_n 1, 1) := by decide +kernel
theorem dX9_fewest_51 : decode cX9_fewest 51 = .ok (.iload_n 2, 1) := by decide +kernel
theorem dX9_fewest_52 : decode cX9_fewest 52 = .ok (.iload_n 3, 1) := by decide +kernel
theorem dX9_fewest_53 : decode cX9_fewest 53 = .ok (.iload 5, 2) := by decide +kernel
theorem dX9_fewest_55 : decode cX9_fewest 55 = .ok (.invokevirtual 316, 3) := by decide +kernel
theorem dX9_fewest_58 : decode cX9_fewest 58 = .ok (.iload 4, 2) := by decide +kernel
theorem dX9_fewest_60 : decode cX9_fewest 60 = .ok (.if_icmp .gt 6, 3) := by decide +kernel
theorem dX9_fewest_63 : decode cX9_fewest 63 = .ok (.iload 5, 2) := by decide +kernel
theorem dX9_fewest_65 : decode cX9_fewest 65 = .ok (.ireturn, 1) := by decide +kernel
theorem dX9_fewest_66 : decode cX9_fewest 66 = .ok (.iinc 5 1, 3) := by decide +kernel
theorem dX9_fewest_69 : decode cX9_fewest 69 = .ok (.goto (-26), 3) := by decide +kernel
theorem dX9_fewest_72 : decode cX9_fewest 72 = .ok (.bipush (-2), 2) := by decide +kernel
theorem dX9_fewest_74 : decode cX9_fewest 74 = .ok (.ireturn, 1) := by decide +kernel
theorem dX9_firstOf_0 : decode cX9_firstOf 0 = .ok (.iconst 0, 1) := by decide +kernel
theorem dX9_firstOf_1 : decode cX9_firstOf 1 = .ok (.istore_n 2, 1) := by decide +kernel
theorem dX9_firstOf_2 : decode cX9_firstOf 2 = .ok (.aload_n 0, 1) := by decide +kernel
theorem dX9_firstOf_3 : decode cX9_firstOf 3 = .ok (.iload_n 2, 1) := by decide +kernel
theorem dX9_firstOf_4 : decode cX9_firstOf 4 = .ok (.iconst 0, 1) := by decide +kernel
theorem dX9_firstOf_5 : decode cX9_firstOf 5 = .ok (.invokevirtual 201, 3) := by decide +kernel
theorem dX9_firstOf_8 : decode cX9_firstOf 8 = .ok (.iload_n 1, 1) := by decide +kernel
theorem dX9_firstOf_9 : decode cX9_firstOf 9 = .ok (.if_icmp .eq 9, 3) := by decide +kernel
theorem dX9_firstOf_12 : decode cX9_firstOf 12 = .ok (.iinc 2 1, 3) := by decide +kernel
theorem dX9_firstOf_15 : decode cX9_firstOf 15 = .ok (.goto (-13), 3) := by decide +kernel
theorem dX9_firstOf_18 : decode cX9_firstOf 18 = .ok (.iload_n 2, 1) := by decide +kernel
theorem dX9_firstOf_19 : decode cX9_firstOf 19 = .ok (.ireturn, 1) := by decide +kernel
theorem dX9_freshText_0 : decode cX9_freshText 0 = .ok (.iconst 0, 1) := by decide +kernel
theorem dX9_freshText_1 : decode cX9_freshText 1 = .ok (.istore_n 1, 1) := by decide +kernel
theorem dX9_freshText_2 : decode cX9_freshText 2 = .ok (.iload_n 1, 1) := by decide +kernel
theorem dX9_freshText_3 : decode cX9_freshText 3 = .ok (.sipush 415, 3) := by decide +kernel
theorem dX9_freshText_6 : decode cX9_freshText 6 = .ok (.if_icmp .ge 16, 3) := by decide +kernel
theorem dX9_freshText_9 : decode cX9_freshText 9 = .ok (.aload_n 0, 1) := by decide +kernel
theorem dX9_freshText_10 : decode cX9_freshText 10 = .ok (.getfield 16, 3) := by decide +kernel
theorem dX9_freshText_13 : decode cX9_freshText 13 = .ok (.iload_n 1, 1) := by decide +kernel
theorem dX9_freshText_14 : decode cX9_freshText 14 = .ok (.iconst 0, 1) := by decide +kernel
theorem dX9_freshText_15 : decode cX9_freshText 15 = .ok (.iastore, 1) := by decide +kernel
theorem dX9_freshText_16 : decode cX9_freshText 16 = .ok (.iinc 1 1, 3) := by decide +kernel
theorem dX9_freshText_19 : decode cX9_freshText 19 = .ok (.goto (-17), 3) := by decide +kernel
theorem dX9_freshText_22 : decode cX9_freshText 22 = .ok (.iconst 0, 1) := by decide +kernel
theorem dX9_freshText_23 : decode cX9_freshText 23 = .ok (.istore_n 1, 1) := by decide +kernel
theorem dX9_freshText_24 : decode cX9_freshText 24 = .ok (.iload_n 1, 1) := by decide +kernel
theorem dX9_freshText_25 : decode cX9_freshText 25 = .ok (.bipush 100, 2) := by decide +kernel
theorem dX9_freshText_27 : decode cX9_freshText 27 = .ok (.if_icmp .ge 31, 3) := by decide +kernel
theorem dX9_freshText_30 : decode cX9_freshText 30 = .ok (.aload_n 0, 1) := by decide +kernel
theorem dX9_freshText_31 : decode cX9_freshText 31 = .ok (.getfield 16, 3) := by decide +kernel
theorem dX9_freshText_34 : decode cX9_freshText 34 = .ok (.bipush 15, 2) := by decide +kernel
theorem dX9_freshText_36 : decode cX9_freshText 36 = .ok (.iload_n 1, 1) := by decide +kernel
theorem dX9_freshText_37 : decode cX9_freshText 37 = .ok (.iadd, 1) := by decide +kernel
theorem dX9_freshText_38 : decode cX9_freshText 38 = .ok (.iload_n 1, 1) := by decide +kernel
theorem dX9_freshText_39 : decode cX9_freshText 39 = .ok (.bipush 11, 2) := by decide +kernel
theorem dX9_freshText_41 : decode cX9_freshText 41 = .ok (.irem, 1) := by decide +kernel
theorem dX9_freshText_42 : decode cX9_freshText 42 = .ok (.ifCond .ne 7, 3) := by decide +kernel
theorem dX9_freshText_45 : decode cX9_freshText 45 = .ok (.iconst 0, 1) := by decide +kernel
theorem dX9_freshText_46 : decode cX9_freshText 46 = .ok (.goto 5, 3) := by decide +kernel
theorem dX9_freshText_49 : decode cX9_freshText 49 = .ok (.ldc 175, 2) := by decide +kernel
theorem dX9_freshText_51 : decode cX9_freshText 51 = .ok (.iastore, 1) := by decide +kernel
theorem dX9_freshText_52 : decode cX9_freshText 52 = .ok (.iinc 1 1, 3) := by decide +kernel
theorem dX9_freshText_55 : decode cX9_freshText 55 = .ok (.goto (-31), 3) := by decide +kernel
theorem dX9_freshText_58 : decode cX9_freshText 58 = .ok (.return_, 1) := by decide +kernel
theorem dX9_gap_0 : decode cX9_gap 0 = .ok (.aload_n 0, 1) := by decide +kernel
theorem dX9_gap_1 : decode cX9_gap 1 = .ok (.iconst 0, 1) := by decide +kernel
theorem dX9_gap_2 : decode cX9_gap 2 = .ok (.putfield 85, 3) := by decide +kernel
theorem dX9_gap_5 : decode cX9_gap 5 = .ok (.aload_n 0, 1) := by decide +kernel
theorem dX9_gap_6 : decode cX9_gap 6 = .ok (.iload_n 1, 1) := by decide +kernel
theorem dX9_gap_7 : decode cX9_gap 7 = .ok (.iload_n 2, 1) := by decide +kernel
theorem dX9_gap_8 : decode cX9_gap 8 = .ok (.invokevirtual 287, 3) := by decide +kernel
theorem dX9_gap_11 : decode cX9_gap 11 = .ok (.ifCond .ne 5, 3) := by decide +kernel
theorem dX9_gap_14 : decode cX9_gap 14 = .ok (.iconst (-1), 1) := by decide +kernel
theorem dX9_gap_15 : decode cX9_gap 15 = .ok (.ireturn, 1) := by decide +kernel
theorem dX9_gap_16 : decode cX9_gap 16 = .ok (.aload_n 0, 1) := by decide +kernel
theorem dX9_gap_17 : decode cX9_gap 17 = .ok (.invokevirtual 290, 3) := by decide +kernel
theorem dX9_gap_20 : decode cX9_gap 20 = .ok (.aload_n 0, 1) := by decide +kernel
theorem dX9_gap_21 : decode cX9_gap 21 = .ok (.iload_n 1, 1) := by decide +kernel
theorem dX9_gap_22 : decode cX9_gap 22 = .ok (.iload_n 2, 1) := by decide +kernel
theorem dX9_gap_23 : decode cX9_gap 23 = .ok (.invokevirtual 293, 3) := by decide +kernel
theorem dX9_gap_26 : decode cX9_gap 26 = .ok (.bipush (-2), 2) := by decide +kernel
theorem dX9_gap_28 : decode cX9_gap 28 = .ok (.istore_n 3, 1) := by decide +kernel
theorem dX9_gap_29 : decode cX9_gap 29 = .ok (.iconst 1, 1) := by decide +kernel
theorem dX9_gap_30 : decode cX9_gap 30 = .ok (.istore 4, 2) := by decide +kernel
theorem dX9_gap_32 : decode cX9_gap 32 = .ok (.iload 4, 2) := by decide +kernel
theorem dX9_gap_34 : decode cX9_gap 34 = .ok (.aload_n 0, 1) := by decide +kernel
theorem dX9_gap_35 : decode cX9_gap 35 = .ok (.getfield 278, 3) := by decide +kernel
theorem dX9_gap_38 : decode cX9_gap 38 = .ok (.if_icmp .ge 52, 3) := by decide +kernel
theorem dX9_gap_41 : decode cX9_gap 41 = .ok (.aload_n 0, 1) := by decide +kernel
theorem dX9_gap_42 : decode cX9_gap 42 = .ok (.getfield 45, 3) := by decide +kernel
theorem dX9_gap_45 : decode cX9_gap 45 = .ok (.aload_n 0, 1) := by decide +kernel
theorem dX9_gap_46 : decode cX9_gap 46 = .ok (.getfield 54, 3) := by decide +kernel
theorem dX9_gap_49 : decode cX9_gap 49 = .ok (.iload 4, 2) := by decide +kernel
theorem dX9_gap_51 : decode cX9_gap 51 = .ok (.iaload, 1) := by decide +kernel
theorem dX9_gap_52 : decode cX9_gap 52 = .ok (.iaload, 1) := by decide +kernel
theorem dX9_gap_53 : decode cX9_gap 53 = .ok (.aload_n 0, 1) := by decide +kernel
theorem dX9_gap_54 : decode cX9_gap 54 = .ok (.getfield 45, 3) := by decide +kernel
theorem dX9_gap_57 : decode cX9_gap 57 = .ok (.aload_n 0, 1) := by decide +kernel
theorem dX9_gap_58 : decode cX9_gap 58 = .ok (.getfield 54, 3) := by decide +kernel
theorem dX9_gap_61 : decode cX9_gap 61 = .ok (.iload 4, 2) := by decide +kernel
theorem dX9_gap_63 : decode cX9_gap 63 = .ok (.iconst 1, 1) := by decide +kernel
theorem dX9_gap_64 : decode cX9_gap 64 = .ok (.isub, 1) := by decide +kernel
theorem dX9_gap_65 : decode cX9_gap 65 = .ok (.iaload, 1) := by decide +kernel
theorem dX9_gap_66 : decode cX9_gap 66 = .ok (.iaload, 1) := by decide +kernel
theorem dX9_gap_67 : decode cX9_gap 67 = .ok (.isub, 1) := by decide +kernel
theorem dX9_gap_68 : decode cX9_gap 68 = .ok (.istore 5, 2) := by decide +kernel
theorem dX9_gap_70 : decode cX9_gap 70 = .ok (.iload 5, 2) := by decide +kernel
theorem dX9_gap_72 : decode cX9_gap 72 = .ok (.ifCond .le 12, 3) := by decide +kernel
theorem dX9_gap_75 : decode cX9_gap 75 = .ok (.iload 5, 2) := by decide +kernel
theorem dX9_gap_77 : decode cX9_gap 77 = .ok (.iload_n 3, 1) := by decide +kernel
theorem dX9_gap_78 : decode cX9_gap 78 = .ok (.if_icmp .le 6, 3) := by decide +kernel
theorem dX9_gap_81 : decode cX9_gap 81 = .ok (.iload 5, 2) := by decide +kernel
theorem dX9_gap_83 : decode cX9_gap 83 = .ok (.istore_n 3, 1) := by decide +kernel
theorem dX9_gap_84 : decode cX9_gap 84 = .ok (.iinc 4 1, 3) := by decide +kernel
theorem dX9_gap_87 : decode cX9_gap 87 = .ok (.goto (-55), 3) := by decide +kernel
theorem dX9_gap_90 : decode cX9_gap 90 = .ok (.iload_n 3, 1) := by decide +kernel
theorem dX9_gap_91 : decode cX9_gap 91 = .ok (.ireturn, 1) := by decide +kernel
theorem dX9_goOn_0 : decode cX9_goOn 0 = .ok (.aload_n 0, 1) := by decide +kernel
theorem dX9_goOn_1 : decode cX9_goOn 1 = .ok (.getfield 132, 3) := by decide +kernel
theorem dX9_goOn_4 : decode cX9_goOn 4 = .ok (.ifCond .ne 7, 3) := by decide +kernel
theorem dX9_goOn_7 : decode cX9_goOn 7 = .ok (.aload_n 0, 1) := by decide +kernel
theorem dX9_goOn_8 : decode cX9_goOn 8 = .ok (.invokevirtual 138, 3) := by decide +kernel
theorem dX9_goOn_11 : decode cX9_goOn 11 = .ok (.return_, 1) := by decide +kernel
theorem dX9_goes_0 : decode cX9_goes 0 = .ok (.iconst 0, 1) := by decide +kernel
theorem dX9_goes_1 : decode cX9_goes 1 = .ok (.istore_n 2, 1) := by decide +kernel
theorem dX9_goes_2 : decode cX9_goes 2 = .ok (.iload_n 2, 1) := by decide +kernel
theorem dX9_goes_3 : decode cX9_goes 3 = .ok (.aload_n 0, 1) := by decide +kernel
theorem dX9_goes_4 : decode cX9_goes 4 = .ok (.invokevirtual 198, 3) := by decide +kernel
theorem dX9_goes_7 : decode cX9_goes 7 = .ok (.if_icmp .ge 29, 3) := by decide +kernel
theorem dX9_goes_10 : decode cX9_goes 10 = .ok (.aload_n 0, 1) := by decide +kernel
theorem dX9_goes_11 : decode cX9_goes 11 = .ok (.iload_n 2, 1) := by decide +kernel
theorem dX9_goes_12 : decode cX9_goes 12 = .ok (.iconst 0, 1) := by decide +kernel
theorem dX9_goes_13 : decode cX9_goes 13 = .ok (.invokevirtual 201, 3) := by decide +kernel
theorem dX9_goes_16 : decode cX9_goes 16 = .ok (.iload_n 1, 1) := by decide +kernel
theorem dX9_goes_17 : decode cX9_goes 17 = .ok (.if_icmp .ne 13, 3) := by decide +kernel
theorem dX9_goes_20 : decode cX9_goes 20 = .ok (.aload_n 0, 1) := by decide +kernel
theorem dX9_goes_21 : decode cX9_goes 21 = .ok (.iload_n 2, 1) := by decide +kernel
theorem dX9_goes_22 : decode cX9_goes 22 = .ok (.invokevirtual 207, 3) := by decide +kernel
theorem dX9_goes_25 : decode cX9_goes 25 = .ok (.ifCond .ne 5, 3) := by decide +kernel
theorem dX9_goes_28 : decode cX9_goes 28 = .ok (.iconst 1, 1) := by decide +kernel
theorem dX9_goes_29 : decode cX9_goes 29 = .ok (.ireturn, 1) := by decide +kernel
theorem dX9_goes_30 : decode cX9_goes 30 = .ok (.iinc 2 1, 3) := by decide +kernel
theorem dX9_goes_33 : decode cX9_goes 33 = .ok (.goto (-31), 3) := by decide +kernel
theorem dX9_goes_36 : decode cX9_goes 36 = .ok (.iconst 0, 1) := by decide +kernel
theorem dX9_goes_37 : decode cX9_goes 37 = .ok (.ireturn, 1) := by decide +kernel
theorem dX9_here_0 : decode cX9_here 0 = .ok (.aload_n 0, 1) := by decide +kernel
theorem dX9_here_1 : decode cX9_here 1 = .ok (.getfield 91, 3) := by decide +kernel
theorem dX9_here_4 : decode cX9_here 4 = .ok (.aload_n 0, 1) := by decide +kernel
theorem dX9_here_5 : decode cX9_here 5 = .ok (.getfield 94, 3) := by decide +kernel
theorem dX9_here_8 : decode cX9_here 8 = .ok (.if_icmp .ge 15, 3) := by decide +kernel
theorem dX9_here_11 : decode cX9_here 11 = .ok (.aload_n 0, 1) := by decide +kernel
theorem dX9_here_12 : decode cX9_here 12 = .ok (.getfield 7, 3) := by decide +kernel
theorem dX9_here_15 : decode cX9_here 15 = .ok (.aload_n 0, 1) := by decide +kernel
theorem dX9_here_16 : decode cX9_here 16 = .ok (.getfield 91, 3) := by decide +kernel
theorem dX9_here_19 : decode cX9_here 19 = .ok (.iaload, 1) := by decide +kernel
theorem dX9_here_20 : decode cX9_here 20 = .ok (.goto 4, 3) := by decide +kernel
theorem dX9_here_23 : decode cX9_here 23 = .ok (.iconst (-1), 1) := by decide +kernel
theorem dX9_here_24 : decode cX9_here 24 = .ok (.ireturn, 1) := by decide +kernel
theorem dX9_hub_0 : decode cX9_hub 0 = .ok (.aload_n 0, 1) := by decide +kernel
theorem dX9_hub_1 : decode cX9_hub 1 = .ok (.iconst 0, 1) := by decide +kernel
theorem dX9_hub_2 : decode cX9_hub 2 = .ok (.putfield 85, 3) := by decide +kernel
theorem dX9_hub_5 : decode cX9_hub 5 = .ok (.iload_n 1, 1) := by decide +kernel
theorem dX9_hub_6 : decode cX9_hub 6 = .ok (.ifCond .lt 8, 3) := by decide +kernel
theorem dX9_hub_9 : decode cX9_hub 9 = .ok (.iload_n 1, 1) := by decide +kernel
theorem dX9_hub_10 : decode cX9_hub 10 = .ok (.iconst 1, 1) := by decide +kernel
theorem dX9_hub_11 : decode cX9_hub 11 = .ok (.if_icmp .le 5, 3) := by decide +kernel
theorem dX9_hub_14 : decode cX9_hub 14 = .ok (.iconst (-1), 1) := by decide +kernel
theorem dX9_hub_15 : decode cX9_hub 15 = .ok (.ireturn, 1) := by decide +kernel
theorem dX9_hub_16 : decode cX9_hub 16 = .ok (.aload_n 0, 1) := by decide +kernel
theorem dX9_hub_17 : decode cX9_hub 17 = .ok (.invokevirtual 290, 3) := by decide +kernel
theorem dX9_hub_20 : decode cX9_hub 20 = .ok (.iconst 0, 1) := by decide +kernel
theorem dX9_hub_21 : decode cX9_hub 21 = .ok (.istore_n 2, 1) := by decide +kernel
theorem dX9_hub_22 : decode cX9_hub 22 = .ok (.iload_n 2, 1) := by decide +kernel
theorem dX9_hub_23 : decode cX9_hub 23 = .ok (.bipush 10, 2) := by decide +kernel
theorem dX9_hub_25 : decode cX9_hub 25 = .ok (.if_icmp .ge 16, 3) := by decide +kernel
theorem dX9_hub_28 : decode cX9_hub 28 = .ok (.aload_n 0, 1) := by decide +kernel
theorem dX9_hub_29 : decode cX9_hub 29 = .ok (.getfield 70, 3) := by decide +kernel
theorem dX9_hub_32 : decode cX9_hub 32 = .ok (.iload_n 2, 1) := by decide +kernel
theorem dX9_hub_33 : decode cX9_hub 33 = .ok (.iconst 0, 1) := by decide +kernel
theorem dX9_hub_34 : decode cX9_hub 34 = .ok (.iastore, 1) := by decide +kernel
theorem dX9_hub_35 : decode cX9_hub 35 = .ok (.iinc 2 1, 3) := by decide +kernel
theorem dX9_hub_38 : decode cX9_hub 38 = .ok (.goto (-16), 3) := by decide +kernel
theorem dX9_hub_41 : decode cX9_hub 41 = .ok (.iconst 0, 1) := by decide +kernel
theorem dX9_hub_42 : decode cX9_hub 42 = .ok (.istore_n 2, 1) := by decide +kernel
theorem dX9_hub_43 : decode cX9_hub 43 = .ok (.iload_n 2, 1) := by decide +kernel
theorem dX9_hub_44 : decode cX9_hub 44 = .ok (.aload_n 0, 1) := by decide +kernel
theorem dX9_hub_45 : decode cX9_hub 45 = .ok (.invokevirtual 195, 3) := by decide +kernel
theorem dX9_hub_48 : decode cX9_hub 48 = .ok (.if_icmp .ge 36, 3) := by decide +kernel
theorem dX9_hub_51 : decode cX9_hub 51 = .ok (.iconst 0, 1) := by decide +kernel
theorem dX9_hub_52 : decode cX9_hub 52 = .ok (.istore_n 3, 1) := by decide +kernel
theorem dX9_hub_53 : decode cX9_hub 53 = .ok (.iload_n 3, 1) := by decide +kernel
theorem dX9_hub_54 : decode cX9_hub 54 = .ok (.aload_n 0, 1) := by decide +kernel
theorem dX9_hub_55 : decode cX9_hub 55 = .ok (.invokevirtual 195, 3) := by decide +kernel
theorem dX9_hub_58 : decode cX9_hub 58 = .ok (.if_icmp .ge 20, 3) := by decide +kernel
theorem dX9_hub_61 : decode cX9_hub 61 = .ok (.iload_n 2, 1) := by decide +kernel
theorem dX9_hub_62 : decode cX9_hub 62 = .ok (.iload_n 3, 1) := by decide +kernel
theorem dX9_hub_63 : decode cX9_hub 63 = .ok (.if_icmp .eq 9, 3) := by decide +kernel
theorem dX9_hub_66 : decode cX9_hub 66 = .ok (.aload_n 0, 1) := by decide +kernel
theorem dX9_hub_67 : decode cX9_hub 67 = .ok (.iload_n 2, 1) := by decide +kernel
theorem dX9_hub_68 : decode cX9_hub 68 = .ok (.iload_n 3, 1) := by decide +kernel
theorem dX9_hub_69 : decode cX9_hub 69 = .ok (.invokevirtual 313, 3) := by decide +kernel
theorem dX9_hub_72 : decode cX9_hub 72 = .ok (.iinc 3 1, 3) := by decide +kernel
theorem dX9_hub_75 : decode cX9_hub 75 = .ok (.goto (-22), 3) := by decide +kernel
theorem dX9_hub_78 : decode cX9_hub 78 = .ok (.iinc 2 1, 3) := by decide +kernel
theorem dX9_hub_81 : decode cX9_hub 81 = .ok (.goto (-38), 3) := by decide +kernel
theorem dX9_hub_84 : decode cX9_hub 84 = .ok (.bipush (-2), 2) := by decide +kernel
theorem dX9_hub_86 : decode cX9_hub 86 = .ok (.istore_n 2, 1) := by decide +kernel
theorem dX9_hub_87 : decode cX9_hub 87 = .ok (.iconst 0, 1) := by decide +kernel
theorem dX9_hub_88 : decode cX9_hub 88 = .ok (.istore_n 3, 1) := by decide +kernel
theorem dX9_hub_89 : decode cX9_hub 89 = .ok (.iload_n 3, 1) := by decide +kernel
theorem dX9_hub_90 : decode cX9_hub 90 = .ok (.aload_n 0, 1) := by decide +kernel
theorem dX9_hub_91 : decode cX9_hub 91 = .ok (.invokevirtual 195, 3) := by decide +kernel
theorem dX9_hub_94 : decode cX9_hub 94 = .ok (.if_icmp .ge 36, 3) := by decide +kernel
theorem dX9_hub_97 : decode cX9_hub 97 = .ok (.aload_n 0, 1) := by decide +kernel
theorem dX9_hub_98 : decode cX9_hub 98 = .ok (.getfield 70, 3) := by decide +kernel
theorem dX9_hub_101 : decode cX9_hub 101 = .ok (.iload_n 3, 1) := by decide +kernel
theorem dX9_hub_102 : decode cX9_hub 102 = .ok (.iaload, 1) := by decide +kernel
theorem dX9_hub_103 : decode cX9_hub 103 = .ok (.iload_n 2, 1) := by decide +kernel
theorem dX9_hub_104 : decode cX9_hub 104 = .ok (.bipush (-2), 2) := by decide +kernel
theorem dX9_hub_106 : decode cX9_hub 106 = .ok (.if_icmp .ne 7, 3) := by decide +kernel
theorem dX9_hub_109 : decode cX9_hub 109 = .ok (.iconst 0, 1) := by decide +kernel
theorem dX9_hub_110 : decode cX9_hub 110 = .ok (.goto 9, 3) := by decide +kernel
theorem dX9_hub_113 : decode cX9_hub 113 = .ok (.aload_n 0, 1) := by decide +kernel
theorem dX9_hub_114 : decode cX9_hub 114 = .ok (.getfield 70, 3) := by decide +kernel
theorem dX9_hub_117 : decode cX9_hub 117 = .ok (.iload_n 2, 1) := by decide +kernel
theorem dX9_hub_118 : decode cX9_hub 118 = .ok (.iaload, 1) := by decide +kernel
theorem dX9_hub_119 : decode cX9_hub 119 = .ok (.if_icmp .le 5, 3) := by decide +kernel
theorem dX9_hub_122 : decode cX9_hub 122 = .ok (.iload_n 3, 1) := by decide +kernel
theorem dX9_hub_123 : decode cX9_hub 123 = .ok (.istore_n 2, 1) := by decide +kernel
theorem dX9_hub_124 : decode cX9_hub 124 = .ok (.iinc 3 1, 3) := by decide +kernel
theorem dX9_hub_127 : decode cX9_hub 127 = .ok (.goto (-38), 3) := by decide +kernel
theorem dX9_hub_130 : decode cX9_hub 130 = .ok (.iload_n 2, 1) := by decide +kernel
theorem dX9_hub_131 : decode cX9_hub 131 = .ok (.bipush (-2), 2) := by decide +kernel
theorem dX9_hub_133 : decode cX9_hub 133 = .ok (.if_icmp .eq 7, 3) := by decide +kernel
theorem dX9_hub_136 : decode cX9_hub 136 = .ok (.iload_n 1, 1) := by decide +kernel
theorem dX9_hub_137 : decode cX9_hub 137 = .ok (.ifCond .ne 7, 3) := by decide +kernel
theorem dX9_hub_140 : decode cX9_hub 140 = .ok (.iload_n 2, 1) := by decide +kernel
theorem dX9_hub_141 : decode cX9_hub 141 = .ok (.goto 9, 3) := by decide +kernel
theorem dX9_hub_144 : decode cX9_hub 144 = .ok (.aload_n 0, 1) := by decide +kernel
theorem dX9_hub_145 : decode cX9_hub 145 = .ok (.getfield 70, 3) := by decide +kernel
theorem dX9_hub_148 : decode cX9_hub 148 = .ok (.iload_n 2, 1) := by decide +kernel
theorem dX9_hub_149 : decode cX9_hub 149 = .ok (.iaload, 1) := by decide +kernel
theorem dX9_hub_150 : decode cX9_hub 150 = .ok (.ireturn, 1) := by decide +kernel
theorem dX9_ifLate_0 : decode cX9_ifLate 0 = .ok (.aload_n 0, 1) := by decide +kernel
theorem dX9_ifLate_1 : decode cX9_ifLate 1 = .ok (.iconst 0, 1) := by decide +kernel
theorem dX9_ifLate_2 : decode cX9_ifLate 2 = .ok (.putfield 85, 3) := by decide +kernel
theorem dX9_ifLate_5 : decode cX9_ifLate 5 = .ok (.aload_n 0, 1) := by decide +kernel
theorem dX9_ifLate_6 : decode cX9_ifLate 6 = .ok (.iload_n 1, 1) := by decide +kernel
theorem dX9_ifLate_7 : decode cX9_ifLate 7 = .ok (.invokevirtual 222, 3) := by decide +kernel
theorem dX9_ifLate_10 : decode cX9_ifLate 10 = .ok (.ifCond .eq 41, 3) := by decide +kernel
theorem dX9_ifLate_13 : decode cX9_ifLate 13 = .ok (.iload_n 2, 1) := by decide +kernel
theorem dX9_ifLate_14 : decode cX9_ifLate 14 = .ok (.bipush (-60), 2) := by decide +kernel
theorem dX9_ifLate_16 : decode cX9_ifLate 16 = .ok (.if_icmp .lt 35, 3) := by decide +kernel
theorem dX9_ifLate_19 : decode cX9_ifLate 19 = .ok (.iload_n 2, 1) := by decide +kernel
theorem dX9_ifLate_20 : decode cX9_ifLate 20 = .ok (.sipush 240, 3) := by decide +kernel
theorem dX9_ifLate_23 : decode cX9_ifLate 23 = .ok (.if_icmp .gt 28, 3) := by decide +kernel
theorem dX9_ifLate_26 : decode cX9_ifLate 26 = .ok (.aload_n 0, 1) := by decide +kernel
theorem dX9_ifLate_27 : decode cX9_ifLate 27 = .ok (.iload_n 3, 1) := by decide +kernel
theorem dX9_ifLate_28 : decode cX9_ifLate 28 = .ok (.invokevirtual 213, 3) := by decide +kernel
theorem dX9_ifLate_31 : decode cX9_ifLate 31 = .ok (.ifCond .eq 20, 3) := by decide +kernel
theorem dX9_ifLate_34 : decode cX9_ifLate 34 = .ok (.aload_n 0, 1) := by decide +kernel
theorem dX9_ifLate_35 : decode cX9_ifLate 35 = .ok (.iload 4, 2) := by decide +kernel
theorem dX9_ifLate_37 : decode cX9_ifLate 37 = .ok (.invokevirtual 213, 3) := by decide +kernel
theorem dX9_ifLate_40 : decode cX9_ifLate 40 = .ok (.ifCond .eq 11, 3) := by decide +kernel
theorem dX9_ifLate_43 : decode cX9_ifLate 43 = .ok (.iload 5, 2) := by decide +kernel
theorem dX9_ifLate_45 : decode cX9_ifLate 45 = .ok (.invokestatic 320, 3) := by decide +kernel
theorem dX9_ifLate_48 : decode cX9_ifLate 48 = .ok (.ifCond .ne 5, 3) := by decide +kernel
theorem dX9_ifLate_51 : decode cX9_ifLate 51 = .ok (.iconst (-1), 1) := by decide +kernel
theorem dX9_ifLate_52 : decode cX9_ifLate 52 = .ok (.ireturn, 1) := by decide +kernel
theorem dX9_ifLate_53 : decode cX9_ifLate 53 = .ok (.iload_n 3, 1) := by decide +kernel
theorem dX9_ifLate_54 : decode cX9_ifLate 54 = .ok (.iload 4, 2) := by decide +kernel
theorem dX9_ifLate_56 : decode cX9_ifLate 56 = .ok (.if_icmp .ne 6, 3) := by decide +kernel
theorem dX9_ifLate_59 : decode cX9_ifLate 59 = .ok (.iload 5, 2) := by decide +kernel
theorem dX9_ifLate_61 : decode cX9_ifLate 61 = .ok (.ireturn, 1) := by decide +kernel
theorem dX9_ifLate_62 : decode cX9_ifLate 62 = .ok (.aload_n 0, 1) := by decide +kernel
theorem dX9_ifLate_63 : decode cX9_ifLate 63 = .ok (.iload_n 1, 1) := by decide +kernel
theorem dX9_ifLate_64 : decode cX9_ifLate 64 = .ok (.iload_n 2, 1) := by decide +kernel
theorem dX9_ifLate_65 : decode cX9_ifLate 65 = .ok (.iconst 0, 1) := by decide +kernel
theorem dX9_ifLate_66 : decode cX9_ifLate 66 = .ok (.invokevirtual 249, 3) := by decide +kernel
theorem dX9_ifLate_69 : decode cX9_ifLate 69 = .ok (.aload_n 0, 1) := by decide +kernel
theorem dX9_ifLate_70 : decode cX9_ifLate 70 = .ok (.iload_n 3, 1) := by decide +kernel
theorem dX9_ifLate_71 : decode cX9_ifLate 71 = .ok (.iload 4, 2) := by decide +kernel
theorem dX9_ifLate_73 : decode cX9_ifLate 73 = .ok (.iload 5, 2) := by decide +kernel
theorem dX9_ifLate_75 : decode cX9_ifLate 75 = .ok (.iconst 4, 1) := by decide +kernel
theorem dX9_ifLate_76 : decode cX9_ifLate 76 = .ok (.invokevirtual 316, 3) := by decide +kernel
theorem dX9_ifLate_79 : decode cX9_ifLate 79 = .ok (.invokestatic 326, 3) := by decide +kernel
theorem dX9_ifLate_82 : decode cX9_ifLate 82 = .ok (.ireturn, 1) := by decide +kernel
theorem dX9_init_0 : decode cX9_init 0 = .ok (.aload_n 0, 1) := by decide +kernel
theorem dX9_init_1 : decode cX9_init 1 = .ok (.invokespecial 1, 3) := by decide +kernel
theorem dX9_init_4 : decode cX9_init 4 = .ok (.aload_n 0, 1) := by decide +kernel
theorem dX9_init_5 : decode cX9_init 5 = .ok (.sipush 900, 3) := by decide +kernel
theorem dX9_init_8 : decode cX9_init 8 = .ok (.newarray .int, 2) := by decide +kernel
theorem dX9_init_10 : decode cX9_init 10 = .ok (.putfield 7, 3) := by decide +kernel
theorem dX9_init_13 : decode cX9_init 13 = .ok (.aload_n 0, 1) := by decide +kernel
theorem dX9_init_14 : decode cX9_init 14 = .ok (.sipush 415, 3) := by decide +kernel
theorem dX9_init_17 : decode cX9_init 17 = .ok (.newarray .int, 2) := by decide +kernel
theorem dX9_init_19 : decode cX9_init 19 = .ok (.putfield 13, 3) := by decide +kernel
theorem dX9_init_22 : decode cX9_init 22 = .ok (.aload_n 0, 1) := by decide +kernel
theorem dX9_init_23 : decode cX9_init 23 = .ok (.sipush 415, 3) := by decide +kernel
theorem dX9_init_26 : decode cX9_init 26 = .ok (.newarray .int, 2) := by decide +kernel
theorem dX9_init_28 : decode cX9_init 28 = .ok (.putfield 16, 3) := by decide +kernel
theorem dX9_init_31 : decode cX9_init 31 = .ok (.aload_n 0, 1) := by decide +kernel
theorem dX9_init_32 : decode cX9_init 32 = .ok (.bipush 10, 2) := by decide +kernel
theorem dX9_init_34 : decode cX9_init 34 = .ok (.newarray .int, 2) := by decide +kernel
theorem dX9_init_36 : decode cX9_init 36 = .ok (.putfield 19, 3) := by decide +kernel
theorem dX9_init_39 : decode cX9_init 39 = .ok (.aload_n 0, 1) := by decide +kernel
theorem dX9_init_40 : decode cX9_init 40 = .ok (.iconst (-1), 1) := by decide +kernel
theorem dX9_init_41 : decode cX9_init 41 = .ok (.putfield 22, 3) := by decide +kernel
theorem dX9_init_44 : decode cX9_init 44 = .ok (.aload_n 0, 1) := by decide +kernel
theorem dX9_init_45 : decode cX9_init 45 = .ok (.bipush 60, 2) := by decide +kernel
theorem dX9_init_47 : decode cX9_init 47 = .ok (.newarray .int, 2) := by decide +kernel
theorem dX9_init_49 : decode cX9_init 49 = .ok (.putfield 26, 3) := by decide +kernel
theorem dX9_init_52 : decode cX9_init 52 = .ok (.aload_n 0, 1) := by decide +kernel
theorem dX9_init_53 : decode cX9_init 53 = .ok (.sipush 1200, 3) := by decide +kernel
theorem dX9_init_56 : decode cX9_init 56 = .ok (.newarray .int, 2) := by decide +kernel
theorem dX9_init_58 : decode cX9_init 58 = .ok (.putfield 29, 3) := by decide +kernel
theorem dX9_init_61 : decode cX9_init 61 = .ok (.aload_n 0, 1) := by decide +kernel
theorem dX9_init_62 : decode cX9_init 62 = .ok (.bipush 20, 2) := by decide +kernel
theorem dX9_init_64 : decode cX9_init 64 = .ok (.newarray .long, 2) := by decide +kernel
theorem dX9_init_66 : decode cX9_init 66 = .ok (.putfield 32, 3) := by decide +kernel
theorem dX9_init_69 : decode cX9_init 69 = .ok (.aload_n 0, 1) := by decide +kernel
theorem dX9_init_70 : decode cX9_init 70 = .ok (.bipush 60, 2) := by decide +kernel
theorem dX9_init_72 : decode cX9_init 72 = .ok (.newarray .int, 2) := by decide +kernel
theorem dX9_init_74 : decode cX9_init 74 = .ok (.putfield 36, 3) := by decide +kernel
theorem dX9_init_77 : decode cX9_init 77 = .ok (.aload_n 0, 1) := by decide +kernel
theorem dX9_init_78 : decode cX9_init 78 = .ok (.bipush 60, 2) := by decide +kernel
theorem dX9_init_80 : decode cX9_init 80 = .ok (.newarray .int, 2) := by decide +kernel
theorem dX9_init_82 : decode cX9_init 82 = .ok (.putfield 39, 3) := by decide +kernel
theorem dX9_init_85 : decode cX9_init 85 = .ok (.aload_n 0, 1) := by decide +kernel
theorem dX9_init_86 : decode cX9_init 86 = .ok (.bipush 60, 2) := by decide +kernel
theorem dX9_init_88 : decode cX9_init 88 = .ok (.newarray .long, 2) := by decide +kernel
theorem dX9_init_90 : decode cX9_init 90 = .ok (.putfield 42, 3) := by decide +kernel
theorem dX9_init_93 : decode cX9_init 93 = .ok (.aload_n 0, 1) := by decide +kernel
theorem dX9_init_94 : decode cX9_init 94 = .ok (.sipush 300, 3) := by decide +kernel
theorem dX9_init_97 : decode cX9_init 97 = .ok (.newarray .int, 2) := by decide +kernel
theorem dX9_init_99 : decode cX9_init 99 = .ok (.putfield 45, 3) := by decide +kernel
theorem dX9_init_102 : decode cX9_init 102 = .ok (.aload_n 0, 1) := by decide +kernel
theorem dX9_init_103 : decode cX9_init 103 = .ok (.sipush 300, 3) := by decide +kernel
theorem dX9_init_106 : decode cX9_init 106 = .ok (.newarray .int, 2) := by decide +kernel
theorem dX9_init_108 : decode cX9_init 108 = .ok (.putfield 48, 3) := by decide +kernel
theorem dX9_init_111 : decode cX9_init 111 = .ok (.aload_n 0, 1) := by decide +kernel
theorem dX9_init_112 : decode cX9_init 112 = .ok (.sipush 300, 3) := by decide +kernel
theorem dX9_init_115 : decode cX9_init 115 = .ok (.newarray .int, 2) := by decide +kernel
theorem dX9_init_117 : decode cX9_init 117 = .ok (.putfield 51, 3) := by decide +kernel
theorem dX9_init_120 : decode cX9_init 120 = .ok (.aload_n 0, 1) := by decide +kernel
theorem dX9_init_121 : decode cX9_init 121 = .ok (.sipush 300, 3) := by decide +kernel
theorem dX9_init_124 : decode cX9_init 124 = .ok (.newarray .int, 2) := by decide +kernel
theorem dX9_init_126 : decode cX9_init 126 = .ok (.putfield 54, 3) := by decide +kernel
theorem dX9_init_129 : decode cX9_init 129 = .ok (.aload_n 0, 1) := by decide +kernel
theorem dX9_init_130 : decode cX9_init 130 = .ok (.sipush 300, 3) := by decide +kernel
theorem dX9_init_133 : decode cX9_init 133 = .ok (.newarray .boolean, 2) := by decide +kernel
theorem dX9_init_135 : decode cX9_init 135 = .ok (.putfield 57, 3) := by decide +kernel
theorem dX9_init_138 : decode cX9_init 138 = .ok (.aload_n 0, 1) := by decide +kernel
theorem dX9_init_139 : decode cX9_init 139 = .ok (.sipush 300, 3) := by decide +kernel
theorem dX9_init_142 : decode cX9_init 142 = .ok (.newarray .boolean, 2) := by decide +kernel
theorem dX9_init_144 : decode cX9_init 144 = .ok (.putfield 61, 3) := by decide +kernel
theorem dX9_init_147 : decode cX9_init 147 = .ok (.aload_n 0, 1) := by decide +kernel
theorem dX9_init_148 : decode cX9_init 148 = .ok (.iconst 5, 1) := by decide +kernel
theorem dX9_init_149 : decode cX9_init 149 = .ok (.newarray .int, 2) := by decide +kernel
theorem dX9_init_151 : decode cX9_init 151 = .ok (.putfield 64, 3) := by decide +kernel
theorem dX9_init_154 : decode cX9_init 154 = .ok (.aload_n 0, 1) := by decide +kernel
theorem dX9_init_155 : decode cX9_init 155 = .ok (.iconst 5, 1) := by decide +kernel
theorem dX9_init_156 : decode cX9_init 156 = .ok (.newarray .int, 2) := by decide +kernel
theorem dX9_init_158 : decode cX9_init 158 = .ok (.putfield 67, 3) := by decide +kernel
theorem dX9_init_161 : decode cX9_init 161 = .ok (.aload_n 0, 1) := by decide +kernel
theorem dX9_init_162 : decode cX9_init 162 = .ok (.bipush 10, 2) := by decide +kernel
theorem dX9_init_164 : decode cX9_init 164 = .ok (.newarray .int, 2) := by decide +kernel
theorem dX9_init_166 : decode cX9_init 166 = .ok (.putfield 70, 3) := by decide +kernel
theorem dX9_init_169 : decode cX9_init 169 = .ok (.aload_n 0, 1) := by decide +kernel
theorem dX9_init_170 : decode cX9_init 170 = .ok (.bipush 6, 2) := by decide +kernel
theorem dX9_init_172 : decode cX9_init 172 = .ok (.newarray .int, 2) := by decide +kernel
theorem dX9_init_174 : decode cX9_init 174 = .ok (.putfield 73, 3) := by decide +kernel
theorem dX9_init_177 : decode cX9_init 177 = .ok (.aload_n 0, 1) := by decide +kernel
theorem dX9_init_178 : decode cX9_init 178 = .ok (.bipush 6, 2) := by decide +kernel
theorem dX9_init_180 : decode cX9_init 180 = .ok (.newarray .int, 2) := by decide +kernel
theorem dX9_init_182 : decode cX9_init 182 = .ok (.putfield 76, 3) := by decide +kernel
theorem dX9_init_185 : decode cX9_init 185 = .ok (.aload_n 0, 1) := by decide +kernel
theorem dX9_init_186 : decode cX9_init 186 = .ok (.invokevirtual 79, 3) := by decide +kernel
theorem dX9_init_189 : decode cX9_init 189 = .ok (.aload_n 0, 1) := by decide +kernel
theorem dX9_init_190 : decode cX9_init 190 = .ok (.invokevirtual 82, 3) := by decide +kernel
theorem dX9_init_193 : decode cX9_init 193 = .ok (.return_, 1) := by decide +kernel
theorem dX9_isAhead_0 : decode cX9_isAhead 0 = .ok (.aload_n 0, 1) := by decide +kernel
theorem dX9_isAhead_1 : decode cX9_isAhead 1 = .ok (.getfield 45, 3) := by decide +kernel
theorem dX9_isAhead_4 : decode cX9_isAhead 4 = .ok (.iload_n 1, 1) := by decide +kernel
theorem dX9_isAhead_5 : decode cX9_isAhead 5 = .ok (.iaload, 1) := by decide +kernel
theorem dX9_isAhead_6 : decode cX9_isAhead 6 = .ok (.aload_n 0, 1) := by decide +kernel
theorem dX9_isAhead_7 : decode cX9_isAhead 7 = .ok (.getfield 45, 3) := by decide +kernel
theorem dX9_isAhead_10 : decode cX9_isAhead 10 = .ok (.iload_n 2, 1) := by decide +kernel
theorem dX9_isAhead_11 : decode cX9_isAhead 11 = .ok (.iaload, 1) := by decide +kernel
theorem dX9_isAhead_12 : decode cX9_isAhead 12 = .ok (.if_icmp .eq 24, 3) := by decide +kernel
theorem dX9_isAhead_15 : decode cX9_isAhead 15 = .ok (.aload_n 0, 1) := by decide +kernel
theorem dX9_isAhead_16 : decode cX9_isAhead 16 = .ok (.getfield 45, 3) := by decide +kernel
theorem dX9_isAhead_19 : decode cX9_isAhead 19 = .ok (.iload_n 1, 1) := by decide +kernel
theorem dX9_isAhead_20 : decode cX9_isAhead 20 = .ok (.iaload, 1) := by decide +kernel
theorem dX9_isAhead_21 : decode cX9_isAhead 21 = .ok (.aload_n 0, 1) := by decide +kernel
theorem dX9_isAhead_22 : decode cX9_isAhead 22 = .ok (.getfield 45, 3) := by decide +kernel
theorem dX9_isAhead_25 : decode cX9_isAhead 25 = .ok (.iload_n 2, 1) := by decide +kernel
theorem dX9_isAhead_26 : decode cX9_isAhead 26 = .ok (.iaload, 1) := by decide +kernel
theorem dX9_isAhead_27 : decode cX9_isAhead 27 = .ok (.if_icmp .ge 7, 3) := by decide +kernel
theorem dX9_isAhead_30 : decode cX9_isAhead 30 = .ok (.iconst 1, 1) := by decide +kernel
theorem dX9_isAhead_31 : decode cX9_isAhead 31 = .ok (.goto 4, 3) := by decide +kernel
theorem dX9_isAhead_34 : decode cX9_isAhead 34 = .ok (.iconst 0, 1) := by decide +kernel
theorem dX9_isAhead_35 : decode cX9_isAhead 35 = .ok (.ireturn, 1) := by decide +kernel
theorem dX9_isAhead_36 : decode cX9_isAhead 36 = .ok (.aload_n 0, 1) := by decide +kernel
theorem dX9_isAhead_37 : decode cX9_isAhead 37 = .ok (.getfield 48, 3) := by decide +kernel
theorem dX9_isAhead_40 : decode cX9_isAhead 40 = .ok (.iload_n 1, 1) := by decide +kernel
theorem dX9_isAhead_41 : decode cX9_isAhead 41 = .ok (.iaload, 1) := by decide +kernel
theorem dX9_isAhead_42 : decode cX9_isAhead 42 = .ok (.aload_n 0, 1) := by decide +kernel
theorem dX9_isAhead_43 : decode cX9_isAhead 43 = .ok (.getfield 48, 3) := by decide +kernel
theorem dX9_isAhead_46 : decode cX9_isAhead 46 = .ok (.iload_n 2, 1) := by decide +kernel
theorem dX9_isAhead_47 : decode cX9_isAhead 47 = .ok (.iaload, 1) := by decide +kernel
theorem dX9_isAhead_48 : decode cX9_isAhead 48 = .ok (.if_icmp .eq 26, 3) := by decide +kernel
theorem dX9_isAhead_51 : decode cX9_isAhead 51 = .ok (.aload_n 0, 1) := by decide +kernel
theorem dX9_isAhead_52 : decode cX9_isAhead 52 = .ok (.getfield 48, 3) := by decide +kernel
theorem dX9_isAhead_55 : decode cX9_isAhead 55 = .ok (.iload_n 1, 1) := by decide +kernel
theorem dX9_isAhead_56 : decode cX9_isAhead 56 = .ok (.iaload, 1) := by decide +kernel
theorem dX9_isAhead_57 : decode cX9_isAhead 57 = .ok (.aload_n 0, 1) := by decide +kernel
theorem dX9_isAhead_58 : decode cX9_isAhead 58 = .ok (.getfield 48, 3) := by decide +kernel
theorem dX9_isAhead_61 : decode cX9_isAhead 61 = .ok (.iload_n 2, 1) := by decide +kernel
theorem dX9_isAhead_62 : decode cX9_isAhead 62 = .ok (.iaload, 1) := by decide +kernel
theorem dX9_isAhead_63 : decode cX9_isAhead 63 = .ok (.if_icmp .ge 7, 3) := by decide +kernel
theorem dX9_isAhead_66 : decode cX9_isAhead 66 = .ok (.iconst 1, 1) := by decide +kernel
theorem dX9_isAhead_67 : decode cX9_isAhead 67 = .ok (.goto 27, 3) := by decide +kernel
theorem dX9_isAhead_70 : decode cX9_isAhead 70 = .ok (.iconst 0, 1) := by decide +kernel
theorem dX9_isAhead_71 : decode cX9_isAhead 71 = .ok (.goto 23, 3) := by decide +kernel
theorem dX9_isAhead_74 : decode cX9_isAhead 74 = .ok (.aload_n 0, 1) := by decide +kernel
theorem dX9_isAhead_75 : decode cX9_isAhead 75 = .ok (.getfield 51, 3) := by decide +kernel
theorem dX9_isAhead_78 : decode cX9_isAhead 78 = .ok (.iload_n 1, 1) := by decide +kernel
theorem dX9_isAhead_79 : decode cX9_isAhead 79 = .ok (.iaload, 1) := by decide +kernel
theorem dX9_isAhead_80 : decode cX9_isAhead 80 = .ok (.aload_n 0, 1) := by decide +kernel
theorem dX9_isAhead_81 : decode cX9_isAhead 81 = .ok (.getfield 51, 3) := by decide +kernel
theorem dX9_isAhead_84 : decode cX9_isAhead 84 = .ok (.iload_n 2, 1) := by decide +kernel
theorem dX9_isAhead_85 : decode cX9_isAhead 85 = .ok (.iaload, 1) := by decide +kernel
theorem dX9_isAhead_86 : decode cX9_isAhead 86 = .ok (.if_icmp .ge 7, 3) := by decide +kernel
theorem dX9_isAhead_89 : decode cX9_isAhead 89 = .ok (.iconst 1, 1) := by decide +kernel
theorem dX9_isAhead_90 : decode cX9_isAhead 90 = .ok (.goto 4, 3) := by decide +kernel
theorem dX9_isAhead_93 : decode cX9_isAhead 93 = .ok (.iconst 0, 1) := by decide +kernel
theorem dX9_isAhead_94 : decode cX9_isAhead 94 = .ok (.ireturn, 1) := by decide +kernel
theorem dX9_isAlike_0 : decode cX9_isAlike 0 = .ok (.aload_n 0, 1) := by decide +kernel
theorem dX9_isAlike_1 : decode cX9_isAlike 1 = .ok (.getfield 45, 3) := by decide +kernel
theorem dX9_isAlike_4 : decode cX9_isAlike 4 = .ok (.iload_n 1, 1) := by decide +kernel
theorem dX9_isAlike_5 : decode cX9_isAlike 5 = .ok (.iaload, 1) := by decide +kernel
theorem dX9_isAlike_6 : decode cX9_isAlike 6 = .ok (.aload_n 0, 1) := by decide +kernel
theorem dX9_isAlike_7 : decode cX9_isAlike 7 = .ok (.getfield 45, 3) := by decide +kernel
theorem dX9_isAlike_10 : decode cX9_isAlike 10 = .ok (.iload_n 2, 1) := by decide +kernel
theorem dX9_isAlike_11 : decode cX9_isAlike 11 = .ok (.iaload, 1) := by decide +kernel
theorem dX9_isAlike_12 : decode cX9_isAlike 12 = .ok (.if_icmp .ne 37, 3) := by decide +kernel
theorem dX9_isAlike_15 : decode cX9_isAlike 15 = .ok (.aload_n 0, 1) := by decide +kernel
theorem dX9_isAlike_16 : decode cX9_isAlike 16 = .ok (.getfield 48, 3) := by decide +kernel
theorem dX9_isAlike_19 : decode cX9_isAlike 19 = .ok (.iload_n 1, 1) := by decide +kernel
theorem dX9_isAlike_20 : decode cX9_isAlike 20 = .ok (.iaload, 1) := by decide +kernel
theorem dX9_isAlike_21 : decode cX9_isAlike 21 = .ok (.aload_n 0, 1) := by decide +kernel
theorem dX9_isAlike_22 : decode cX9_isAlike 22 = .ok (.getfield 48, 3) := by decide +kernel
theorem dX9_isAlike_25 : decode cX9_isAlike 25 = .ok (.iload_n 2, 1) := by decide +kernel
theorem dX9_isAlike_26 : decode cX9_isAlike 26 = .ok (.iaload, 1) := by decide +kernel
theorem dX9_isAlike_27 : decode cX9_isAlike 27 = .ok (.if_icmp .ne 22, 3) := by decide +kernel
theorem dX9_isAlike_30 : decode cX9_isAlike 30 = .ok (.aload_n 0, 1) := by decide +kernel
theorem dX9_isAlike_31 : decode cX9_isAlike 31 = .ok (.getfield 51, 3) := by decide +kernel
theorem dX9_isAlike_34 : decode cX9_isAlike 34 = .ok (.iload_n 1, 1) := by decide +kernel
theorem dX9_isAlike_35 : decode cX9_isAlike 35 = .ok (.iaload, 1) := by decide +kernel
theorem dX9_isAlike_36 : decode cX9_isAlike 36 = .ok (.aload_n 0, 1) := by decide +kernel
theorem dX9_isAlike_37 : decode cX9_isAlike 37 = .ok (.getfield 51, 3) := by decide +kernel
theorem dX9_isAlike_40 : decode cX9_isAlike 40 = .ok (.iload_n 2, 1) := by decide +kernel
theorem dX9_isAlike_41 : decode cX9_isAlike 41 = .ok (.iaload, 1) := by decide +kernel
theorem dX9_isAlike_42 : decode cX9_isAlike 42 = .ok (.if_icmp .ne 7, 3) := by decide +kernel
theorem dX9_isAlike_45 : decode cX9_isAlike 45 = .ok (.iconst 1, 1) := by decide +kernel
theorem dX9_isAlike_46 : decode cX9_isAlike 46 = .ok (.goto 4, 3) := by decide +kernel
theorem dX9_isAlike_49 : decode cX9_isAlike 49 = .ok (.iconst 0, 1) := by decide +kernel
theorem dX9_isAlike_50 : decode cX9_isAlike 50 = .ok (.ireturn, 1) := by decide +kernel
theorem dX9_isDigit_0 : decode cX9_isDigit 0 = .ok (.iload_n 0, 1) := by decide +kernel
theorem dX9_isDigit_1 : decode cX9_isDigit 1 = .ok (.bipush 48, 2) := by decide +kernel
theorem dX9_isDigit_3 : decode cX9_isDigit 3 = .ok (.if_icmp .lt 13, 3) := by decide +kernel
theorem dX9_isDigit_6 : decode cX9_isDigit 6 = .ok (.iload_n 0, 1) := by decide +kernel
theorem dX9_isDigit_7 : decode cX9_isDigit 7 = .ok (.bipush 57, 2) := by decide +kernel
theorem dX9_isDigit_9 : decode cX9_isDigit 9 = .ok (.if_icmp .gt 7, 3) := by decide +kernel
theorem dX9_isDigit_12 : decode cX9_isDigit 12 = .ok (.iconst 1, 1) := by decide +kernel
theorem dX9_isDigit_13 : decode cX9_isDigit 13 = .ok (.goto 4, 3) := by decide +kernel
theorem dX9_isDigit_16 : decode cX9_isDigit 16 = .ok (.iconst 0, 1) := by decide +kernel
theorem dX9_isDigit_17 : decode cX9_isDigit 17 = .ok (.ireturn, 1) := by decide +kernel
theorem dX9_isLost_0 : decode cX9_isLost 0 = .ok (.aload_n 0, 1) := by decide +kernel
theorem dX9_isLost_1 : decode cX9_isLost 1 = .ok (.iload_n 2, 1) := by decide +kernel
theorem dX9_isLost_2 : decode cX9_isLost 2 = .ok (.iload_n 3, 1) := by decide +kernel
theorem dX9_isLost_3 : decode cX9_isLost 3 = .ok (.invokevirtual 216, 3) := by decide +kernel
theorem dX9_isLost_6 : decode cX9_isLost 6 = .ok (.aload_n 0, 1) := by decide +kernel
theorem dX9_isLost_7 : decode cX9_isLost 7 = .ok (.getfield 48, 3) := by decide +kernel
theorem dX9_isLost_10 : decode cX9_isLost 10 = .ok (.iload_n 1, 1) := by decide +kernel
theorem dX9_isLost_11 : decode cX9_isLost 11 = .ok (.iaload, 1) := by decide +kernel
theorem dX9_isLost_12 : decode cX9_isLost 12 = .ok (.aload_n 0, 1) := by decide +kernel
theorem dX9_isLost_13 : decode cX9_isLost 13 = .ok (.getfield 45, 3) := by decide +kernel
theorem dX9_isLost_16 : decode cX9_isLost 16 = .ok (.iload_n 1, 1) := by decide +kernel
theorem dX9_isLost_17 : decode cX9_isLost 17 = .ok (.iaload, 1) := by decide +kernel
theorem dX9_isLost_18 : decode cX9_isLost 18 = .ok (.isub, 1) := by decide +kernel
theorem dX9_isLost_19 : decode cX9_isLost 19 = .ok (.if_icmp .gt 5, 3) := by decide +kernel
theorem dX9_isLost_22 : decode cX9_isLost 22 = .ok (.iconst 1, 1) := by decide +kernel
theorem dX9_isLost_23 : decode cX9_isLost 23 = .ok (.ireturn, 1) := by decide +kernel
theorem dX9_isLost_24 : decode cX9_isLost 24 = .ok (.iconst 0, 1) := by decide +kernel
theorem dX9_isLost_25 : decode cX9_isLost 25 = .ok (.istore 4, 2) := by decide +kernel
theorem dX9_isLost_27 : decode cX9_isLost 27 = .ok (.iload 4, 2) := by decide +kernel
theorem dX9_isLost_29 : decode cX9_isLost 29 = .ok (.aload_n 0, 1) := by decide +kernel
theorem dX9_isLost_30 : decode cX9_isLost 30 = .ok (.getfield 267, 3) := by decide +kernel
theorem dX9_isLost_33 : decode cX9_isLost 33 = .ok (.if_icmp .ge 77, 3) := by decide +kernel
theorem dX9_isLost_36 : decode cX9_isLost 36 = .ok (.aload_n 0, 1) := by decide +kernel
theorem dX9_isLost_37 : decode cX9_isLost 37 = .ok (.iload_n 1, 1) := by decide +kernel
theorem dX9_isLost_38 : decode cX9_isLost 38 = .ok (.iload 4, 2) := by decide +kernel
theorem dX9_isLost_40 : decode cX9_isLost 40 = .ok (.invokevirtual 270, 3) := by decide +kernel
theorem dX9_isLost_43 : decode cX9_isLost 43 = .ok (.ifCond .eq 11, 3) := by decide +kernel
theorem dX9_isLost_46 : decode cX9_isLost 46 = .ok (.iload 4, 2) := by decide +kernel
theorem dX9_isLost_48 : decode cX9_isLost 48 = .ok (.iload_n 1, 1) := by decide +kernel
theorem dX9_isLost_49 : decode cX9_isLost 49 = .ok (.if_icmp .ge 55, 3) := by decide +kernel
theorem dX9_isLost_52 : decode cX9_isLost 52 = .ok (.iconst 1, 1) := by decide +kernel
theorem dX9_isLost_53 : decode cX9_isLost 53 = .ok (.ireturn, 1) := by decide +kernel
theorem dX9_isLost_54 : decode cX9_isLost 54 = .ok (.aload_n 0, 1) := by decide +kernel
theorem dX9_isLost_55 : decode cX9_isLost 55 = .ok (.getfield 45, 3) := by decide +kernel
theorem dX9_isLost_58 : decode cX9_isLost 58 = .ok (.iload 4, 2) := by decide +kernel
theorem dX9_isLost_60 : decode cX9_isLost 60 = .ok (.iaload, 1) := by decide +kernel
theorem dX9_isLost_61 : decode cX9_isLost 61 = .ok (.aload_n 0, 1) := by decide +kernel
theorem dX9_isLost_62 : decode cX9_isLost 62 = .ok (.getfield 45, 3) := by decide +kernel
theorem dX9_isLost_65 : decode cX9_isLost 65 = .ok (.iload_n 1, 1) := by decide +kernel
theorem dX9_isLost_66 : decode cX9_isLost 66 = .ok (.iaload, 1) := by decide +kernel
theorem dX9_isLost_67 : decode cX9_isLost 67 = .ok (.if_icmp .lt 37, 3) := by decide +kernel
theorem dX9_isLost_70 : decode cX9_isLost 70 = .ok (.aload_n 0, 1) := by decide +kernel
theorem dX9_isLost_71 : decode cX9_isLost 71 = .ok (.getfield 48, 3) := by decide +kernel
theorem dX9_isLost_74 : decode cX9_isLost 74 = .ok (.iload 4, 2) := by decide +kernel
theorem dX9_isLost_76 : decode cX9_isLost 76 = .ok (.iaload, 1) := by decide +kernel
theorem dX9_isLost_77 : decode cX9_isLost 77 = .ok (.aload_n 0, 1) := by decide +kernel
theorem dX9_isLost_78 : decode cX9_isLost 78 = .ok (.getfield 48, 3) := by decide +kernel
theorem dX9_isLost_81 : decode cX9_isLost 81 = .ok (.iload_n 1, 1) := by decide +kernel
theorem dX9_isLost_82 : decode cX9_isLost 82 = .ok (.iaload, 1) := by decide +kernel
theorem dX9_isLost_83 : decode cX9_isLost 83 = .ok (.if_icmp .gt 21, 3) := by decide +kernel
theorem dX9_isLost_86 : decode cX9_isLost 86 = .ok (.aload_n 0, 1) := by decide +kernel
theorem dX9_isLost_87 : decode cX9_isLost 87 = .ok (.getfield 51, 3) := by decide +kernel
theorem dX9_isLost_90 : decode cX9_isLost 90 = .ok (.iload 4, 2) := by decide +kernel
theorem dX9_isLost_92 : decode cX9_isLost 92 = .ok (.iaload, 1) := by decide +kernel
theorem dX9_isLost_93 : decode cX9_isLost 93 = .ok (.aload_n 0, 1) := by decide +kernel
theorem dX9_isLost_94 : decode cX9_isLost 94 = .ok (.getfield 51, 3) := by decide +kernel
theorem dX9_isLost_97 : decode cX9_isLost 97 = .ok (.iload_n 1, 1) := by decide +kernel
theorem dX9_isLost_98 : decode cX9_isLost 98 = .ok (.iaload, 1) := by decide +kernel
theorem dX9_isLost_99 : decode cX9_isLost 99 = .ok (.if_icmp .gt 5, 3) := by decide +kernel
theorem dX9_isLost_102 : decode cX9_isLost 102 = .ok (.iconst 1, 1) := by decide +kernel
theorem dX9_isLost_103 : decode cX9_isLost 103 = .ok (.ireturn, 1) := by decide +kernel
theorem dX9_isLost_104 : decode cX9_isLost 104 = .ok (.iinc 4 1, 3) := by decide +kernel
theorem dX9_isLost_107 : decode cX9_isLost 107 = .ok (.goto (-80), 3) := by decide +kernel
theorem dX9_isLost_110 : decode cX9_isLost 110 = .ok (.iconst 0, 1) := by decide +kernel
theorem dX9_isLost_111 : decode cX9_isLost 111 = .ok (.ireturn, 1) := by decide +kernel
theorem dX9_isMinute_0 : decode cX9_isMinute 0 = .ok (.iload_n 0, 1) := by decide +kernel
theorem dX9_isMinute_1 : decode cX9_isMinute 1 = .ok (.ifCond .lt 14, 3) := by decide +kernel
theorem dX9_isMinute_4 : decode cX9_isMinute 4 = .ok (.iload_n 0, 1) := by decide +kernel
theorem dX9_isMinute_5 : decode cX9_isMinute 5 = .ok (.sipush 1440, 3) := by decide +kernel
theorem dX9_isMinute_8 : decode cX9_isMinute 8 = .ok (.if_icmp .ge 7, 3) := by decide +kernel
theorem dX9_isMinute_11 : decode cX9_isMinute 11 = .ok (.iconst 1, 1) := by decide +kernel
theorem dX9_isMinute_12 : decode cX9_isMinute 12 = .ok (.goto 4, 3) := by decide +kernel
theorem dX9_isMinute_15 : decode cX9_isMinute 15 = .ok (.iconst 0, 1) := by decide +kernel
theorem dX9_isMinute_16 : decode cX9_isMinute 16 = .ok (.ireturn, 1) := by decide +kernel
theorem dX9_isOff_0 : decode cX9_isOff 0 = .ok (.aload_n 0, 1) := by decide +kernel
theorem dX9_isOff_1 : decode cX9_isOff 1 = .ok (.getfield 179, 3) := by decide +kernel
theorem dX9_isOff_4 : decode cX9_isOff 4 = .ok (.iload_n 1, 1) := by decide +kernel
theorem dX9_isOff_5 : decode cX9_isOff 5 = .ok (.lshr, 1) := by decide +kernel
theorem dX9_isOff_6 : decode cX9_isOff 6 = .ok (.lconst 1, 1) := by decide +kernel
theorem dX9_isOff_7 : decode cX9_isOff 7 = .ok (.land, 1) := by decide +kernel
theorem dX9_isOff_8 : decode cX9_isOff 8 = .ok (.lconst 1, 1) := by decide +kernel
theorem dX9_isOff_9 : decode cX9_isOff 9 = .ok (.lcmp, 1) := by decide +kernel
theorem dX9_isOff_10 : decode cX9_isOff 10 = .ok (.ifCond .ne 7, 3) := by decide +kernel
theorem dX9_isOff_13 : decode cX9_isOff 13 = .ok (.iconst 1, 1) := by decide +kernel
theorem dX9_isOff_14 : decode cX9_isOff 14 = .ok (.goto 4, 3) := by decide +kernel
theorem dX9_isOff_17 : decode cX9_isOff 17 = .ok (.iconst 0, 1) := by decide +kernel
theorem dX9_isOff_18 : decode cX9_isOff 18 = .ok (.ireturn, 1) := by decide +kernel
theorem dX9_isOther_0 : decode cX9_isOther 0 = .ok (.aload_n 0, 1) := by decide +kernel
theorem dX9_isOther_1 : decode cX9_isOther 1 = .ok (.getfield 104, 3) := by decide +kernel
theorem dX9_isOther_4 : decode cX9_isOther 4 = .ok (.ifCond .ne 15, 3) := by decide +kernel
theorem dX9_isOther_7 : decode cX9_isOther 7 = .ok (.aload_n 0, 1) := by decide +kernel
theorem dX9_isOther_8 : decode cX9_isOther 8 = .ok (.getfield 117, 3) := by decide +kernel
theorem dX9_isOther_11 : decode cX9_isOther 11 = .ok (.iconst (-1), 1) := by decide +kernel
theorem dX9_isOther_12 : decode cX9_isOther 12 = .ok (.if_icmp .ne 7, 3) := by decide +kernel
theorem dX9_isOther_15 : decode cX9_isOther 15 = .ok (.iconst 1, 1) := by decide +kernel
theorem dX9_isOther_16 : decode cX9_isOther 16 = .ok (.goto 4, 3) := by decide +kernel
theorem dX9_isOther_19 : decode cX9_isOther 19 = .ok (.iconst 0, 1) := by decide +kernel
theorem dX9_isOther_20 : decode cX9_isOther 20 = .ok (.ireturn, 1) := by decide +kernel
theorem dX9_isRide_0 : decode cX9_isRide 0 = .ok (.iload_n 1, 1) := by decide +kernel
theorem dX9_isRide_1 : decode cX9_isRide 1 = .ok (.ifCond .lt 15, 3) := by decide +kernel
theorem dX9_isRide_4 : decode cX9_isRide 4 = .ok (.iload_n 1, 1) := by decide +kernel
theorem dX9_isRide_5 : decode cX9_isRide 5 = .ok (.aload_n 0, 1) := by decide +kernel
theorem dX9_isRide_6 : decode cX9_isRide 6 = .ok (.invokevirtual 198, 3) := by decide +kernel
theorem dX9_isRide_9 : decode cX9_isRide 9 = .ok (.if_icmp .ge 7, 3) := by decide +kernel
theorem dX9_isRide_12 : decode cX9_isRide 12 = .ok (.iconst 1, 1) := by decide +kernel
theorem dX9_isRide_13 : decode cX9_isRide 13 = .ok (.goto 4, 3) := by decide +kernel
theorem dX9_isRide_16 : decode cX9_isRide 16 = .ok (.iconst 0, 1) := by decide +kernel
theorem dX9_isRide_17 : decode cX9_isRide 17 = .ok (.ireturn, 1) := by decide +kernel
theorem dX9_isSmall_0 : decode cX9_isSmall 0 = .ok (.iload_n 0, 1) := by decide +kernel
theorem dX9_isSmall_1 : decode cX9_isSmall 1 = .ok (.bipush 97, 2) := by decide +kernel
theorem dX9_isSmall_3 : decode cX9_isSmall 3 = .ok (.if_icmp .lt 13, 3) := by decide +kernel
theorem dX9_isSmall_6 : decode cX9_isSmall 6 = .ok (.iload_n 0, 1) := by decide +kernel
theorem dX9_isSmall_7 : decode cX9_isSmall 7 = .ok (.bipush 122, 2) := by decide +kernel
theorem dX9_isSmall_9 : decode cX9_isSmall 9 = .ok (.if_icmp .gt 7, 3) := by decide +kernel
theorem dX9_isSmall_12 : decode cX9_isSmall 12 = .ok (.iconst 1, 1) := by decide +kernel
theorem dX9_isSmall_13 : decode cX9_isSmall 13 = .ok (.goto 4, 3) := by decide +kernel
theorem dX9_isSmall_16 : decode cX9_isSmall 16 = .ok (.iconst 0, 1) := by decide +kernel
theorem dX9_isSmall_17 : decode cX9_isSmall 17 = .ok (.ireturn, 1) := by decide +kernel
theorem dX9_isStop_0 : decode cX9_isStop 0 = .ok (.iload_n 1, 1) := by decide +kernel
theorem dX9_isStop_1 : decode cX9_isStop 1 = .ok (.ifCond .lt 15, 3) := by decide +kernel
theorem dX9_isStop_4 : decode cX9_isStop 4 = .ok (.iload_n 1, 1) := by decide +kernel
theorem dX9_isStop_5 : decode cX9_isStop 5 = .ok (.aload_n 0, 1) := by decide +kernel
theorem dX9_isStop_6 : decode cX9_isStop 6 = .ok (.invokevirtual 195, 3) := by decide +kernel
theorem dX9_isStop_9 : decode cX9_isStop 9 = .ok (.if_icmp .ge 7, 3) := by decide +kernel
theorem dX9_isStop_12 : decode cX9_isStop 12 = .ok (.iconst 1, 1) := by decide +kernel
theorem dX9_isStop_13 : decode cX9_isStop 13 = .ok (.goto 4, 3) := by decide +kernel
theorem dX9_isStop_16 : decode cX9_isStop 16 = .ok (.iconst 0, 1) := by decide +kernel
theorem dX9_isStop_17 : decode cX9_isStop 17 = .ok (.ireturn, 1) := by decide +kernel
theorem dX9_isTrip_0 : decode cX9_isTrip 0 = .ok (.iload_n 1, 1) := by decide +kernel
theorem dX9_isTrip_1 : decode cX9_isTrip 1 = .ok (.ifCond .lt 17, 3) := by decide +kernel
theorem dX9_isTrip_4 : decode cX9_isTrip 4 = .ok (.iload_n 1, 1) := by decide +kernel
theorem dX9_isTrip_5 : decode cX9_isTrip 5 = .ok (.aload_n 0, 1) := by decide +kernel
theorem dX9_isTrip_6 : decode cX9_isTrip 6 = .ok (.getfield 13, 3) := by decide +kernel
theorem dX9_isTrip_9 : decode cX9_isTrip 9 = .ok (.iconst 2, 1) := by decide +kernel
theorem dX9_isTrip_10 : decode cX9_isTrip 10 = .ok (.iaload, 1) := by decide +kernel
theorem dX9_isTrip_11 : decode cX9_isTrip 11 = .ok (.if_icmp .ge 7, 3) := by decide +kernel
theorem dX9_isTrip_14 : decode cX9_isTrip 14 = .ok (.iconst 1, 1) := by decide +kernel
theorem dX9_isTrip_15 : decode cX9_isTrip 15 = .ok (.goto 4, 3) := by decide +kernel
theorem dX9_isTrip_18 : decode cX9_isTrip 18 = .ok (.iconst 0, 1) := by decide +kernel
theorem dX9_isTrip_19 : decode cX9_isTrip 19 = .ok (.ireturn, 1) := by decide +kernel
theorem dX9_keeps_0 : decode cX9_keeps 0 = .ok (.aload_n 0, 1) := by decide +kernel
theorem dX9_keeps_1 : decode cX9_keeps 1 = .ok (.getfield 183, 3) := by decide +kernel
theorem dX9_keeps_4 : decode cX9_keeps 4 = .ok (.bipush 20, 2) := by decide +kernel
theorem dX9_keeps_6 : decode cX9_keeps 6 = .ok (.if_icmp .ne 72, 3) := by decide +kernel
theorem dX9_keeps_9 : decode cX9_keeps 9 = .ok (.bipush 60, 2) := by decide +kernel
theorem dX9_keeps_11 : decode cX9_keeps 11 = .ok (.istore_n 1, 1) := by decide +kernel
theorem dX9_keeps_12 : decode cX9_keeps 12 = .ok (.iload_n 1, 1) := by decide +kernel
theorem dX9_keeps_13 : decode cX9_keeps 13 = .ok (.sipush 1200, 3) := by decide +kernel
theorem dX9_keeps_16 : decode cX9_keeps 16 = .ok (.if_icmp .ge 24, 3) := by decide +kernel
theorem dX9_keeps_19 : decode cX9_keeps 19 = .ok (.aload_n 0, 1) := by decide +kernel
theorem dX9_keeps_20 : decode cX9_keeps 20 = .ok (.getfield 29, 3) := by decide +kernel
theorem dX9_keeps_23 : decode cX9_keeps 23 = .ok (.iload_n 1, 1) := by decide +kernel
theorem dX9_keeps_24 : decode cX9_keeps 24 = .ok (.bipush 60, 2) := by decide +kernel
theorem dX9_keeps_26 : decode cX9_keeps 26 = .ok (.isub, 1) := by decide +kernel
theorem dX9_keeps_27 : decode cX9_keeps 27 = .ok (.aload_n 0, 1) := by decide +kernel
theorem dX9_keeps_28 : decode cX9_keeps 28 = .ok (.getfield 29, 3) := by decide +kernel
theorem dX9_keeps_31 : decode cX9_keeps 31 = .ok (.iload_n 1, 1) := by decide +kernel
theorem dX9_keeps_32 : decode cX9_keeps 32 = .ok (.iaload, 1) := by decide +kernel
theorem dX9_keeps_33 : decode cX9_keeps 33 = .ok (.iastore, 1) := by decide +kernel
theorem dX9_keeps_34 : decode cX9_keeps 34 = .ok (.iinc 1 1, 3) := by decide +kernel
theorem dX9_keeps_37 : decode cX9_keeps 37 = .ok (.goto (-25), 3) := by decide +kernel
theorem dX9_keeps_40 : decode cX9_keeps 40 = .ok (.iconst 1, 1) := by decide +kernel
theorem dX9_keeps_41 : decode cX9_keeps 41 = .ok (.istore_n 1, 1) := by decide +kernel
theorem dX9_keeps_42 : decode cX9_keeps 42 = .ok (.iload_n 1, 1) := by decide +kernel
theorem dX9_keeps_43 : decode cX9_keeps 43 = .ok (.bipush 20, 2) := by decide +kernel
theorem dX9_keeps_45 : decode cX9_keeps 45 = .ok (.if_icmp .ge 23, 3) := by decide +kernel
theorem dX9_keeps_48 : decode cX9_keeps 48 = .ok (.aload_n 0, 1) := by decide +kernel
theorem dX9_keeps_49 : decode cX9_keeps 49 = .ok (.getfield 32, 3) := by decide +kernel
theorem dX9_keeps_52 : decode cX9_keeps 52 = .ok (.iload_n 1, 1) := by decide +kernel
theorem dX9_keeps_53 : decode cX9_keeps 53 = .ok (.iconst 1, 1) := by decide +kernel
theorem dX9_keeps_54 : decode cX9_keeps 54 = .ok (.isub, 1) := by decide +kernel
theorem dX9_keeps_55 : decode cX9_keeps 55 = .ok (.aload_n 0, 1) := by decide +kernel
theorem dX9_keeps_56 : decode cX9_keeps 56 = .ok (.getfield 32, 3) := by decide +kernel
theorem dX9_keeps_59 : decode cX9_keeps 59 = .ok (.iload_n 1, 1) := by decide +kernel
theorem dX9_keeps_60 : decode cX9_keeps 60 = .ok (.laload, 1) := by decide +kernel
theorem dX9_keeps_61 : decode cX9_keeps 61 = .ok (.lastore, 1) := by decide +kernel
theorem dX9_keeps_62 : decode cX9_keeps 62 = .ok (.iinc 1 1, 3) := by decide +kernel
theorem dX9_keeps_65 : decode cX9_keeps 65 = .ok (.goto (-23), 3) := by decide +kernel
theorem dX9_keeps_68 : decode cX9_keeps 68 = .ok (.aload_n 0, 1) := by decide +kernel
theorem dX9_keeps_69 : decode cX9_keeps 69 = .ok (.dup, 1) := by decide +kernel
theorem dX9_keeps_70 : decode cX9_keeps 70 = .ok (.getfield 183, 3) := by decide +kernel
theorem dX9_keeps_73 : decode cX9_keeps 73 = .ok (.iconst 1, 1) := by decide +kernel
theorem dX9_keeps_74 : decode cX9_keeps 74 = .ok (.isub, 1) := by decide +kernel
theorem dX9_keeps_75 : decode cX9_keeps 75 = .ok (.putfield 183, 3) := by decide +kernel
theorem dX9_keeps_78 : decode cX9_keeps 78 = .ok (.iconst 0, 1) := by decide +kernel
theorem dX9_keeps_79 : decode cX9_keeps 79 = .ok (.istore_n 1, 1) := by decide +kernel
theorem dX9_keeps_80 : decode cX9_keeps 80 = .ok (.iload_n 1, 1) := by decide +kernel
theorem dX9_keeps_81 : decode cX9_keeps 81 = .ok (.bipush 60, 2) := by decide +kernel
theorem dX9_keeps_83 : decode cX9_keeps 83 = .ok (.if_icmp .ge 29, 3) := by decide +kernel
theorem dX9_keeps_86 : decode cX9_keeps 86 = .ok (.aload_n 0, 1) := by decide +kernel
theorem dX9_keeps_87 : decode cX9_keeps 87 = .ok (.getfield 29, 3) := by decide +kernel
theorem dX9_keeps_90 : decode cX9_keeps 90 = .ok (.bipush 60, 2) := by decide +kernel
theorem dX9_keeps_92 : decode cX9_keeps 92 = .ok (.aload_n 0, 1) := by decide +kernel
theorem dX9_keeps_93 : decode cX9_keeps 93 = .ok (.getfield 183, 3) := by decide +kernel
theorem dX9_keeps_96 : decode cX9_keeps 96 = .ok (.imul, 1) := by decide +kernel
theorem dX9_keeps_97 : decode cX9_keeps 97 = .ok (.iload_n 1, 1) := by decide +kernel
theorem dX9_keeps_98 : decode cX9_keeps 98 = .ok (.iadd, 1) := by decide +kernel
theorem dX9_keeps_99 : decode cX9_keeps 99 = .ok (.aload_n 0, 1) := by decide +kernel
theorem dX9_keeps_100 : decode cX9_keeps 100 = .ok (.getfield 26, 3) := by decide +kernel
theorem dX9_keeps_103 : decode cX9_keeps 103 = .ok (.iload_n 1, 1) := by decide +kernel
theorem dX9_keeps_104 : decode cX9_keeps 104 = .ok (.iaload, 1) := by decide +kernel
theorem dX9_keeps_105 : decode cX9_keeps 105 = .ok (.iastore, 1) := by decide +kernel
theorem dX9_keeps_106 : decode cX9_keeps 106 = .ok (.iinc 1 1, 3) := by decide +kernel
theorem dX9_keeps_109 : decode cX9_keeps 109 = .ok (.goto (-29), 3) := by decide +kernel
theorem dX9_keeps_112 : decode cX9_keeps 112 = .ok (.aload_n 0, 1) := by decide +kernel
theorem dX9_keeps_113 : decode cX9_keeps 113 = .ok (.getfield 32, 3) := by decide +kernel
theorem dX9_keeps_116 : decode cX9_keeps 116 = .ok (.aload_n 0, 1) := by decide +kernel
theorem dX9_keeps_117 : decode cX9_keeps 117 = .ok (.getfield 183, 3) := by decide +kernel
theorem dX9_keeps_120 : decode cX9_keeps 120 = .ok (.aload_n 0, 1) := by decide +kernel
theorem dX9_keeps_121 : decode cX9_keeps 121 = .ok (.getfield 179, 3) := by decide +kernel
theorem dX9_keeps_124 : decode cX9_keeps 124 = .ok (.lastore, 1) := by decide +kernel
theorem dX9_keeps_125 : decode cX9_keeps 125 = .ok (.aload_n 0, 1) := by decide +kernel
theorem dX9_keeps_126 : decode cX9_keeps 126 = .ok (.dup, 1) := by decide +kernel
theorem dX9_keeps_127 : decode cX9_keeps 127 = .ok (.getfield 183, 3) := by decide +kernel
theorem dX9_keeps_130 : decode cX9_keeps 130 = .ok (.iconst 1, 1) := by decide +kernel
theorem dX9_keeps_131 : decode cX9_keeps 131 = .ok (.iadd, 1) := by decide +kernel
theorem dX9_keeps_132 : decode cX9_keeps 132 = .ok (.putfield 183, 3) := by decide +kernel
theorem dX9_keeps_135 : decode cX9_keeps 135 = .ok (.return_, 1) := by decide +kernel
theorem dX9_keptBy_0 : decode cX9_keptBy 0 = .ok (.iload_n 2, 1) := by decide +kernel
theorem dX9_keptBy_1 : decode cX9_keptBy 1 = .ok (.istore_n 3, 1) := by decide +kernel
theorem dX9_keptBy_2 : decode cX9_keptBy 2 = .ok (.iconst 0, 1) := by decide +kernel
theorem dX9_keptBy_3 : decode cX9_keptBy 3 = .ok (.istore 4, 2) := by decide +kernel
theorem dX9_keptBy_5 : decode cX9_keptBy 5 = .ok (.iload 4, 2) := by decide +kernel
theorem dX9_keptBy_7 : decode cX9_keptBy 7 = .ok (.aload_n 0, 1) := by decide +kernel
theorem dX9_keptBy_8 : decode cX9_keptBy 8 = .ok (.getfield 278, 3) := by decide +kernel
theorem dX9_keptBy_11 : decode cX9_keptBy 11 = .ok (.if_icmp .ge 43, 3) := by decide +kernel
theorem dX9_keptBy_14 : decode cX9_keptBy 14 = .ok (.aload_n 0, 1) := by decide +kernel
theorem dX9_keptBy_15 : decode cX9_keptBy 15 = .ok (.getfield 51, 3) := by decide +kernel
theorem dX9_keptBy_18 : decode cX9_keptBy 18 = .ok (.aload_n 0, 1) := by decide +kernel
theorem dX9_keptBy_19 : decode cX9_keptBy 19 = .ok (.getfield 54, 3) := by decide +kernel
theorem dX9_keptBy_22 : decode cX9_keptBy 22 = .ok (.iload 4, 2) := by decide +kernel
theorem dX9_keptBy_24 : decode cX9_keptBy 24 = .ok (.iaload, 1) := by decide +kernel
theorem dX9_keptBy_25 : decode cX9_keptBy 25 = .ok (.iaload, 1) := by decide +kernel
theorem dX9_keptBy_26 : decode cX9_keptBy 26 = .ok (.iload_n 1, 1) := by decide +kernel
theorem dX9_keptBy_27 : decode cX9_keptBy 27 = .ok (.if_icmp .le 6, 3) := by decide +kernel
theorem dX9_keptBy_30 : decode cX9_keptBy 30 = .ok (.goto 18, 3) := by decide +kernel
theorem dX9_keptBy_33 : decode cX9_keptBy 33 = .ok (.iload_n 3, 1) := by decide +kernel
theorem dX9_keptBy_34 : decode cX9_keptBy 34 = .ok (.ifCond .ne 11, 3) := by decide +kernel
theorem dX9_keptBy_37 : decode cX9_keptBy 37 = .ok (.aload_n 0, 1) := by decide +kernel
theorem dX9_keptBy_38 : decode cX9_keptBy 38 = .ok (.getfield 54, 3) := by decide +kernel
theorem dX9_keptBy_41 : decode cX9_keptBy 41 = .ok (.iload 4, 2) := by decide +kernel
theorem dX9_keptBy_43 : decode cX9_keptBy 43 = .ok (.iaload, 1) := by decide +kernel
theorem dX9_keptBy_44 : decode cX9_keptBy 44 = .ok (.ireturn, 1) := by decide +kernel
theorem dX9_keptBy_45 : decode cX9_keptBy 45 = .ok (.iinc 3 (-1), 3) := by decide +kernel
theorem dX9_keptBy_48 : decode cX9_keptBy 48 = .ok (.iinc 4 1, 3) := by decide +kernel
theorem dX9_keptBy_51 : decode cX9_keptBy 51 = .ok (.goto (-46), 3) := by decide +kernel
theorem dX9_keptBy_54 : decode cX9_keptBy 54 = .ok (.iconst (-1), 1) := by decide +kernel
