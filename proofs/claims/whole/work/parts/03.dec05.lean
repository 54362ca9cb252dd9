theorem dX9_keptBy_55 : decode cX9_keptBy 55 = .ok (.ireturn, 1) := by decide +kernel
theorem dX9_late_0 : decode cX9_late 0 = .ok (.aload_n 0, 1) := by decide +kernel
theorem dX9_late_1 : decode cX9_late 1 = .ok (.iconst 0, 1) := by decide +kernel
theorem dX9_late_2 : decode cX9_late 2 = .ok (.putfield 85, 3) := by decide +kernel
theorem dX9_late_5 : decode cX9_late 5 = .ok (.aload_n 0, 1) := by decide +kernel
theorem dX9_late_6 : decode cX9_late 6 = .ok (.iload_n 1, 1) := by decide +kernel
theorem dX9_late_7 : decode cX9_late 7 = .ok (.invokevirtual 222, 3) := by decide +kernel
theorem dX9_late_10 : decode cX9_late 10 = .ok (.ifCond .eq 20, 3) := by decide +kernel
theorem dX9_late_13 : decode cX9_late 13 = .ok (.aload_n 0, 1) := by decide +kernel
theorem dX9_late_14 : decode cX9_late 14 = .ok (.iload_n 2, 1) := by decide +kernel
theorem dX9_late_15 : decode cX9_late 15 = .ok (.iload_n 3, 1) := by decide +kernel
theorem dX9_late_16 : decode cX9_late 16 = .ok (.invokevirtual 287, 3) := by decide +kernel
theorem dX9_late_19 : decode cX9_late 19 = .ok (.ifCond .eq 11, 3) := by decide +kernel
theorem dX9_late_22 : decode cX9_late 22 = .ok (.iload 4, 2) := by decide +kernel
theorem dX9_late_24 : decode cX9_late 24 = .ok (.invokestatic 320, 3) := by decide +kernel
theorem dX9_late_27 : decode cX9_late 27 = .ok (.ifCond .ne 5, 3) := by decide +kernel
theorem dX9_late_30 : decode cX9_late 30 = .ok (.iconst (-1), 1) := by decide +kernel
theorem dX9_late_31 : decode cX9_late 31 = .ok (.ireturn, 1) := by decide +kernel
theorem dX9_late_32 : decode cX9_late 32 = .ok (.aload_n 0, 1) := by decide +kernel
theorem dX9_late_33 : decode cX9_late 33 = .ok (.invokevirtual 290, 3) := by decide +kernel
theorem dX9_late_36 : decode cX9_late 36 = .ok (.aload_n 0, 1) := by decide +kernel
theorem dX9_late_37 : decode cX9_late 37 = .ok (.iload_n 2, 1) := by decide +kernel
theorem dX9_late_38 : decode cX9_late 38 = .ok (.iload_n 3, 1) := by decide +kernel
theorem dX9_late_39 : decode cX9_late 39 = .ok (.iload 4, 2) := by decide +kernel
theorem dX9_late_41 : decode cX9_late 41 = .ok (.iconst 4, 1) := by decide +kernel
theorem dX9_late_42 : decode cX9_late 42 = .ok (.invokevirtual 316, 3) := by decide +kernel
theorem dX9_late_45 : decode cX9_late 45 = .ok (.istore 5, 2) := by decide +kernel
theorem dX9_late_47 : decode cX9_late 47 = .ok (.iload 5, 2) := by decide +kernel
theorem dX9_late_49 : decode cX9_late 49 = .ok (.ldc 175, 2) := by decide +kernel
theorem dX9_late_51 : decode cX9_late 51 = .ok (.if_icmp .lt 6, 3) := by decide +kernel
theorem dX9_late_54 : decode cX9_late 54 = .ok (.bipush (-3), 2) := by decide +kernel
theorem dX9_late_56 : decode cX9_late 56 = .ok (.ireturn, 1) := by decide +kernel
theorem dX9_late_57 : decode cX9_late 57 = .ok (.iconst 1, 1) := by decide +kernel
theorem dX9_late_58 : decode cX9_late 58 = .ok (.istore 6, 2) := by decide +kernel
theorem dX9_late_60 : decode cX9_late 60 = .ok (.iload 6, 2) := by decide +kernel
theorem dX9_late_62 : decode cX9_late 62 = .ok (.sipush 240, 3) := by decide +kernel
theorem dX9_late_65 : decode cX9_late 65 = .ok (.if_icmp .gt 34, 3) := by decide +kernel
theorem dX9_late_68 : decode cX9_late 68 = .ok (.aload_n 0, 1) := by decide +kernel
theorem dX9_late_69 : decode cX9_late 69 = .ok (.iload_n 1, 1) := by decide +kernel
theorem dX9_late_70 : decode cX9_late 70 = .ok (.iload 6, 2) := by decide +kernel
theorem dX9_late_72 : decode cX9_late 72 = .ok (.iconst 0, 1) := by decide +kernel
theorem dX9_late_73 : decode cX9_late 73 = .ok (.invokevirtual 249, 3) := by decide +kernel
theorem dX9_late_76 : decode cX9_late 76 = .ok (.aload_n 0, 1) := by decide +kernel
theorem dX9_late_77 : decode cX9_late 77 = .ok (.iload_n 2, 1) := by decide +kernel
theorem dX9_late_78 : decode cX9_late 78 = .ok (.iload_n 3, 1) := by decide +kernel
theorem dX9_late_79 : decode cX9_late 79 = .ok (.iload 4, 2) := by decide +kernel
theorem dX9_late_81 : decode cX9_late 81 = .ok (.iconst 4, 1) := by decide +kernel
theorem dX9_late_82 : decode cX9_late 82 = .ok (.invokevirtual 316, 3) := by decide +kernel
theorem dX9_late_85 : decode cX9_late 85 = .ok (.iload 5, 2) := by decide +kernel
theorem dX9_late_87 : decode cX9_late 87 = .ok (.if_icmp .le 6, 3) := by decide +kernel
theorem dX9_late_90 : decode cX9_late 90 = .ok (.iload 6, 2) := by decide +kernel
theorem dX9_late_92 : decode cX9_late 92 = .ok (.ireturn, 1) := by decide +kernel
theorem dX9_late_93 : decode cX9_late 93 = .ok (.iinc 6 1, 3) := by decide +kernel
theorem dX9_late_96 : decode cX9_late 96 = .ok (.goto (-36), 3) := by decide +kernel
theorem dX9_late_99 : decode cX9_late 99 = .ok (.bipush (-2), 2) := by decide +kernel
theorem dX9_late_101 : decode cX9_late 101 = .ok (.ireturn, 1) := by decide +kernel
theorem dX9_latest_0 : decode cX9_latest 0 = .ok (.aload_n 0, 1) := by decide +kernel
theorem dX9_latest_1 : decode cX9_latest 1 = .ok (.iconst 0, 1) := by decide +kernel
theorem dX9_latest_2 : decode cX9_latest 2 = .ok (.putfield 85, 3) := by decide +kernel
theorem dX9_latest_5 : decode cX9_latest 5 = .ok (.aload_n 0, 1) := by decide +kernel
theorem dX9_latest_6 : decode cX9_latest 6 = .ok (.iload_n 1, 1) := by decide +kernel
theorem dX9_latest_7 : decode cX9_latest 7 = .ok (.invokevirtual 213, 3) := by decide +kernel
theorem dX9_latest_10 : decode cX9_latest 10 = .ok (.ifCond .eq 22, 3) := by decide +kernel
theorem dX9_latest_13 : decode cX9_latest 13 = .ok (.aload_n 0, 1) := by decide +kernel
theorem dX9_latest_14 : decode cX9_latest 14 = .ok (.iload_n 2, 1) := by decide +kernel
theorem dX9_latest_15 : decode cX9_latest 15 = .ok (.invokevirtual 213, 3) := by decide +kernel
theorem dX9_latest_18 : decode cX9_latest 18 = .ok (.ifCond .eq 14, 3) := by decide +kernel
theorem dX9_latest_21 : decode cX9_latest 21 = .ok (.iload_n 3, 1) := by decide +kernel
theorem dX9_latest_22 : decode cX9_latest 22 = .ok (.ifCond .lt 10, 3) := by decide +kernel
theorem dX9_latest_25 : decode cX9_latest 25 = .ok (.iload_n 3, 1) := by decide +kernel
theorem dX9_latest_26 : decode cX9_latest 26 = .ok (.sipush 2000, 3) := by decide +kernel
theorem dX9_latest_29 : decode cX9_latest 29 = .ok (.if_icmp .le 5, 3) := by decide +kernel
theorem dX9_latest_32 : decode cX9_latest 32 = .ok (.iconst (-1), 1) := by decide +kernel
theorem dX9_latest_33 : decode cX9_latest 33 = .ok (.ireturn, 1) := by decide +kernel
theorem dX9_latest_34 : decode cX9_latest 34 = .ok (.iload_n 1, 1) := by decide +kernel
theorem dX9_latest_35 : decode cX9_latest 35 = .ok (.iload_n 2, 1) := by decide +kernel
theorem dX9_latest_36 : decode cX9_latest 36 = .ok (.if_icmp .ne 5, 3) := by decide +kernel
theorem dX9_latest_39 : decode cX9_latest 39 = .ok (.iload_n 3, 1) := by decide +kernel
theorem dX9_latest_40 : decode cX9_latest 40 = .ok (.ireturn, 1) := by decide +kernel
theorem dX9_latest_41 : decode cX9_latest 41 = .ok (.aload_n 0, 1) := by decide +kernel
theorem dX9_latest_42 : decode cX9_latest 42 = .ok (.invokevirtual 290, 3) := by decide +kernel
theorem dX9_latest_45 : decode cX9_latest 45 = .ok (.aload_n 0, 1) := by decide +kernel
theorem dX9_latest_46 : decode cX9_latest 46 = .ok (.iload_n 1, 1) := by decide +kernel
theorem dX9_latest_47 : decode cX9_latest 47 = .ok (.iload_n 2, 1) := by decide +kernel
theorem dX9_latest_48 : decode cX9_latest 48 = .ok (.iload_n 3, 1) := by decide +kernel
theorem dX9_latest_49 : decode cX9_latest 49 = .ok (.invokevirtual 329, 3) := by decide +kernel
theorem dX9_latest_52 : decode cX9_latest 52 = .ok (.ireturn, 1) := by decide +kernel
theorem dX9_latestOf_0 : decode cX9_latestOf 0 = .ok (.aload_n 0, 1) := by decide +kernel
theorem dX9_latestOf_1 : decode cX9_latestOf 1 = .ok (.iload_n 1, 1) := by decide +kernel
theorem dX9_latestOf_2 : decode cX9_latestOf 2 = .ok (.iload_n 2, 1) := by decide +kernel
theorem dX9_latestOf_3 : decode cX9_latestOf 3 = .ok (.invokevirtual 274, 3) := by decide +kernel
theorem dX9_latestOf_6 : decode cX9_latestOf 6 = .ok (.aload_n 0, 1) := by decide +kernel
theorem dX9_latestOf_7 : decode cX9_latestOf 7 = .ok (.iload_n 1, 1) := by decide +kernel
theorem dX9_latestOf_8 : decode cX9_latestOf 8 = .ok (.iload_n 2, 1) := by decide +kernel
theorem dX9_latestOf_9 : decode cX9_latestOf 9 = .ok (.invokevirtual 216, 3) := by decide +kernel
theorem dX9_latestOf_12 : decode cX9_latestOf 12 = .ok (.iload_n 3, 1) := by decide +kernel
theorem dX9_latestOf_13 : decode cX9_latestOf 13 = .ok (.if_icmp .gt 14, 3) := by decide +kernel
theorem dX9_latestOf_16 : decode cX9_latestOf 16 = .ok (.iload_n 3, 1) := by decide +kernel
theorem dX9_latestOf_17 : decode cX9_latestOf 17 = .ok (.aload_n 0, 1) := by decide +kernel
theorem dX9_latestOf_18 : decode cX9_latestOf 18 = .ok (.iload_n 1, 1) := by decide +kernel
theorem dX9_latestOf_19 : decode cX9_latestOf 19 = .ok (.iload_n 2, 1) := by decide +kernel
theorem dX9_latestOf_20 : decode cX9_latestOf 20 = .ok (.invokevirtual 216, 3) := by decide +kernel
theorem dX9_latestOf_23 : decode cX9_latestOf 23 = .ok (.isub, 1) := by decide +kernel
theorem dX9_latestOf_24 : decode cX9_latestOf 24 = .ok (.goto 5, 3) := by decide +kernel
theorem dX9_latestOf_27 : decode cX9_latestOf 27 = .ok (.bipush (-2), 2) := by decide +kernel
theorem dX9_latestOf_29 : decode cX9_latestOf 29 = .ok (.istore 4, 2) := by decide +kernel
theorem dX9_latestOf_31 : decode cX9_latestOf 31 = .ok (.iconst 0, 1) := by decide +kernel
theorem dX9_latestOf_32 : decode cX9_latestOf 32 = .ok (.istore 5, 2) := by decide +kernel
theorem dX9_latestOf_34 : decode cX9_latestOf 34 = .ok (.iload 5, 2) := by decide +kernel
theorem dX9_latestOf_36 : decode cX9_latestOf 36 = .ok (.aload_n 0, 1) := by decide +kernel
theorem dX9_latestOf_37 : decode cX9_latestOf 37 = .ok (.getfield 267, 3) := by decide +kernel
theorem dX9_latestOf_40 : decode cX9_latestOf 40 = .ok (.if_icmp .ge 41, 3) := by decide +kernel
theorem dX9_latestOf_43 : decode cX9_latestOf 43 = .ok (.aload_n 0, 1) := by decide +kernel
theorem dX9_latestOf_44 : decode cX9_latestOf 44 = .ok (.getfield 48, 3) := by decide +kernel
theorem dX9_latestOf_47 : decode cX9_latestOf 47 = .ok (.iload 5, 2) := by decide +kernel
theorem dX9_latestOf_49 : decode cX9_latestOf 49 = .ok (.iaload, 1) := by decide +kernel
theorem dX9_latestOf_50 : decode cX9_latestOf 50 = .ok (.iload_n 3, 1) := by decide +kernel
theorem dX9_latestOf_51 : decode cX9_latestOf 51 = .ok (.if_icmp .gt 24, 3) := by decide +kernel
theorem dX9_latestOf_54 : decode cX9_latestOf 54 = .ok (.aload_n 0, 1) := by decide +kernel
theorem dX9_latestOf_55 : decode cX9_latestOf 55 = .ok (.getfield 45, 3) := by decide +kernel
theorem dX9_latestOf_58 : decode cX9_latestOf 58 = .ok (.iload 5, 2) := by decide +kernel
theorem dX9_latestOf_60 : decode cX9_latestOf 60 = .ok (.iaload, 1) := by decide +kernel
theorem dX9_latestOf_61 : decode cX9_latestOf 61 = .ok (.iload 4, 2) := by decide +kernel
theorem dX9_latestOf_63 : decode cX9_latestOf 63 = .ok (.if_icmp .le 12, 3) := by decide +kernel
theorem dX9_latestOf_66 : decode cX9_latestOf 66 = .ok (.aload_n 0, 1) := by decide +kernel
theorem dX9_latestOf_67 : decode cX9_latestOf 67 = .ok (.getfield 45, 3) := by decide +kernel
theorem dX9_latestOf_70 : decode cX9_latestOf 70 = .ok (.iload 5, 2) := by decide +kernel
theorem dX9_latestOf_72 : decode cX9_latestOf 72 = .ok (.iaload, 1) := by decide +kernel
theorem dX9_latestOf_73 : decode cX9_latestOf 73 = .ok (.istore 4, 2) := by decide +kernel
theorem dX9_latestOf_75 : decode cX9_latestOf 75 = .ok (.iinc 5 1, 3) := by decide +kernel
theorem dX9_latestOf_78 : decode cX9_latestOf 78 = .ok (.goto (-44), 3) := by decide +kernel
theorem dX9_latestOf_81 : decode cX9_latestOf 81 = .ok (.iload 4, 2) := by decide +kernel
theorem dX9_latestOf_83 : decode cX9_latestOf 83 = .ok (.ireturn, 1) := by decide +kernel
theorem dX9_laysCandidates_0 : decode cX9_laysCandidates 0 = .ok (.aload_n 0, 1) := by decide +kernel
theorem dX9_laysCandidates_1 : decode cX9_laysCandidates 1 = .ok (.iconst 0, 1) := by decide +kernel
theorem dX9_laysCandidates_2 : decode cX9_laysCandidates 2 = .ok (.putfield 267, 3) := by decide +kernel
theorem dX9_laysCandidates_5 : decode cX9_laysCandidates 5 = .ok (.iconst 0, 1) := by decide +kernel
theorem dX9_laysCandidates_6 : decode cX9_laysCandidates 6 = .ok (.istore_n 3, 1) := by decide +kernel
theorem dX9_laysCandidates_7 : decode cX9_laysCandidates 7 = .ok (.iload_n 3, 1) := by decide +kernel
theorem dX9_laysCandidates_8 : decode cX9_laysCandidates 8 = .ok (.aload_n 0, 1) := by decide +kernel
theorem dX9_laysCandidates_9 : decode cX9_laysCandidates 9 = .ok (.invokevirtual 198, 3) := by decide +kernel
theorem dX9_laysCandidates_12 : decode cX9_laysCandidates 12 = .ok (.if_icmp .ge 116, 3) := by decide +kernel
theorem dX9_laysCandidates_15 : decode cX9_laysCandidates 15 = .ok (.aload_n 0, 1) := by decide +kernel
theorem dX9_laysCandidates_16 : decode cX9_laysCandidates 16 = .ok (.iload_n 1, 1) := by decide +kernel
theorem dX9_laysCandidates_17 : decode cX9_laysCandidates 17 = .ok (.iload_n 3, 1) := by decide +kernel
theorem dX9_laysCandidates_18 : decode cX9_laysCandidates 18 = .ok (.invokevirtual 257, 3) := by decide +kernel
theorem dX9_laysCandidates_21 : decode cX9_laysCandidates 21 = .ok (.istore 4, 2) := by decide +kernel
theorem dX9_laysCandidates_23 : decode cX9_laysCandidates 23 = .ok (.iload 4, 2) := by decide +kernel
theorem dX9_laysCandidates_25 : decode cX9_laysCandidates 25 = .ok (.ifCond .ge 6, 3) := by decide +kernel
theorem dX9_laysCandidates_28 : decode cX9_laysCandidates 28 = .ok (.goto 94, 3) := by decide +kernel
theorem dX9_laysCandidates_31 : decode cX9_laysCandidates 31 = .ok (.aload_n 0, 1) := by decide +kernel
theorem dX9_laysCandidates_32 : decode cX9_laysCandidates 32 = .ok (.lconst 1, 1) := by decide +kernel
theorem dX9_laysCandidates_33 : decode cX9_laysCandidates 33 = .ok (.iload_n 3, 1) := by decide +kernel
theorem dX9_laysCandidates_34 : decode cX9_laysCandidates 34 = .ok (.lshl, 1) := by decide +kernel
theorem dX9_laysCandidates_35 : decode cX9_laysCandidates 35 = .ok (.invokevirtual 253, 3) := by decide +kernel
theorem dX9_laysCandidates_38 : decode cX9_laysCandidates 38 = .ok (.lstore 5, 2) := by decide +kernel
theorem dX9_laysCandidates_40 : decode cX9_laysCandidates 40 = .ok (.iconst 0, 1) := by decide +kernel
theorem dX9_laysCandidates_41 : decode cX9_laysCandidates 41 = .ok (.istore 7, 2) := by decide +kernel
theorem dX9_laysCandidates_43 : decode cX9_laysCandidates 43 = .ok (.iload 7, 2) := by decide +kernel
theorem dX9_laysCandidates_45 : decode cX9_laysCandidates 45 = .ok (.iconst 4, 1) := by decide +kernel
theorem dX9_laysCandidates_46 : decode cX9_laysCandidates 46 = .ok (.if_icmp .gt 76, 3) := by decide +kernel
theorem dX9_laysCandidates_49 : decode cX9_laysCandidates 49 = .ok (.aload_n 0, 1) := by decide +kernel
theorem dX9_laysCandidates_50 : decode cX9_laysCandidates 50 = .ok (.lload 5, 2) := by decide +kernel
theorem dX9_laysCandidates_52 : decode cX9_laysCandidates 52 = .ok (.iload_n 2, 1) := by decide +kernel
theorem dX9_laysCandidates_53 : decode cX9_laysCandidates 53 = .ok (.invokevirtual 260, 3) := by decide +kernel
theorem dX9_laysCandidates_56 : decode cX9_laysCandidates 56 = .ok (.istore 8, 2) := by decide +kernel
theorem dX9_laysCandidates_58 : decode cX9_laysCandidates 58 = .ok (.iload 8, 2) := by decide +kernel
theorem dX9_laysCandidates_60 : decode cX9_laysCandidates 60 = .ok (.ldc 175, 2) := by decide +kernel
theorem dX9_laysCandidates_62 : decode cX9_laysCandidates 62 = .ok (.if_icmp .ge 46, 3) := by decide +kernel
theorem dX9_laysCandidates_65 : decode cX9_laysCandidates 65 = .ok (.aload_n 0, 1) := by decide +kernel
theorem dX9_laysCandidates_66 : decode cX9_laysCandidates 66 = .ok (.getfield 45, 3) := by decide +kernel
theorem dX9_laysCandidates_69 : decode cX9_laysCandidates 69 = .ok (.aload_n 0, 1) := by decide +kernel
theorem dX9_laysCandidates_70 : decode cX9_laysCandidates 70 = .ok (.getfield 267, 3) := by decide +kernel
theorem dX9_laysCandidates_73 : decode cX9_laysCandidates 73 = .ok (.iload 4, 2) := by decide +kernel
theorem dX9_laysCandidates_75 : decode cX9_laysCandidates 75 = .ok (.iastore, 1) := by decide +kernel
theorem dX9_laysCandidates_76 : decode cX9_laysCandidates 76 = .ok (.aload_n 0, 1) := by decide +kernel
theorem dX9_laysCandidates_77 : decode cX9_laysCandidates 77 = .ok (.getfield 48, 3) := by decide +kernel
theorem dX9_laysCandidates_80 : decode cX9_laysCandidates 80 = .ok (.aload_n 0, 1) := by decide +kernel
theorem dX9_laysCandidates_81 : decode cX9_laysCandidates 81 = .ok (.getfield 267, 3) := by decide +kernel
theorem dX9_laysCandidates_84 : decode cX9_laysCandidates 84 = .ok (.iload 8, 2) := by decide +kernel
theorem dX9_laysCandidates_86 : decode cX9_laysCandidates 86 = .ok (.iastore, 1) := by decide +kernel
theorem dX9_laysCandidates_87 : decode cX9_laysCandidates 87 = .ok (.aload_n 0, 1) := by decide +kernel
theorem dX9_laysCandidates_88 : decode cX9_laysCandidates 88 = .ok (.getfield 51, 3) := by decide +kernel
theorem dX9_laysCandidates_91 : decode cX9_laysCandidates 91 = .ok (.aload_n 0, 1) := by decide +kernel
theorem dX9_laysCandidates_92 : decode cX9_laysCandidates 92 = .ok (.getfield 267, 3) := by decide +kernel
theorem dX9_laysCandidates_95 : decode cX9_laysCandidates 95 = .ok (.iload 7, 2) := by decide +kernel
theorem dX9_laysCandidates_97 : decode cX9_laysCandidates 97 = .ok (.iastore, 1) := by decide +kernel
theorem dX9_laysCandidates_98 : decode cX9_laysCandidates 98 = .ok (.aload_n 0, 1) := by decide +kernel
theorem dX9_laysCandidates_99 : decode cX9_laysCandidates 99 = .ok (.dup, 1) := by decide +kernel
theorem dX9_laysCandidates_100 : decode cX9_laysCandidates 100 = .ok (.getfield 267, 3) := by decide +kernel
theorem dX9_laysCandidates_103 : decode cX9_laysCandidates 103 = .ok (.iconst 1, 1) := by decide +kernel
theorem dX9_laysCandidates_104 : decode cX9_laysCandidates 104 = .ok (.iadd, 1) := by decide +kernel
theorem dX9_laysCandidates_105 : decode cX9_laysCandidates 105 = .ok (.putfield 267, 3) := by decide +kernel
theorem dX9_laysCandidates_108 : decode cX9_laysCandidates 108 = .ok (.aload_n 0, 1) := by decide +kernel
theorem dX9_laysCandidates_109 : decode cX9_laysCandidates 109 = .ok (.lload 5, 2) := by decide +kernel
theorem dX9_laysCandidates_111 : decode cX9_laysCandidates 111 = .ok (.invokevirtual 264, 3) := by decide +kernel
theorem dX9_laysCandidates_114 : decode cX9_laysCandidates 114 = .ok (.lstore 5, 2) := by decide +kernel
theorem dX9_laysCandidates_116 : decode cX9_laysCandidates 116 = .ok (.iinc 7 1, 3) := by decide +kernel
theorem dX9_laysCandidates_119 : decode cX9_laysCandidates 119 = .ok (.goto (-76), 3) := by decide +kernel
theorem dX9_laysCandidates_122 : decode cX9_laysCandidates 122 = .ok (.iinc 3 1, 3) := by decide +kernel
theorem dX9_laysCandidates_125 : decode cX9_laysCandidates 125 = .ok (.goto (-118), 3) := by decide +kernel
theorem dX9_laysCandidates_128 : decode cX9_laysCandidates 128 = .ok (.return_, 1) := by decide +kernel
theorem dX9_laysMeets_0 : decode cX9_laysMeets 0 = .ok (.iconst 0, 1) := by decide +kernel
theorem dX9_laysMeets_1 : decode cX9_laysMeets 1 = .ok (.istore_n 3, 1) := by decide +kernel
theorem dX9_laysMeets_2 : decode cX9_laysMeets 2 = .ok (.iload_n 3, 1) := by decide +kernel
theorem dX9_laysMeets_3 : decode cX9_laysMeets 3 = .ok (.iconst 4, 1) := by decide +kernel
theorem dX9_laysMeets_4 : decode cX9_laysMeets 4 = .ok (.if_icmp .gt 241, 3) := by decide +kernel
theorem dX9_laysMeets_7 : decode cX9_laysMeets 7 = .ok (.aload_n 0, 1) := by decide +kernel
theorem dX9_laysMeets_8 : decode cX9_laysMeets 8 = .ok (.invokevirtual 198, 3) := by decide +kernel
theorem dX9_laysMeets_11 : decode cX9_laysMeets 11 = .ok (.iconst 1, 1) := by decide +kernel
theorem dX9_laysMeets_12 : decode cX9_laysMeets 12 = .ok (.isub, 1) := by decide +kernel
theorem dX9_laysMeets_13 : decode cX9_laysMeets 13 = .ok (.istore 4, 2) := by decide +kernel
theorem dX9_laysMeets_15 : decode cX9_laysMeets 15 = .ok (.iload 4, 2) := by decide +kernel
theorem dX9_laysMeets_17 : decode cX9_laysMeets 17 = .ok (.ifCond .lt 222, 3) := by decide +kernel
theorem dX9_laysMeets_20 : decode cX9_laysMeets 20 = .ok (.iconst 0, 1) := by decide +kernel
theorem dX9_laysMeets_21 : decode cX9_laysMeets 21 = .ok (.istore 5, 2) := by decide +kernel
theorem dX9_laysMeets_23 : decode cX9_laysMeets 23 = .ok (.iload_n 3, 1) := by decide +kernel
theorem dX9_laysMeets_24 : decode cX9_laysMeets 24 = .ok (.ifCond .ne 54, 3) := by decide +kernel
theorem dX9_laysMeets_27 : decode cX9_laysMeets 27 = .ok (.aload_n 0, 1) := by decide +kernel
theorem dX9_laysMeets_28 : decode cX9_laysMeets 28 = .ok (.aload_n 0, 1) := by decide +kernel
theorem dX9_laysMeets_29 : decode cX9_laysMeets 29 = .ok (.iload 4, 2) := by decide +kernel
theorem dX9_laysMeets_31 : decode cX9_laysMeets 31 = .ok (.iconst 2, 1) := by decide +kernel
theorem dX9_laysMeets_32 : decode cX9_laysMeets 32 = .ok (.invokevirtual 201, 3) := by decide +kernel
theorem dX9_laysMeets_35 : decode cX9_laysMeets 35 = .ok (.iload_n 1, 1) := by decide +kernel
theorem dX9_laysMeets_36 : decode cX9_laysMeets 36 = .ok (.invokevirtual 216, 3) := by decide +kernel
theorem dX9_laysMeets_39 : decode cX9_laysMeets 39 = .ok (.ldc 175, 2) := by decide +kernel
theorem dX9_laysMeets_41 : decode cX9_laysMeets 41 = .ok (.if_icmp .ge 31, 3) := by decide +kernel
theorem dX9_laysMeets_44 : decode cX9_laysMeets 44 = .ok (.aload_n 0, 1) := by decide +kernel
theorem dX9_laysMeets_45 : decode cX9_laysMeets 45 = .ok (.getfield 39, 3) := by decide +kernel
theorem dX9_laysMeets_48 : decode cX9_laysMeets 48 = .ok (.iload 4, 2) := by decide +kernel
theorem dX9_laysMeets_50 : decode cX9_laysMeets 50 = .ok (.iaload, 1) := by decide +kernel
theorem dX9_laysMeets_51 : decode cX9_laysMeets 51 = .ok (.aload_n 0, 1) := by decide +kernel
theorem dX9_laysMeets_52 : decode cX9_laysMeets 52 = .ok (.aload_n 0, 1) := by decide +kernel
theorem dX9_laysMeets_53 : decode cX9_laysMeets 53 = .ok (.iload 4, 2) := by decide +kernel
theorem dX9_laysMeets_55 : decode cX9_laysMeets 55 = .ok (.iconst 2, 1) := by decide +kernel
theorem dX9_laysMeets_56 : decode cX9_laysMeets 56 = .ok (.invokevirtual 201, 3) := by decide +kernel
theorem dX9_laysMeets_59 : decode cX9_laysMeets 59 = .ok (.iload_n 1, 1) := by decide +kernel
theorem dX9_laysMeets_60 : decode cX9_laysMeets 60 = .ok (.invokevirtual 216, 3) := by decide +kernel
theorem dX9_laysMeets_63 : decode cX9_laysMeets 63 = .ok (.iadd, 1) := by decide +kernel
theorem dX9_laysMeets_64 : decode cX9_laysMeets 64 = .ok (.iload_n 2, 1) := by decide +kernel
theorem dX9_laysMeets_65 : decode cX9_laysMeets 65 = .ok (.if_icmp .ne 7, 3) := by decide +kernel
theorem dX9_laysMeets_68 : decode cX9_laysMeets 68 = .ok (.iconst 1, 1) := by decide +kernel
theorem dX9_laysMeets_69 : decode cX9_laysMeets 69 = .ok (.goto 4, 3) := by decide +kernel
theorem dX9_laysMeets_72 : decode cX9_laysMeets 72 = .ok (.iconst 0, 1) := by decide +kernel
theorem dX9_laysMeets_73 : decode cX9_laysMeets 73 = .ok (.istore 5, 2) := by decide +kernel
theorem dX9_laysMeets_75 : decode cX9_laysMeets 75 = .ok (.goto 67, 3) := by decide +kernel
theorem dX9_laysMeets_78 : decode cX9_laysMeets 78 = .ok (.iconst 0, 1) := by decide +kernel
theorem dX9_laysMeets_79 : decode cX9_laysMeets 79 = .ok (.istore 6, 2) := by decide +kernel
theorem dX9_laysMeets_81 : decode cX9_laysMeets 81 = .ok (.iload 6, 2) := by decide +kernel
theorem dX9_laysMeets_83 : decode cX9_laysMeets 83 = .ok (.aload_n 0, 1) := by decide +kernel
theorem dX9_laysMeets_84 : decode cX9_laysMeets 84 = .ok (.invokevirtual 198, 3) := by decide +kernel
theorem dX9_laysMeets_87 : decode cX9_laysMeets 87 = .ok (.if_icmp .ge 55, 3) := by decide +kernel
theorem dX9_laysMeets_90 : decode cX9_laysMeets 90 = .ok (.iload 5, 2) := by decide +kernel
theorem dX9_laysMeets_92 : decode cX9_laysMeets 92 = .ok (.ifCond .ne 37, 3) := by decide +kernel
theorem dX9_laysMeets_95 : decode cX9_laysMeets 95 = .ok (.aload_n 0, 1) := by decide +kernel
theorem dX9_laysMeets_96 : decode cX9_laysMeets 96 = .ok (.getfield 42, 3) := by decide +kernel
theorem dX9_laysMeets_99 : decode cX9_laysMeets 99 = .ok (.iload 4, 2) := by decide +kernel
theorem dX9_laysMeets_101 : decode cX9_laysMeets 101 = .ok (.laload, 1) := by decide +kernel
theorem dX9_laysMeets_102 : decode cX9_laysMeets 102 = .ok (.iload 6, 2) := by decide +kernel
theorem dX9_laysMeets_104 : decode cX9_laysMeets 104 = .ok (.lshr, 1) := by decide +kernel
theorem dX9_laysMeets_105 : decode cX9_laysMeets 105 = .ok (.lconst 1, 1) := by decide +kernel
theorem dX9_laysMeets_106 : decode cX9_laysMeets 106 = .ok (.land, 1) := by decide +kernel
theorem dX9_laysMeets_107 : decode cX9_laysMeets 107 = .ok (.lconst 1, 1) := by decide +kernel
theorem dX9_laysMeets_108 : decode cX9_laysMeets 108 = .ok (.lcmp, 1) := by decide +kernel
theorem dX9_laysMeets_109 : decode cX9_laysMeets 109 = .ok (.ifCond .ne 24, 3) := by decide +kernel
theorem dX9_laysMeets_112 : decode cX9_laysMeets 112 = .ok (.aload_n 0, 1) := by decide +kernel
theorem dX9_laysMeets_113 : decode cX9_laysMeets 113 = .ok (.getfield 57, 3) := by decide +kernel
theorem dX9_laysMeets_116 : decode cX9_laysMeets 116 = .ok (.bipush 60, 2) := by decide +kernel
theorem dX9_laysMeets_118 : decode cX9_laysMeets 118 = .ok (.iload_n 3, 1) := by decide +kernel
theorem dX9_laysMeets_119 : decode cX9_laysMeets 119 = .ok (.iconst 1, 1) := by decide +kernel
theorem dX9_laysMeets_120 : decode cX9_laysMeets 120 = .ok (.isub, 1) := by decide +kernel
theorem dX9_laysMeets_121 : decode cX9_laysMeets 121 = .ok (.imul, 1) := by decide +kernel
theorem dX9_laysMeets_122 : decode cX9_laysMeets 122 = .ok (.iload 6, 2) := by decide +kernel
theorem dX9_laysMeets_124 : decode cX9_laysMeets 124 = .ok (.iadd, 1) := by decide +kernel
theorem dX9_laysMeets_125 : decode cX9_laysMeets 125 = .ok (.baload, 1) := by decide +kernel
theorem dX9_laysMeets_126 : decode cX9_laysMeets 126 = .ok (.ifCond .eq 7, 3) := by decide +kernel
theorem dX9_laysMeets_129 : decode cX9_laysMeets 129 = .ok (.iconst 1, 1) := by decide +kernel
theorem dX9_laysMeets_130 : decode cX9_laysMeets 130 = .ok (.goto 4, 3) := by decide +kernel
theorem dX9_laysMeets_133 : decode cX9_laysMeets 133 = .ok (.iconst 0, 1) := by decide +kernel
theorem dX9_laysMeets_134 : decode cX9_laysMeets 134 = .ok (.istore 5, 2) := by decide +kernel
theorem dX9_laysMeets_136 : decode cX9_laysMeets 136 = .ok (.iinc 6 1, 3) := by decide +kernel
theorem dX9_laysMeets_139 : decode cX9_laysMeets 139 = .ok (.goto (-58), 3) := by decide +kernel
theorem dX9_laysMeets_142 : decode cX9_laysMeets 142 = .ok (.aload_n 0, 1) := by decide +kernel
theorem dX9_laysMeets_143 : decode cX9_laysMeets 143 = .ok (.getfield 61, 3) := by decide +kernel
theorem dX9_laysMeets_146 : decode cX9_laysMeets 146 = .ok (.bipush 60, 2) := by decide +kernel
theorem dX9_laysMeets_148 : decode cX9_laysMeets 148 = .ok (.iload_n 3, 1) := by decide +kernel
theorem dX9_laysMeets_149 : decode cX9_laysMeets 149 = .ok (.imul, 1) := by decide +kernel
theorem dX9_laysMeets_150 : decode cX9_laysMeets 150 = .ok (.iload 4, 2) := by decide +kernel
theorem dX9_laysMeets_152 : decode cX9_laysMeets 152 = .ok (.iadd, 1) := by decide +kernel
theorem dX9_laysMeets_153 : decode cX9_laysMeets 153 = .ok (.iload 5, 2) := by decide +kernel
theorem dX9_laysMeets_155 : decode cX9_laysMeets 155 = .ok (.bastore, 1) := by decide +kernel
theorem dX9_laysMeets_156 : decode cX9_laysMeets 156 = .ok (.aload_n 0, 1) := by decide +kernel
theorem dX9_laysMeets_157 : decode cX9_laysMeets 157 = .ok (.iload 4, 2) := by decide +kernel
theorem dX9_laysMeets_159 : decode cX9_laysMeets 159 = .ok (.invokevirtual 210, 3) := by decide +kernel
theorem dX9_laysMeets_162 : decode cX9_laysMeets 162 = .ok (.iconst (-1), 1) := by decide +kernel
theorem dX9_laysMeets_163 : decode cX9_laysMeets 163 = .ok (.if_icmp .eq 40, 3) := by decide +kernel
theorem dX9_laysMeets_166 : decode cX9_laysMeets 166 = .ok (.aload_n 0, 1) := by decide +kernel
theorem dX9_laysMeets_167 : decode cX9_laysMeets 167 = .ok (.getfield 243, 3) := by decide +kernel
theorem dX9_laysMeets_170 : decode cX9_laysMeets 170 = .ok (.iload 4, 2) := by decide +kernel
theorem dX9_laysMeets_172 : decode cX9_laysMeets 172 = .ok (.iconst 1, 1) := by decide +kernel
theorem dX9_laysMeets_173 : decode cX9_laysMeets 173 = .ok (.iadd, 1) := by decide +kernel
theorem dX9_laysMeets_174 : decode cX9_laysMeets 174 = .ok (.lshr, 1) := by decide +kernel
theorem dX9_laysMeets_175 : decode cX9_laysMeets 175 = .ok (.lconst 1, 1) := by decide +kernel
theorem dX9_laysMeets_176 : decode cX9_laysMeets 176 = .ok (.land, 1) := by decide +kernel
theorem dX9_laysMeets_177 : decode cX9_laysMeets 177 = .ok (.lconst 0, 1) := by decide +kernel
theorem dX9_laysMeets_178 : decode cX9_laysMeets 178 = .ok (.lcmp, 1) := by decide +kernel
theorem dX9_laysMeets_179 : decode cX9_laysMeets 179 = .ok (.ifCond .ne 24, 3) := by decide +kernel
theorem dX9_laysMeets_182 : decode cX9_laysMeets 182 = .ok (.aload_n 0, 1) := by decide +kernel
theorem dX9_laysMeets_183 : decode cX9_laysMeets 183 = .ok (.getfield 57, 3) := by decide +kernel
theorem dX9_laysMeets_186 : decode cX9_laysMeets 186 = .ok (.bipush 60, 2) := by decide +kernel
theorem dX9_laysMeets_188 : decode cX9_laysMeets 188 = .ok (.iload_n 3, 1) := by decide +kernel
theorem dX9_laysMeets_189 : decode cX9_laysMeets 189 = .ok (.imul, 1) := by decide +kernel
theorem dX9_laysMeets_190 : decode cX9_laysMeets 190 = .ok (.iload 4, 2) := by decide +kernel
theorem dX9_laysMeets_192 : decode cX9_laysMeets 192 = .ok (.iadd, 1) := by decide +kernel
theorem dX9_laysMeets_193 : decode cX9_laysMeets 193 = .ok (.iconst 1, 1) := by decide +kernel
theorem dX9_laysMeets_194 : decode cX9_laysMeets 194 = .ok (.iadd, 1) := by decide +kernel
theorem dX9_laysMeets_195 : decode cX9_laysMeets 195 = .ok (.baload, 1) := by decide +kernel
theorem dX9_laysMeets_196 : decode cX9_laysMeets 196 = .ok (.ifCond .eq 7, 3) := by decide +kernel
theorem dX9_laysMeets_199 : decode cX9_laysMeets 199 = .ok (.iconst 1, 1) := by decide +kernel
theorem dX9_laysMeets_200 : decode cX9_laysMeets 200 = .ok (.goto 4, 3) := by decide +kernel
theorem dX9_laysMeets_203 : decode cX9_laysMeets 203 = .ok (.iconst 0, 1) := by decide +kernel
theorem dX9_laysMeets_204 : decode cX9_laysMeets 204 = .ok (.istore 6, 2) := by decide +kernel
theorem dX9_laysMeets_206 : decode cX9_laysMeets 206 = .ok (.aload_n 0, 1) := by decide +kernel
theorem dX9_laysMeets_207 : decode cX9_laysMeets 207 = .ok (.getfield 57, 3) := by decide +kernel
theorem dX9_laysMeets_210 : decode cX9_laysMeets 210 = .ok (.bipush 60, 2) := by decide +kernel
theorem dX9_laysMeets_212 : decode cX9_laysMeets 212 = .ok (.iload_n 3, 1) := by decide +kernel
theorem dX9_laysMeets_213 : decode cX9_laysMeets 213 = .ok (.imul, 1) := by decide +kernel
theorem dX9_laysMeets_214 : decode cX9_laysMeets 214 = .ok (.iload 4, 2) := by decide +kernel
theorem dX9_laysMeets_216 : decode cX9_laysMeets 216 = .ok (.iadd, 1) := by decide +kernel
theorem dX9_laysMeets_217 : decode cX9_laysMeets 217 = .ok (.iload 5, 2) := by decide +kernel
theorem dX9_laysMeets_219 : decode cX9_laysMeets 219 = .ok (.ifCond .ne 8, 3) := by decide +kernel
theorem dX9_laysMeets_222 : decode cX9_laysMeets 222 = .ok (.iload 6, 2) := by decide +kernel
theorem dX9_laysMeets_224 : decode cX9_laysMeets 224 = .ok (.ifCond .eq 7, 3) := by decide +kernel
theorem dX9_laysMeets_227 : decode cX9_laysMeets 227 = .ok (.iconst 1, 1) := by decide +kernel
theorem dX9_laysMeets_228 : decode cX9_laysMeets 228 = .ok (.goto 4, 3) := by decide +kernel
theorem dX9_laysMeets_231 : decode cX9_laysMeets 231 = .ok (.iconst 0, 1) := by decide +kernel
theorem dX9_laysMeets_232 : decode cX9_laysMeets 232 = .ok (.bastore, 1) := by decide +kernel
theorem dX9_laysMeets_233 : decode cX9_laysMeets 233 = .ok (.iinc 4 (-1), 3) := by decide +kernel
theorem dX9_laysMeets_236 : decode cX9_laysMeets 236 = .ok (.goto (-221), 3) := by decide +kernel
theorem dX9_laysMeets_239 : decode cX9_laysMeets 239 = .ok (.iinc 3 1, 3) := by decide +kernel
theorem dX9_laysMeets_242 : decode cX9_laysMeets 242 = .ok (.goto (-240), 3) := by decide +kernel
theorem dX9_laysMeets_245 : decode cX9_laysMeets 245 = .ok (.return_, 1) := by decide +kernel
theorem dX9_laysProfile_0 : decode cX9_laysProfile 0 = .ok (.aload_n 0, 1) := by decide +kernel
theorem dX9_laysProfile_1 : decode cX9_laysProfile 1 = .ok (.iload_n 1, 1) := by decide +kernel
theorem dX9_laysProfile_2 : decode cX9_laysProfile 2 = .ok (.iload_n 2, 1) := by decide +kernel
theorem dX9_laysProfile_3 : decode cX9_laysProfile 3 = .ok (.invokevirtual 274, 3) := by decide +kernel
theorem dX9_laysProfile_6 : decode cX9_laysProfile 6 = .ok (.aload_n 0, 1) := by decide +kernel
theorem dX9_laysProfile_7 : decode cX9_laysProfile 7 = .ok (.iconst 0, 1) := by decide +kernel
theorem dX9_laysProfile_8 : decode cX9_laysProfile 8 = .ok (.putfield 278, 3) := by decide +kernel
theorem dX9_laysProfile_11 : decode cX9_laysProfile 11 = .ok (.iconst 0, 1) := by decide +kernel
theorem dX9_laysProfile_12 : decode cX9_laysProfile 12 = .ok (.istore_n 3, 1) := by decide +kernel
theorem dX9_laysProfile_13 : decode cX9_laysProfile 13 = .ok (.iload_n 3, 1) := by decide +kernel
theorem dX9_laysProfile_14 : decode cX9_laysProfile 14 = .ok (.aload_n 0, 1) := by decide +kernel
theorem dX9_laysProfile_15 : decode cX9_laysProfile 15 = .ok (.getfield 267, 3) := by decide +kernel
theorem dX9_laysProfile_18 : decode cX9_laysProfile 18 = .ok (.if_icmp .ge 90, 3) := by decide +kernel
theorem dX9_laysProfile_21 : decode cX9_laysProfile 21 = .ok (.aload_n 0, 1) := by decide +kernel
theorem dX9_laysProfile_22 : decode cX9_laysProfile 22 = .ok (.iload_n 3, 1) := by decide +kernel
theorem dX9_laysProfile_23 : decode cX9_laysProfile 23 = .ok (.iload_n 1, 1) := by decide +kernel
theorem dX9_laysProfile_24 : decode cX9_laysProfile 24 = .ok (.iload_n 2, 1) := by decide +kernel
theorem dX9_laysProfile_25 : decode cX9_laysProfile 25 = .ok (.invokevirtual 281, 3) := by decide +kernel
theorem dX9_laysProfile_28 : decode cX9_laysProfile 28 = .ok (.ifCond .eq 6, 3) := by decide +kernel
theorem dX9_laysProfile_31 : decode cX9_laysProfile 31 = .ok (.goto 71, 3) := by decide +kernel
theorem dX9_laysProfile_34 : decode cX9_laysProfile 34 = .ok (.aload_n 0, 1) := by decide +kernel
theorem dX9_laysProfile_35 : decode cX9_laysProfile 35 = .ok (.getfield 278, 3) := by decide +kernel
theorem dX9_laysProfile_38 : decode cX9_laysProfile 38 = .ok (.istore 4, 2) := by decide +kernel
theorem dX9_laysProfile_40 : decode cX9_laysProfile 40 = .ok (.iload 4, 2) := by decide +kernel
theorem dX9_laysProfile_42 : decode cX9_laysProfile 42 = .ok (.ifCond .le 42, 3) := by decide +kernel
theorem dX9_laysProfile_45 : decode cX9_laysProfile 45 = .ok (.aload_n 0, 1) := by decide +kernel
theorem dX9_laysProfile_46 : decode cX9_laysProfile 46 = .ok (.iload_n 3, 1) := by decide +kernel
theorem dX9_laysProfile_47 : decode cX9_laysProfile 47 = .ok (.aload_n 0, 1) := by decide +kernel
theorem dX9_laysProfile_48 : decode cX9_laysProfile 48 = .ok (.getfield 54, 3) := by decide +kernel
theorem dX9_laysProfile_51 : decode cX9_laysProfile 51 = .ok (.iload 4, 2) := by decide +kernel
theorem dX9_laysProfile_53 : decode cX9_laysProfile 53 = .ok (.iconst 1, 1) := by decide +kernel
theorem dX9_laysProfile_54 : decode cX9_laysProfile 54 = .ok (.isub, 1) := by decide +kernel
theorem dX9_laysProfile_55 : decode cX9_laysProfile 55 = .ok (.iaload, 1) := by decide +kernel
theorem dX9_laysProfile_56 : decode cX9_laysProfile 56 = .ok (.invokevirtual 284, 3) := by decide +kernel
theorem dX9_laysProfile_59 : decode cX9_laysProfile 59 = .ok (.ifCond .eq 25, 3) := by decide +kernel
theorem dX9_laysProfile_62 : decode cX9_laysProfile 62 = .ok (.aload_n 0, 1) := by decide +kernel
theorem dX9_laysProfile_63 : decode cX9_laysProfile 63 = .ok (.getfield 54, 3) := by decide +kernel
theorem dX9_laysProfile_66 : decode cX9_laysProfile 66 = .ok (.iload 4, 2) := by decide +kernel
theorem dX9_laysProfile_68 : decode cX9_laysProfile 68 = .ok (.aload_n 0, 1) := by decide +kernel
theorem dX9_laysProfile_69 : decode cX9_laysProfile 69 = .ok (.getfield 54, 3) := by decide +kernel
theorem dX9_laysProfile_72 : decode cX9_laysProfile 72 = .ok (.iload 4, 2) := by decide +kernel
theorem dX9_laysProfile_74 : decode cX9_laysProfile 74 = .ok (.iconst 1, 1) := by decide +kernel
theorem dX9_laysProfile_75 : decode cX9_laysProfile 75 = .ok (.isub, 1) := by decide +kernel
theorem dX9_laysProfile_76 : decode cX9_laysProfile 76 = .ok (.iaload, 1) := by decide +kernel
theorem dX9_laysProfile_77 : decode cX9_laysProfile 77 = .ok (.iastore, 1) := by decide +kernel
theorem dX9_laysProfile_78 : decode cX9_laysProfile 78 = .ok (.iinc 4 (-1), 3) := by decide +kernel
theorem dX9_laysProfile_81 : decode cX9_laysProfile 81 = .ok (.goto (-41), 3) := by decide +kernel
theorem dX9_laysProfile_84 : decode cX9_laysProfile 84 = .ok (.aload_n 0, 1) := by decide +kernel
theorem dX9_laysProfile_85 : decode cX9_laysProfile 85 = .ok (.getfield 54, 3) := by decide +kernel
theorem dX9_laysProfile_88 : decode cX9_laysProfile 88 = .ok (.iload 4, 2) := by decide +kernel
theorem dX9_laysProfile_90 : decode cX9_laysProfile 90 = .ok (.iload_n 3, 1) := by decide +kernel
theorem dX9_laysProfile_91 : decode cX9_laysProfile 91 = .ok (.iastore, 1) := by decide +kernel
theorem dX9_laysProfile_92 : decode cX9_laysProfile 92 = .ok (.aload_n 0, 1) := by decide +kernel
theorem dX9_laysProfile_93 : decode cX9_laysProfile 93 = .ok (.dup, 1) := by decide +kernel
theorem dX9_laysProfile_94 : decode cX9_laysProfile 94 = .ok (.getfield 278, 3) := by decide +kernel
theorem dX9_laysProfile_97 : decode cX9_laysProfile 97 = .ok (.iconst 1, 1) := by decide +kernel
theorem dX9_laysProfile_98 : decode cX9_laysProfile 98 = .ok (.iadd, 1) := by decide +kernel
theorem dX9_laysProfile_99 : decode cX9_laysProfile 99 = .ok (.putfield 278, 3) := by decide +kernel
theorem dX9_laysProfile_102 : decode cX9_laysProfile 102 = .ok (.iinc 3 1, 3) := by decide +kernel
theorem dX9_laysProfile_105 : decode cX9_laysProfile 105 = .ok (.goto (-92), 3) := by decide +kernel
theorem dX9_laysProfile_108 : decode cX9_laysProfile 108 = .ok (.return_, 1) := by decide +kernel
theorem dX9_leavesAt_0 : decode cX9_leavesAt 0 = .ok (.aload_n 0, 1) := by decide +kernel
theorem dX9_leavesAt_1 : decode cX9_leavesAt 1 = .ok (.aload_n 0, 1) := by decide +kernel
theorem dX9_leavesAt_2 : decode cX9_leavesAt 2 = .ok (.getfield 73, 3) := by decide +kernel
theorem dX9_leavesAt_5 : decode cX9_leavesAt 5 = .ok (.iload_n 1, 1) := by decide +kernel
theorem dX9_leavesAt_6 : decode cX9_leavesAt 6 = .ok (.iaload, 1) := by decide +kernel
theorem dX9_leavesAt_7 : decode cX9_leavesAt 7 = .ok (.iconst 3, 1) := by decide +kernel
theorem dX9_leavesAt_8 : decode cX9_leavesAt 8 = .ok (.invokevirtual 201, 3) := by decide +kernel
theorem dX9_leavesAt_11 : decode cX9_leavesAt 11 = .ok (.iload_n 2, 1) := by decide +kernel
theorem dX9_leavesAt_12 : decode cX9_leavesAt 12 = .ok (.ifCond .eq 7, 3) := by decide +kernel
theorem dX9_leavesAt_15 : decode cX9_leavesAt 15 = .ok (.iconst 0, 1) := by decide +kernel
theorem dX9_leavesAt_16 : decode cX9_leavesAt 16 = .ok (.goto 14, 3) := by decide +kernel
theorem dX9_leavesAt_19 : decode cX9_leavesAt 19 = .ok (.aload_n 0, 1) := by decide +kernel
theorem dX9_leavesAt_20 : decode cX9_leavesAt 20 = .ok (.getfield 26, 3) := by decide +kernel
theorem dX9_leavesAt_23 : decode cX9_leavesAt 23 = .ok (.aload_n 0, 1) := by decide +kernel
theorem dX9_leavesAt_24 : decode cX9_leavesAt 24 = .ok (.getfield 73, 3) := by decide +kernel
theorem dX9_leavesAt_27 : decode cX9_leavesAt 27 = .ok (.iload_n 1, 1) := by decide +kernel
theorem dX9_leavesAt_28 : decode cX9_leavesAt 28 = .ok (.iaload, 1) := by decide +kernel
theorem dX9_leavesAt_29 : decode cX9_leavesAt 29 = .ok (.iaload, 1) := by decide +kernel
theorem dX9_leavesAt_30 : decode cX9_leavesAt 30 = .ok (.iadd, 1) := by decide +kernel
theorem dX9_leavesAt_31 : decode cX9_leavesAt 31 = .ok (.ireturn, 1) := by decide +kernel
theorem dX9_leavesFrom_0 : decode cX9_leavesFrom 0 = .ok (.aload_n 0, 1) := by decide +kernel
theorem dX9_leavesFrom_1 : decode cX9_leavesFrom 1 = .ok (.iload_n 1, 1) := by decide +kernel
theorem dX9_leavesFrom_2 : decode cX9_leavesFrom 2 = .ok (.aload_n 0, 1) := by decide +kernel
theorem dX9_leavesFrom_3 : decode cX9_leavesFrom 3 = .ok (.iload_n 2, 1) := by decide +kernel
theorem dX9_leavesFrom_4 : decode cX9_leavesFrom 4 = .ok (.iconst 1, 1) := by decide +kernel
theorem dX9_leavesFrom_5 : decode cX9_leavesFrom 5 = .ok (.invokevirtual 201, 3) := by decide +kernel
theorem dX9_leavesFrom_8 : decode cX9_leavesFrom 8 = .ok (.invokevirtual 216, 3) := by decide +kernel
theorem dX9_leavesFrom_11 : decode cX9_leavesFrom 11 = .ok (.istore_n 3, 1) := by decide +kernel
theorem dX9_leavesFrom_12 : decode cX9_leavesFrom 12 = .ok (.iload_n 3, 1) := by decide +kernel
theorem dX9_leavesFrom_13 : decode cX9_leavesFrom 13 = .ok (.ldc 175, 2) := by decide +kernel
theorem dX9_leavesFrom_15 : decode cX9_leavesFrom 15 = .ok (.if_icmp .ge 16, 3) := by decide +kernel
theorem dX9_leavesFrom_18 : decode cX9_leavesFrom 18 = .ok (.aload_n 0, 1) := by decide +kernel
theorem dX9_leavesFrom_19 : decode cX9_leavesFrom 19 = .ok (.getfield 243, 3) := by decide +kernel
theorem dX9_leavesFrom_22 : decode cX9_leavesFrom 22 = .ok (.iload_n 2, 1) := by decide +kernel
theorem dX9_leavesFrom_23 : decode cX9_leavesFrom 23 = .ok (.lshr, 1) := by decide +kernel
theorem dX9_leavesFrom_24 : decode cX9_leavesFrom 24 = .ok (.lconst 1, 1) := by decide +kernel
theorem dX9_leavesFrom_25 : decode cX9_leavesFrom 25 = .ok (.land, 1) := by decide +kernel
theorem dX9_leavesFrom_26 : decode cX9_leavesFrom 26 = .ok (.lconst 1, 1) := by decide +kernel
theorem dX9_leavesFrom_27 : decode cX9_leavesFrom 27 = .ok (.lcmp, 1) := by decide +kernel
theorem dX9_leavesFrom_28 : decode cX9_leavesFrom 28 = .ok (.ifCond .ne 7, 3) := by decide +kernel
theorem dX9_leavesFrom_31 : decode cX9_leavesFrom 31 = .ok (.iconst (-1), 1) := by decide +kernel
theorem dX9_leavesFrom_32 : decode cX9_leavesFrom 32 = .ok (.goto 11, 3) := by decide +kernel
theorem dX9_leavesFrom_35 : decode cX9_leavesFrom 35 = .ok (.aload_n 0, 1) := by decide +kernel
theorem dX9_leavesFrom_36 : decode cX9_leavesFrom 36 = .ok (.getfield 36, 3) := by decide +kernel
theorem dX9_leavesFrom_39 : decode cX9_leavesFrom 39 = .ok (.iload_n 2, 1) := by decide +kernel
theorem dX9_leavesFrom_40 : decode cX9_leavesFrom 40 = .ok (.iaload, 1) := by decide +kernel
theorem dX9_leavesFrom_41 : decode cX9_leavesFrom 41 = .ok (.iload_n 3, 1) := by decide +kernel
theorem dX9_leavesFrom_42 : decode cX9_leavesFrom 42 = .ok (.isub, 1) := by decide +kernel
theorem dX9_leavesFrom_43 : decode cX9_leavesFrom 43 = .ok (.ireturn, 1) := by decide +kernel
theorem dX9_leg_0 : decode cX9_leg 0 = .ok (.aload_n 0, 1) := by decide +kernel
theorem dX9_leg_1 : decode cX9_leg 1 = .ok (.iconst 0, 1) := by decide +kernel
theorem dX9_leg_2 : decode cX9_leg 2 = .ok (.putfield 85, 3) := by decide +kernel
theorem dX9_leg_5 : decode cX9_leg 5 = .ok (.aload_n 0, 1) := by decide +kernel
theorem dX9_leg_6 : decode cX9_leg 6 = .ok (.iload_n 1, 1) := by decide +kernel
theorem dX9_leg_7 : decode cX9_leg 7 = .ok (.iload_n 2, 1) := by decide +kernel
theorem dX9_leg_8 : decode cX9_leg 8 = .ok (.invokevirtual 287, 3) := by decide +kernel
theorem dX9_leg_11 : decode cX9_leg 11 = .ok (.ifCond .eq 23, 3) := by decide +kernel
theorem dX9_leg_14 : decode cX9_leg 14 = .ok (.iload_n 3, 1) := by decide +kernel
theorem dX9_leg_15 : decode cX9_leg 15 = .ok (.ifCond .lt 19, 3) := by decide +kernel
theorem dX9_leg_18 : decode cX9_leg 18 = .ok (.iload 4, 2) := by decide +kernel
theorem dX9_leg_20 : decode cX9_leg 20 = .ok (.ifCond .lt 14, 3) := by decide +kernel
theorem dX9_leg_23 : decode cX9_leg 23 = .ok (.iload 5, 2) := by decide +kernel
theorem dX9_leg_25 : decode cX9_leg 25 = .ok (.ifCond .lt 9, 3) := by decide +kernel
theorem dX9_leg_28 : decode cX9_leg 28 = .ok (.iload 5, 2) := by decide +kernel
theorem dX9_leg_30 : decode cX9_leg 30 = .ok (.iconst 1, 1) := by decide +kernel
theorem dX9_leg_31 : decode cX9_leg 31 = .ok (.if_icmp .le 5, 3) := by decide +kernel
theorem dX9_leg_34 : decode cX9_leg 34 = .ok (.iconst (-1), 1) := by decide +kernel
theorem dX9_leg_35 : decode cX9_leg 35 = .ok (.ireturn, 1) := by decide +kernel
theorem dX9_leg_36 : decode cX9_leg 36 = .ok (.aload_n 0, 1) := by decide +kernel
theorem dX9_leg_37 : decode cX9_leg 37 = .ok (.invokevirtual 290, 3) := by decide +kernel
theorem dX9_leg_40 : decode cX9_leg 40 = .ok (.aload_n 0, 1) := by decide +kernel
theorem dX9_leg_41 : decode cX9_leg 41 = .ok (.iload_n 1, 1) := by decide +kernel
theorem dX9_leg_42 : decode cX9_leg 42 = .ok (.iload_n 2, 1) := by decide +kernel
theorem dX9_leg_43 : decode cX9_leg 43 = .ok (.invokevirtual 293, 3) := by decide +kernel
theorem dX9_leg_46 : decode cX9_leg 46 = .ok (.iload_n 3, 1) := by decide +kernel
theorem dX9_leg_47 : decode cX9_leg 47 = .ok (.aload_n 0, 1) := by decide +kernel
theorem dX9_leg_48 : decode cX9_leg 48 = .ok (.getfield 278, 3) := by decide +kernel
theorem dX9_leg_51 : decode cX9_leg 51 = .ok (.if_icmp .ge 19, 3) := by decide +kernel
theorem dX9_leg_54 : decode cX9_leg 54 = .ok (.iload 4, 2) := by decide +kernel
theorem dX9_leg_56 : decode cX9_leg 56 = .ok (.aload_n 0, 1) := by decide +kernel
theorem dX9_leg_57 : decode cX9_leg 57 = .ok (.getfield 51, 3) := by decide +kernel
theorem dX9_leg_60 : decode cX9_leg 60 = .ok (.aload_n 0, 1) := by decide +kernel
theorem dX9_leg_61 : decode cX9_leg 61 = .ok (.getfield 54, 3) := by decide +kernel
theorem dX9_leg_64 : decode cX9_leg 64 = .ok (.iload_n 3, 1) := by decide +kernel
theorem dX9_leg_65 : decode cX9_leg 65 = .ok (.iaload, 1) := by decide +kernel
theorem dX9_leg_66 : decode cX9_leg 66 = .ok (.iaload, 1) := by decide +kernel
theorem dX9_leg_67 : decode cX9_leg 67 = .ok (.if_icmp .le 6, 3) := by decide +kernel
theorem dX9_leg_70 : decode cX9_leg 70 = .ok (.bipush (-2), 2) := by decide +kernel
theorem dX9_leg_72 : decode cX9_leg 72 = .ok (.ireturn, 1) := by decide +kernel
theorem dX9_leg_73 : decode cX9_leg 73 = .ok (.aload_n 0, 1) := by decide +kernel
theorem dX9_leg_74 : decode cX9_leg 74 = .ok (.iload_n 1, 1) := by decide +kernel
theorem dX9_leg_75 : decode cX9_leg 75 = .ok (.iload_n 2, 1) := by decide +kernel
theorem dX9_leg_76 : decode cX9_leg 76 = .ok (.aload_n 0, 1) := by decide +kernel
theorem dX9_leg_77 : decode cX9_leg 77 = .ok (.getfield 54, 3) := by decide +kernel
theorem dX9_leg_80 : decode cX9_leg 80 = .ok (.iload_n 3, 1) := by decide +kernel
theorem dX9_leg_81 : decode cX9_leg 81 = .ok (.iaload, 1) := by decide +kernel
theorem dX9_leg_82 : decode cX9_leg 82 = .ok (.invokevirtual 299, 3) := by decide +kernel
theorem dX9_leg_85 : decode cX9_leg 85 = .ok (.iload 5, 2) := by decide +kernel
theorem dX9_leg_87 : decode cX9_leg 87 = .ok (.ifCond .ne 13, 3) := by decide +kernel
theorem dX9_leg_90 : decode cX9_leg 90 = .ok (.aload_n 0, 1) := by decide +kernel
theorem dX9_leg_91 : decode cX9_leg 91 = .ok (.getfield 64, 3) := by decide +kernel
theorem dX9_leg_94 : decode cX9_leg 94 = .ok (.iload 4, 2) := by decide +kernel
theorem dX9_leg_96 : decode cX9_leg 96 = .ok (.iaload, 1) := by decide +kernel
theorem dX9_leg_97 : decode cX9_leg 97 = .ok (.goto 10, 3) := by decide +kernel
theorem dX9_leg_100 : decode cX9_leg 100 = .ok (.aload_n 0, 1) := by decide +kernel
theorem dX9_leg_101 : decode cX9_leg 101 = .ok (.getfield 67, 3) := by decide +kernel
theorem dX9_leg_104 : decode cX9_leg 104 = .ok (.iload 4, 2) := by decide +kernel
theorem dX9_leg_106 : decode cX9_leg 106 = .ok (.iaload, 1) := by decide +kernel
theorem dX9_leg_107 : decode cX9_leg 107 = .ok (.ireturn, 1) := by decide +kernel
theorem dX9_looks_0 : decode cX9_looks 0 = .ok (.aload_n 0, 1) := by decide +kernel
theorem dX9_looks_1 : decode cX9_looks 1 = .ok (.aload_n 0, 1) := by decide +kernel
theorem dX9_looks_2 : decode cX9_looks 2 = .ok (.getfield 179, 3) := by decide +kernel
theorem dX9_looks_5 : decode cX9_looks 5 = .ok (.putfield 243, 3) := by decide +kernel
theorem dX9_looks_8 : decode cX9_looks 8 = .ok (.iconst 0, 1) := by decide +kernel
theorem dX9_looks_9 : decode cX9_looks 9 = .ok (.istore 4, 2) := by decide +kernel
theorem dX9_looks_11 : decode cX9_looks 11 = .ok (.iload 4, 2) := by decide +kernel
theorem dX9_looks_13 : decode cX9_looks 13 = .ok (.aload_n 0, 1) := by decide +kernel
theorem dX9_looks_14 : decode cX9_looks 14 = .ok (.invokevirtual 198, 3) := by decide +kernel
theorem dX9_looks_17 : decode cX9_looks 17 = .ok (.if_icmp .ge 97, 3) := by decide +kernel
theorem dX9_looks_20 : decode cX9_looks 20 = .ok (.aload_n 0, 1) := by decide +kernel
theorem dX9_looks_21 : decode cX9_looks 21 = .ok (.getfield 26, 3) := by decide +kernel
theorem dX9_looks_24 : decode cX9_looks 24 = .ok (.iload 4, 2) := by decide +kernel
theorem dX9_looks_26 : decode cX9_looks 26 = .ok (.iaload, 1) := by decide +kernel
theorem dX9_looks_27 : decode cX9_looks 27 = .ok (.aload_n 0, 1) := by decide +kernel
theorem dX9_looks_28 : decode cX9_looks 28 = .ok (.iload 4, 2) := by decide +kernel
theorem dX9_looks_30 : decode cX9_looks 30 = .ok (.iconst 0, 1) := by decide +kernel
theorem dX9_looks_31 : decode cX9_looks 31 = .ok (.invokevirtual 201, 3) := by decide +kernel
theorem dX9_looks_34 : decode cX9_looks 34 = .ok (.iload_n 1, 1) := by decide +kernel
theorem dX9_looks_35 : decode cX9_looks 35 = .ok (.if_icmp .ne 7, 3) := by decide +kernel
theorem dX9_looks_38 : decode cX9_looks 38 = .ok (.iload_n 2, 1) := by decide +kernel
theorem dX9_looks_39 : decode cX9_looks 39 = .ok (.goto 4, 3) := by decide +kernel
theorem dX9_looks_42 : decode cX9_looks 42 = .ok (.iconst 0, 1) := by decide +kernel
theorem dX9_looks_43 : decode cX9_looks 43 = .ok (.iadd, 1) := by decide +kernel
theorem dX9_looks_44 : decode cX9_looks 44 = .ok (.istore 5, 2) := by decide +kernel
theorem dX9_looks_46 : decode cX9_looks 46 = .ok (.aload_n 0, 1) := by decide +kernel
theorem dX9_looks_47 : decode cX9_looks 47 = .ok (.getfield 36, 3) := by decide +kernel
theorem dX9_looks_50 : decode cX9_looks 50 = .ok (.iload 4, 2) := by decide +kernel
theorem dX9_looks_52 : decode cX9_looks 52 = .ok (.aload_n 0, 1) := by decide +kernel
theorem dX9_looks_53 : decode cX9_looks 53 = .ok (.iload 4, 2) := by decide +kernel
theorem dX9_looks_55 : decode cX9_looks 55 = .ok (.iconst 3, 1) := by decide +kernel
theorem dX9_looks_56 : decode cX9_looks 56 = .ok (.invokevirtual 201, 3) := by decide +kernel
theorem dX9_looks_59 : decode cX9_looks 59 = .ok (.iload 5, 2) := by decide +kernel
theorem dX9_looks_61 : decode cX9_looks 61 = .ok (.iadd, 1) := by decide +kernel
theorem dX9_looks_62 : decode cX9_looks 62 = .ok (.iastore, 1) := by decide +kernel
theorem dX9_looks_63 : decode cX9_looks 63 = .ok (.aload_n 0, 1) := by decide +kernel
theorem dX9_looks_64 : decode cX9_looks 64 = .ok (.getfield 39, 3) := by decide +kernel
theorem dX9_looks_67 : decode cX9_looks 67 = .ok (.iload 4, 2) := by decide +kernel
theorem dX9_looks_69 : decode cX9_looks 69 = .ok (.aload_n 0, 1) := by decide +kernel
theorem dX9_looks_70 : decode cX9_looks 70 = .ok (.iload 4, 2) := by decide +kernel
theorem dX9_looks_72 : decode cX9_looks 72 = .ok (.iconst 4, 1) := by decide +kernel
theorem dX9_looks_73 : decode cX9_looks 73 = .ok (.invokevirtual 201, 3) := by decide +kernel
theorem dX9_looks_76 : decode cX9_looks 76 = .ok (.iload 5, 2) := by decide +kernel
theorem dX9_looks_78 : decode cX9_looks 78 = .ok (.iadd, 1) := by decide +kernel
theorem dX9_looks_79 : decode cX9_looks 79 = .ok (.iastore, 1) := by decide +kernel
theorem dX9_looks_80 : decode cX9_looks 80 = .ok (.iload_n 3, 1) := by decide +kernel
theorem dX9_looks_81 : decode cX9_looks 81 = .ok (.ifCond .eq 27, 3) := by decide +kernel
theorem dX9_looks_84 : decode cX9_looks 84 = .ok (.aload_n 0, 1) := by decide +kernel
theorem dX9_looks_85 : decode cX9_looks 85 = .ok (.iload 4, 2) := by decide +kernel
theorem dX9_looks_87 : decode cX9_looks 87 = .ok (.iconst 0, 1) := by decide +kernel
theorem dX9_looks_88 : decode cX9_looks 88 = .ok (.invokevirtual 201, 3) := by decide +kernel
theorem dX9_looks_91 : decode cX9_looks 91 = .ok (.iload_n 1, 1) := by decide +kernel
theorem dX9_looks_92 : decode cX9_looks 92 = .ok (.if_icmp .ne 16, 3) := by decide +kernel
theorem dX9_looks_95 : decode cX9_looks 95 = .ok (.aload_n 0, 1) := by decide +kernel
theorem dX9_looks_96 : decode cX9_looks 96 = .ok (.dup, 1) := by decide +kernel
theorem dX9_looks_97 : decode cX9_looks 97 = .ok (.getfield 243, 3) := by decide +kernel
theorem dX9_looks_100 : decode cX9_looks 100 = .ok (.lconst 1, 1) := by decide +kernel
theorem dX9_looks_101 : decode cX9_looks 101 = .ok (.iload 4, 2) := by decide +kernel
theorem dX9_looks_103 : decode cX9_looks 103 = .ok (.lshl, 1) := by decide +kernel
theorem dX9_looks_104 : decode cX9_looks 104 = .ok (.lor, 1) := by decide +kernel
theorem dX9_looks_105 : decode cX9_looks 105 = .ok (.putfield 243, 3) := by decide +kernel
theorem dX9_looks_108 : decode cX9_looks 108 = .ok (.iinc 4 1, 3) := by decide +kernel
theorem dX9_looks_111 : decode cX9_looks 111 = .ok (.goto (-100), 3) := by decide +kernel
theorem dX9_looks_114 : decode cX9_looks 114 = .ok (.iconst 0, 1) := by decide +kernel
theorem dX9_looks_115 : decode cX9_looks 115 = .ok (.istore 4, 2) := by decide +kernel
theorem dX9_looks_117 : decode cX9_looks 117 = .ok (.iload 4, 2) := by decide +kernel
theorem dX9_looks_119 : decode cX9_looks 119 = .ok (.aload_n 0, 1) := by decide +kernel
theorem dX9_looks_120 : decode cX9_looks 120 = .ok (.invokevirtual 198, 3) := by decide +kernel
theorem dX9_looks_123 : decode cX9_looks 123 = .ok (.if_icmp .ge 89, 3) := by decide +kernel
theorem dX9_looks_126 : decode cX9_looks 126 = .ok (.aload_n 0, 1) := by decide +kernel
theorem dX9_looks_127 : decode cX9_looks 127 = .ok (.getfield 42, 3) := by decide +kernel
theorem dX9_looks_130 : decode cX9_looks 130 = .ok (.iload 4, 2) := by decide +kernel
theorem dX9_looks_132 : decode cX9_looks 132 = .ok (.lconst 0, 1) := by decide +kernel
theorem dX9_looks_133 : decode cX9_looks 133 = .ok (.lastore, 1) := by decide +kernel
theorem dX9_looks_134 : decode cX9_looks 134 = .ok (.iconst 0, 1) := by decide +kernel
theorem dX9_looks_135 : decode cX9_looks 135 = .ok (.istore 5, 2) := by decide +kernel
theorem dX9_looks_137 : decode cX9_looks 137 = .ok (.iload 5, 2) := by decide +kernel
theorem dX9_looks_139 : decode cX9_looks 139 = .ok (.aload_n 0, 1) := by decide +kernel
theorem dX9_looks_140 : decode cX9_looks 140 = .ok (.invokevirtual 198, 3) := by decide +kernel
theorem dX9_looks_143 : decode cX9_looks 143 = .ok (.if_icmp .ge 63, 3) := by decide +kernel
theorem dX9_looks_146 : decode cX9_looks 146 = .ok (.aload_n 0, 1) := by decide +kernel
theorem dX9_looks_147 : decode cX9_looks 147 = .ok (.getfield 243, 3) := by decide +kernel
theorem dX9_looks_150 : decode cX9_looks 150 = .ok (.iload 5, 2) := by decide +kernel
theorem dX9_looks_152 : decode cX9_looks 152 = .ok (.lshr, 1) := by decide +kernel
theorem dX9_looks_153 : decode cX9_looks 153 = .ok (.lconst 1, 1) := by decide +kernel
theorem dX9_looks_154 : decode cX9_looks 154 = .ok (.land, 1) := by decide +kernel
theorem dX9_looks_155 : decode cX9_looks 155 = .ok (.lconst 0, 1) := by decide +kernel
theorem dX9_looks_156 : decode cX9_looks 156 = .ok (.lcmp, 1) := by decide +kernel
theorem dX9_looks_157 : decode cX9_looks 157 = .ok (.ifCond .ne 43, 3) := by decide +kernel
theorem dX9_looks_160 : decode cX9_looks 160 = .ok (.aload_n 0, 1) := by decide +kernel
theorem dX9_looks_161 : decode cX9_looks 161 = .ok (.getfield 36, 3) := by decide +kernel
theorem dX9_looks_164 : decode cX9_looks 164 = .ok (.iload 5, 2) := by decide +kernel
theorem dX9_looks_166 : decode cX9_looks 166 = .ok (.iaload, 1) := by decide +kernel
theorem dX9_looks_167 : decode cX9_looks 167 = .ok (.aload_n 0, 1) := by decide +kernel
theorem dX9_looks_168 : decode cX9_looks 168 = .ok (.getfield 39, 3) := by decide +kernel
theorem dX9_looks_171 : decode cX9_looks 171 = .ok (.iload 4, 2) := by decide +kernel
theorem dX9_looks_173 : decode cX9_looks 173 = .ok (.iaload, 1) := by decide +kernel
theorem dX9_looks_174 : decode cX9_looks 174 = .ok (.isub, 1) := by decide +kernel
theorem dX9_looks_175 : decode cX9_looks 175 = .ok (.aload_n 0, 1) := by decide +kernel
theorem dX9_looks_176 : decode cX9_looks 176 = .ok (.iload 4, 2) := by decide +kernel
theorem dX9_looks_178 : decode cX9_looks 178 = .ok (.iload 5, 2) := by decide +kernel
theorem dX9_looks_180 : decode cX9_looks 180 = .ok (.invokevirtual 246, 3) := by decide +kernel
theorem dX9_looks_183 : decode cX9_looks 183 = .ok (.if_icmp .lt 17, 3) := by decide +kernel
theorem dX9_looks_186 : decode cX9_looks 186 = .ok (.aload_n 0, 1) := by decide +kernel
theorem dX9_looks_187 : decode cX9_looks 187 = .ok (.getfield 42, 3) := by decide +kernel
theorem dX9_looks_190 : decode cX9_looks 190 = .ok (.iload 4, 2) := by decide +kernel
theorem dX9_looks_192 : decode cX9_looks 192 = .ok (.dup2, 1) := by decide +kernel
theorem dX9_looks_193 : decode cX9_looks 193 = .ok (.laload, 1) := by decide +kernel
theorem dX9_looks_194 : decode cX9_looks 194 = .ok (.lconst 1, 1) := by decide +kernel
theorem dX9_looks_195 : decode cX9_looks 195 = .ok (.iload 5, 2) := by decide +kernel
theorem dX9_looks_197 : decode cX9_looks 197 = .ok (.lshl, 1) := by decide +kernel
theorem dX9_looks_198 : decode cX9_looks 198 = .ok (.lor, 1) := by decide +kernel
theorem dX9_looks_199 : decode cX9_looks 199 = .ok (.lastore, 1) := by decide +kernel
theorem dX9_looks_200 : decode cX9_looks 200 = .ok (.iinc 5 1, 3) := by decide +kernel
theorem dX9_looks_203 : decode cX9_looks 203 = .ok (.goto (-66), 3) := by decide +kernel
theorem dX9_looks_206 : decode cX9_looks 206 = .ok (.iinc 4 1, 3) := by decide +kernel
theorem dX9_looks_209 : decode cX9_looks 209 = .ok (.goto (-92), 3) := by decide +kernel
theorem dX9_looks_212 : decode cX9_looks 212 = .ok (.return_, 1) := by decide +kernel
theorem dX9_looksNow_0 : decode cX9_looksNow 0 = .ok (.aload_n 0, 1) := by decide +kernel
theorem dX9_looksNow_1 : decode cX9_looksNow 1 = .ok (.iconst (-1), 1) := by decide +kernel
theorem dX9_looksNow_2 : decode cX9_looksNow 2 = .ok (.iconst 0, 1) := by decide +kernel
theorem dX9_looksNow_3 : decode cX9_looksNow 3 = .ok (.iconst 0, 1) := by decide +kernel
theorem dX9_looksNow_4 : decode cX9_looksNow 4 = .ok (.invokevirtual 249, 3) := by decide +kernel
theorem dX9_looksNow_7 : decode cX9_looksNow 7 = .ok (.return_, 1) := by decide +kernel
theorem dX9_manyOf_0 : decode cX9_manyOf 0 = .ok (.iconst 0, 1) := by decide +kernel
theorem dX9_manyOf_1 : decode cX9_manyOf 1 = .ok (.istore_n 2, 1) := by decide +kernel
theorem dX9_manyOf_2 : decode cX9_manyOf 2 = .ok (.iconst 0, 1) := by decide +kernel
theorem dX9_manyOf_3 : decode cX9_manyOf 3 = .ok (.istore_n 3, 1) := by decide +kernel
theorem dX9_manyOf_4 : decode cX9_manyOf 4 = .ok (.iload_n 3, 1) := by decide +kernel
theorem dX9_manyOf_5 : decode cX9_manyOf 5 = .ok (.aload_n 0, 1) := by decide +kernel
theorem dX9_manyOf_6 : decode cX9_manyOf 6 = .ok (.invokevirtual 198, 3) := by decide +kernel
theorem dX9_manyOf_9 : decode cX9_manyOf 9 = .ok (.if_icmp .ge 27, 3) := by decide +kernel
theorem dX9_manyOf_12 : decode cX9_manyOf 12 = .ok (.iload_n 2, 1) := by decide +kernel
theorem dX9_manyOf_13 : decode cX9_manyOf 13 = .ok (.aload_n 0, 1) := by decide +kernel
theorem dX9_manyOf_14 : decode cX9_manyOf 14 = .ok (.iload_n 3, 1) := by decide +kernel
theorem dX9_manyOf_15 : decode cX9_manyOf 15 = .ok (.iconst 0, 1) := by decide +kernel
theorem dX9_manyOf_16 : decode cX9_manyOf 16 = .ok (.invokevirtual 201, 3) := by decide +kernel
theorem dX9_manyOf_19 : decode cX9_manyOf 19 = .ok (.iload_n 1, 1) := by decide +kernel
theorem dX9_manyOf_20 : decode cX9_manyOf 20 = .ok (.if_icmp .ne 7, 3) := by decide +kernel
theorem dX9_manyOf_23 : decode cX9_manyOf 23 = .ok (.iconst 1, 1) := by decide +kernel
theorem dX9_manyOf_24 : decode cX9_manyOf 24 = .ok (.goto 4, 3) := by decide +kernel
theorem dX9_manyOf_27 : decode cX9_manyOf 27 = .ok (.iconst 0, 1) := by decide +kernel
theorem dX9_manyOf_28 : decode cX9_manyOf 28 = .ok (.iadd, 1) := by decide +kernel
theorem dX9_manyOf_29 : decode cX9_manyOf 29 = .ok (.istore_n 2, 1) := by decide +kernel
theorem dX9_manyOf_30 : decode cX9_manyOf 30 = .ok (.iinc 3 1, 3) := by decide +kernel
theorem dX9_manyOf_33 : decode cX9_manyOf 33 = .ok (.goto (-29), 3) := by decide +kernel
theorem dX9_manyOf_36 : decode cX9_manyOf 36 = .ok (.iload_n 2, 1) := by decide +kernel
theorem dX9_manyOf_37 : decode cX9_manyOf 37 = .ok (.ireturn, 1) := by decide +kernel
theorem dX9_mean_0 : decode cX9_mean 0 = .ok (.aload_n 0, 1) := by decide +kernel
theorem dX9_mean_1 : decode cX9_mean 1 = .ok (.iconst 0, 1) := by decide +kernel
theorem dX9_mean_2 : decode cX9_mean 2 = .ok (.putfield 85, 3) := by decide +kernel
theorem dX9_mean_5 : decode cX9_mean 5 = .ok (.aload_n 0, 1) := by decide +kernel
theorem dX9_mean_6 : decode cX9_mean 6 = .ok (.iload_n 1, 1) := by decide +kernel
theorem dX9_mean_7 : decode cX9_mean 7 = .ok (.iload_n 2, 1) := by decide +kernel
theorem dX9_mean_8 : decode cX9_mean 8 = .ok (.invokevirtual 287, 3) := by decide +kernel
theorem dX9_mean_11 : decode cX9_mean 11 = .ok (.ifCond .eq 21, 3) := by decide +kernel
theorem dX9_mean_14 : decode cX9_mean 14 = .ok (.iload_n 3, 1) := by decide +kernel
theorem dX9_mean_15 : decode cX9_mean 15 = .ok (.ifCond .lt 17, 3) := by decide +kernel
theorem dX9_mean_18 : decode cX9_mean 18 = .ok (.iload 4, 2) := by decide +kernel
theorem dX9_mean_20 : decode cX9_mean 20 = .ok (.sipush 1440, 3) := by decide +kernel
theorem dX9_mean_23 : decode cX9_mean 23 = .ok (.if_icmp .gt 9, 3) := by decide +kernel
theorem dX9_mean_26 : decode cX9_mean 26 = .ok (.iload_n 3, 1) := by decide +kernel
theorem dX9_mean_27 : decode cX9_mean 27 = .ok (.iload 4, 2) := by decide +kernel
theorem dX9_mean_29 : decode cX9_mean 29 = .ok (.if_icmp .lt 5, 3) := by decide +kernel
theorem dX9_mean_32 : decode cX9_mean 32 = .ok (.iconst (-1), 1) := by decide +kernel
theorem dX9_mean_33 : decode cX9_mean 33 = .ok (.ireturn, 1) := by decide +kernel
theorem dX9_mean_34 : decode cX9_mean 34 = .ok (.aload_n 0, 1) := by decide +kernel
theorem dX9_mean_35 : decode cX9_mean 35 = .ok (.invokevirtual 290, 3) := by decide +kernel
theorem dX9_mean_38 : decode cX9_mean 38 = .ok (.lconst 0, 1) := by decide +kernel
theorem dX9_mean_39 : decode cX9_mean 39 = .ok (.lstore 5, 2) := by decide +kernel
theorem dX9_mean_41 : decode cX9_mean 41 = .ok (.iconst 0, 1) := by decide +kernel
theorem dX9_mean_42 : decode cX9_mean 42 = .ok (.istore 7, 2) := by decide +kernel
theorem dX9_mean_44 : decode cX9_mean 44 = .ok (.iload_n 3, 1) := by decide +kernel
theorem dX9_mean_45 : decode cX9_mean 45 = .ok (.istore 8, 2) := by decide +kernel
theorem dX9_mean_47 : decode cX9_mean 47 = .ok (.iload 8, 2) := by decide +kernel
theorem dX9_mean_49 : decode cX9_mean 49 = .ok (.iload 4, 2) := by decide +kernel
theorem dX9_mean_51 : decode cX9_mean 51 = .ok (.if_icmp .ge 44, 3) := by decide +kernel
theorem dX9_mean_54 : decode cX9_mean 54 = .ok (.aload_n 0, 1) := by decide +kernel
theorem dX9_mean_55 : decode cX9_mean 55 = .ok (.iload_n 1, 1) := by decide +kernel
theorem dX9_mean_56 : decode cX9_mean 56 = .ok (.iload_n 2, 1) := by decide +kernel
theorem dX9_mean_57 : decode cX9_mean 57 = .ok (.iload 8, 2) := by decide +kernel
theorem dX9_mean_59 : decode cX9_mean 59 = .ok (.iconst 4, 1) := by decide +kernel
theorem dX9_mean_60 : decode cX9_mean 60 = .ok (.invokevirtual 316, 3) := by decide +kernel
theorem dX9_mean_63 : decode cX9_mean 63 = .ok (.istore 9, 2) := by decide +kernel
theorem dX9_mean_65 : decode cX9_mean 65 = .ok (.iload 9, 2) := by decide +kernel
theorem dX9_mean_67 : decode cX9_mean 67 = .ok (.ldc 175, 2) := by decide +kernel
theorem dX9_mean_69 : decode cX9_mean 69 = .ok (.if_icmp .lt 6, 3) := by decide +kernel
theorem dX9_mean_72 : decode cX9_mean 72 = .ok (.goto 17, 3) := by decide +kernel
theorem dX9_mean_75 : decode cX9_mean 75 = .ok (.lload 5, 2) := by decide +kernel
theorem dX9_mean_77 : decode cX9_mean 77 = .ok (.iload 9, 2) := by decide +kernel
theorem dX9_mean_79 : decode cX9_mean 79 = .ok (.iload 8, 2) := by decide +kernel
theorem dX9_mean_81 : decode cX9_mean 81 = .ok (.isub, 1) := by decide +kernel
theorem dX9_mean_82 : decode cX9_mean 82 = .ok (.i2l, 1) := by decide +kernel
theorem dX9_mean_83 : decode cX9_mean 83 = .ok (.ladd, 1) := by decide +kernel
theorem dX9_mean_84 : decode cX9_mean 84 = .ok (.lstore 5, 2) := by decide +kernel
theorem dX9_mean_86 : decode cX9_mean 86 = .ok (.iinc 7 1, 3) := by decide +kernel
theorem dX9_mean_89 : decode cX9_mean 89 = .ok (.iinc 8 1, 3) := by decide +kernel
theorem dX9_mean_92 : decode cX9_mean 92 = .ok (.goto (-45), 3) := by decide +kernel
theorem dX9_mean_95 : decode cX9_mean 95 = .ok (.iload 7, 2) := by decide +kernel
theorem dX9_mean_97 : decode cX9_mean 97 = .ok (.ifCond .ne 8, 3) := by decide +kernel
theorem dX9_mean_100 : decode cX9_mean 100 = .ok (.bipush (-2), 2) := by decide +kernel
theorem dX9_mean_102 : decode cX9_mean 102 = .ok (.goto 10, 3) := by decide +kernel
theorem dX9_mean_105 : decode cX9_mean 105 = .ok (.lload 5, 2) := by decide +kernel
theorem dX9_mean_107 : decode cX9_mean 107 = .ok (.iload 7, 2) := by decide +kernel
theorem dX9_mean_109 : decode cX9_mean 109 = .ok (.i2l, 1) := by decide +kernel
theorem dX9_mean_110 : decode cX9_mean 110 = .ok (.ldiv, 1) := by decide +kernel
theorem dX9_mean_111 : decode cX9_mean 111 = .ok (.l2i, 1) := by decide +kernel
theorem dX9_mean_112 : decode cX9_mean 112 = .ok (.ireturn, 1) := by decide +kernel
theorem dX9_meet_0 : decode cX9_meet 0 = .ok (.aload_n 0, 1) := by decide +kernel
theorem dX9_meet_1 : decode cX9_meet 1 = .ok (.iconst 0, 1) := by decide +kernel
theorem dX9_meet_2 : decode cX9_meet 2 = .ok (.putfield 85, 3) := by decide +kernel
theorem dX9_meet_5 : decode cX9_meet 5 = .ok (.aload_n 0, 1) := by decide +kernel
theorem dX9_meet_6 : decode cX9_meet 6 = .ok (.iload_n 1, 1) := by decide +kernel
theorem dX9_meet_7 : decode cX9_meet 7 = .ok (.invokevirtual 213, 3) := by decide +kernel
theorem dX9_meet_10 : decode cX9_meet 10 = .ok (.ifCond .eq 29, 3) := by decide +kernel
theorem dX9_meet_13 : decode cX9_meet 13 = .ok (.aload_n 0, 1) := by decide +kernel
theorem dX9_meet_14 : decode cX9_meet 14 = .ok (.iload_n 2, 1) := by decide +kernel
theorem dX9_meet_15 : decode cX9_meet 15 = .ok (.invokevirtual 213, 3) := by decide +kernel
theorem dX9_meet_18 : decode cX9_meet 18 = .ok (.ifCond .eq 21, 3) := by decide +kernel
theorem dX9_meet_21 : decode cX9_meet 21 = .ok (.iload_n 3, 1) := by decide +kernel
theorem dX9_meet_22 : decode cX9_meet 22 = .ok (.invokestatic 320, 3) := by decide +kernel
theorem dX9_meet_25 : decode cX9_meet 25 = .ok (.ifCond .eq 14, 3) := by decide +kernel
theorem dX9_meet_28 : decode cX9_meet 28 = .ok (.iload 4, 2) := by decide +kernel
theorem dX9_meet_30 : decode cX9_meet 30 = .ok (.ifCond .lt 9, 3) := by decide +kernel
theorem dX9_meet_33 : decode cX9_meet 33 = .ok (.iload 4, 2) := by decide +kernel
theorem dX9_meet_35 : decode cX9_meet 35 = .ok (.iconst 1, 1) := by decide +kernel
theorem dX9_meet_36 : decode cX9_meet 36 = .ok (.if_icmp .le 5, 3) := by decide +kernel
theorem dX9_meet_39 : decode cX9_meet 39 = .ok (.iconst (-1), 1) := by decide +kernel
theorem dX9_meet_40 : decode cX9_meet 40 = .ok (.ireturn, 1) := by decide +kernel
theorem dX9_meet_41 : decode cX9_meet 41 = .ok (.aload_n 0, 1) := by decide +kernel
theorem dX9_meet_42 : decode cX9_meet 42 = .ok (.invokevirtual 290, 3) := by decide +kernel
theorem dX9_meet_45 : decode cX9_meet 45 = .ok (.bipush (-2), 2) := by decide +kernel
theorem dX9_meet_47 : decode cX9_meet 47 = .ok (.istore 5, 2) := by decide +kernel
theorem dX9_meet_49 : decode cX9_meet 49 = .ok (.ldc 175, 2) := by decide +kernel
theorem dX9_meet_51 : decode cX9_meet 51 = .ok (.istore 6, 2) := by decide +kernel
theorem dX9_meet_53 : decode cX9_meet 53 = .ok (.iconst 0, 1) := by decide +kernel
theorem dX9_meet_54 : decode cX9_meet 54 = .ok (.istore 7, 2) := by decide +kernel
theorem dX9_meet_56 : decode cX9_meet 56 = .ok (.iload 7, 2) := by decide +kernel
theorem dX9_meet_58 : decode cX9_meet 58 = .ok (.aload_n 0, 1) := by decide +kernel
theorem dX9_meet_59 : decode cX9_meet 59 = .ok (.invokevirtual 195, 3) := by decide +kernel
theorem dX9_meet_62 : decode cX9_meet 62 = .ok (.if_icmp .ge 63, 3) := by decide +kernel
theorem dX9_meet_65 : decode cX9_meet 65 = .ok (.aload_n 0, 1) := by decide +kernel
theorem dX9_meet_66 : decode cX9_meet 66 = .ok (.iload_n 1, 1) := by decide +kernel
theorem dX9_meet_67 : decode cX9_meet 67 = .ok (.iload 7, 2) := by decide +kernel
theorem dX9_meet_69 : decode cX9_meet 69 = .ok (.iload_n 3, 1) := by decide +kernel
theorem dX9_meet_70 : decode cX9_meet 70 = .ok (.invokevirtual 323, 3) := by decide +kernel
theorem dX9_meet_73 : decode cX9_meet 73 = .ok (.istore 8, 2) := by decide +kernel
theorem dX9_meet_75 : decode cX9_meet 75 = .ok (.aload_n 0, 1) := by decide +kernel
theorem dX9_meet_76 : decode cX9_meet 76 = .ok (.iload_n 2, 1) := by decide +kernel
theorem dX9_meet_77 : decode cX9_meet 77 = .ok (.iload 7, 2) := by decide +kernel
theorem dX9_meet_79 : decode cX9_meet 79 = .ok (.iload_n 3, 1) := by decide +kernel
theorem dX9_meet_80 : decode cX9_meet 80 = .ok (.invokevirtual 323, 3) := by decide +kernel
theorem dX9_meet_83 : decode cX9_meet 83 = .ok (.istore 9, 2) := by decide +kernel
theorem dX9_meet_85 : decode cX9_meet 85 = .ok (.iload 8, 2) := by decide +kernel
theorem dX9_meet_87 : decode cX9_meet 87 = .ok (.iload 9, 2) := by decide +kernel
theorem dX9_meet_89 : decode cX9_meet 89 = .ok (.if_icmp .le 8, 3) := by decide +kernel
theorem dX9_meet_92 : decode cX9_meet 92 = .ok (.iload 8, 2) := by decide +kernel
theorem dX9_meet_94 : decode cX9_meet 94 = .ok (.goto 5, 3) := by decide +kernel
theorem dX9_meet_97 : decode cX9_meet 97 = .ok (.iload 9, 2) := by decide +kernel
theorem dX9_meet_99 : decode cX9_meet 99 = .ok (.istore 10, 2) := by decide +kernel
theorem dX9_meet_101 : decode cX9_meet 101 = .ok (.iload 10, 2) := by decide +kernel
theorem dX9_meet_103 : decode cX9_meet 103 = .ok (.iload 6, 2) := by decide +kernel
theorem dX9_meet_105 : decode cX9_meet 105 = .ok (.if_icmp .lt 6, 3) := by decide +kernel
theorem dX9_meet_108 : decode cX9_meet 108 = .ok (.goto 11, 3) := by decide +kernel
theorem dX9_meet_111 : decode cX9_meet 111 = .ok (.iload 7, 2) := by decide +kernel
theorem dX9_meet_113 : decode cX9_meet 113 = .ok (.istore 5, 2) := by decide +kernel
theorem dX9_meet_115 : decode cX9_meet 115 = .ok (.iload 10, 2) := by decide +kernel
theorem dX9_meet_117 : decode cX9_meet 117 = .ok (.istore 6, 2) := by decide +kernel
theorem dX9_meet_119 : decode cX9_meet 119 = .ok (.iinc 7 1, 3) := by decide +kernel
theorem dX9_meet_122 : decode cX9_meet 122 = .ok (.goto (-66), 3) := by decide +kernel
theorem dX9_meet_125 : decode cX9_meet 125 = .ok (.iload 5, 2) := by decide +kernel
theorem dX9_meet_127 : decode cX9_meet 127 = .ok (.bipush (-2), 2) := by decide +kernel
theorem dX9_meet_129 : decode cX9_meet 129 = .ok (.if_icmp .eq 8, 3) := by decide +kernel
theorem dX9_meet_132 : decode cX9_meet 132 = .ok (.iload 4, 2) := by decide +kernel
theorem dX9_meet_134 : decode cX9_meet 134 = .ok (.ifCond .ne 8, 3) := by decide +kernel
theorem dX9_meet_137 : decode cX9_meet 137 = .ok (.iload 5, 2) := by decide +kernel
theorem dX9_meet_139 : decode cX9_meet 139 = .ok (.goto 5, 3) := by decide +kernel
theorem dX9_meet_142 : decode cX9_meet 142 = .ok (.iload 6, 2) := by decide +kernel
theorem dX9_meet_144 : decode cX9_meet 144 = .ok (.ireturn, 1) := by decide +kernel
theorem dX9_missed_0 : decode cX9_missed 0 = .ok (.aload_n 0, 1) := by decide +kernel
theorem dX9_missed_1 : decode cX9_missed 1 = .ok (.iconst 0, 1) := by decide +kernel
theorem dX9_missed_2 : decode cX9_missed 2 = .ok (.putfield 85, 3) := by decide +kernel
theorem dX9_missed_5 : decode cX9_missed 5 = .ok (.aload_n 0, 1) := by decide +kernel
theorem dX9_missed_6 : decode cX9_missed 6 = .ok (.iload_n 1, 1) := by decide +kernel
theorem dX9_missed_7 : decode cX9_missed 7 = .ok (.iload_n 2, 1) := by decide +kernel
theorem dX9_missed_8 : decode cX9_missed 8 = .ok (.invokevirtual 287, 3) := by decide +kernel
theorem dX9_missed_11 : decode cX9_missed 11 = .ok (.ifCond .eq 21, 3) := by decide +kernel
theorem dX9_missed_14 : decode cX9_missed 14 = .ok (.iload_n 3, 1) := by decide +kernel
theorem dX9_missed_15 : decode cX9_missed 15 = .ok (.invokestatic 320, 3) := by decide +kernel
theorem dX9_missed_18 : decode cX9_missed 18 = .ok (.ifCond .eq 14, 3) := by decide +kernel
theorem dX9_missed_21 : decode cX9_missed 21 = .ok (.iload 4, 2) := by decide +kernel
theorem dX9_missed_23 : decode cX9_missed 23 = .ok (.ifCond .lt 9, 3) := by decide +kernel
theorem dX9_missed_26 : decode cX9_missed 26 = .ok (.iload 4, 2) := by decide +kernel
theorem dX9_missed_28 : decode cX9_missed 28 = .ok (.iconst 1, 1) := by decide +kernel
theorem dX9_missed_29 : decode cX9_missed 29 = .ok (.if_icmp .le 5, 3) := by decide +kernel
theorem dX9_missed_32 : decode cX9_missed 32 = .ok (.iconst (-1), 1) := by decide +kernel
theorem dX9_missed_33 : decode cX9_missed 33 = .ok (.ireturn, 1) := by decide +kernel
theorem dX9_missed_34 : decode cX9_missed 34 = .ok (.aload_n 0, 1) := by decide +kernel
theorem dX9_missed_35 : decode cX9_missed 35 = .ok (.invokevirtual 290, 3) := by decide +kernel
theorem dX9_missed_38 : decode cX9_missed 38 = .ok (.aload_n 0, 1) := by decide +kernel
theorem dX9_missed_39 : decode cX9_missed 39 = .ok (.iload_n 1, 1) := by decide +kernel
theorem dX9_missed_40 : decode cX9_missed 40 = .ok (.iload_n 2, 1) := by decide +kernel
theorem dX9_missed_41 : decode cX9_missed 41 = .ok (.iload_n 3, 1) := by decide +kernel
theorem dX9_missed_42 : decode cX9_missed 42 = .ok (.iconst 4, 1) := by decide +kernel
theorem dX9_missed_43 : decode cX9_missed 43 = .ok (.invokevirtual 316, 3) := by decide +kernel
theorem dX9_missed_46 : decode cX9_missed 46 = .ok (.ldc 175, 2) := by decide +kernel
theorem dX9_missed_48 : decode cX9_missed 48 = .ok (.if_icmp .lt 6, 3) := by decide +kernel
theorem dX9_missed_51 : decode cX9_missed 51 = .ok (.bipush (-2), 2) := by decide +kernel
theorem dX9_missed_53 : decode cX9_missed 53 = .ok (.ireturn, 1) := by decide +kernel
theorem dX9_missed_54 : decode cX9_missed 54 = .ok (.bipush (-2), 2) := by decide +kernel
theorem dX9_missed_56 : decode cX9_missed 56 = .ok (.istore 5, 2) := by decide +kernel
theorem dX9_missed_58 : decode cX9_missed 58 = .ok (.iconst (-1), 1) := by decide +kernel
theorem dX9_missed_59 : decode cX9_missed 59 = .ok (.istore 6, 2) := by decide +kernel
theorem dX9_missed_61 : decode cX9_missed 61 = .ok (.iconst 0, 1) := by decide +kernel
theorem dX9_missed_62 : decode cX9_missed 62 = .ok (.istore 7, 2) := by decide +kernel
theorem dX9_missed_64 : decode cX9_missed 64 = .ok (.iload 7, 2) := by decide +kernel
theorem dX9_missed_66 : decode cX9_missed 66 = .ok (.aload_n 0, 1) := by decide +kernel
theorem dX9_missed_67 : decode cX9_missed 67 = .ok (.getfield 13, 3) := by decide +kernel
theorem dX9_missed_70 : decode cX9_missed 70 = .ok (.iconst 2, 1) := by decide +kernel
theorem dX9_missed_71 : decode cX9_missed 71 = .ok (.iaload, 1) := by decide +kernel
theorem dX9_missed_72 : decode cX9_missed 72 = .ok (.if_icmp .ge 57, 3) := by decide +kernel
theorem dX9_missed_75 : decode cX9_missed 75 = .ok (.aload_n 0, 1) := by decide +kernel
theorem dX9_missed_76 : decode cX9_missed 76 = .ok (.iload 7, 2) := by decide +kernel
theorem dX9_missed_78 : decode cX9_missed 78 = .ok (.invokevirtual 332, 3) := by decide +kernel
theorem dX9_missed_81 : decode cX9_missed 81 = .ok (.ifCond .ne 6, 3) := by decide +kernel
theorem dX9_missed_84 : decode cX9_missed 84 = .ok (.goto 39, 3) := by decide +kernel
theorem dX9_missed_87 : decode cX9_missed 87 = .ok (.aload_n 0, 1) := by decide +kernel
theorem dX9_missed_88 : decode cX9_missed 88 = .ok (.iload 7, 2) := by decide +kernel
theorem dX9_missed_90 : decode cX9_missed 90 = .ok (.iconst 0, 1) := by decide +kernel
theorem dX9_missed_91 : decode cX9_missed 91 = .ok (.iconst 1, 1) := by decide +kernel
theorem dX9_missed_92 : decode cX9_missed 92 = .ok (.invokevirtual 249, 3) := by decide +kernel
theorem dX9_missed_95 : decode cX9_missed 95 = .ok (.aload_n 0, 1) := by decide +kernel
theorem dX9_missed_96 : decode cX9_missed 96 = .ok (.iload_n 1, 1) := by decide +kernel
theorem dX9_missed_97 : decode cX9_missed 97 = .ok (.iload_n 2, 1) := by decide +kernel
theorem dX9_missed_98 : decode cX9_missed 98 = .ok (.iload_n 3, 1) := by decide +kernel
theorem dX9_missed_99 : decode cX9_missed 99 = .ok (.iconst 4, 1) := by decide +kernel
theorem dX9_missed_100 : decode cX9_missed 100 = .ok (.invokevirtual 316, 3) := by decide +kernel
theorem dX9_missed_103 : decode cX9_missed 103 = .ok (.istore 8, 2) := by decide +kernel
theorem dX9_missed_105 : decode cX9_missed 105 = .ok (.iload 8, 2) := by decide +kernel
theorem dX9_missed_107 : decode cX9_missed 107 = .ok (.iload 6, 2) := by decide +kernel
theorem dX9_missed_109 : decode cX9_missed 109 = .ok (.if_icmp .gt 6, 3) := by decide +kernel
theorem dX9_missed_112 : decode cX9_missed 112 = .ok (.goto 11, 3) := by decide +kernel
theorem dX9_missed_115 : decode cX9_missed 115 = .ok (.iload 7, 2) := by decide +kernel
theorem dX9_missed_117 : decode cX9_missed 117 = .ok (.istore 5, 2) := by decide +kernel
theorem dX9_missed_119 : decode cX9_missed 119 = .ok (.iload 8, 2) := by decide +kernel
theorem dX9_missed_121 : decode cX9_missed 121 = .ok (.istore 6, 2) := by decide +kernel
theorem dX9_missed_123 : decode cX9_missed 123 = .ok (.iinc 7 1, 3) := by decide +kernel
theorem dX9_missed_126 : decode cX9_missed 126 = .ok (.goto (-62), 3) := by decide +kernel
theorem dX9_missed_129 : decode cX9_missed 129 = .ok (.iload 5, 2) := by decide +kernel
theorem dX9_missed_131 : decode cX9_missed 131 = .ok (.bipush (-2), 2) := by decide +kernel
theorem dX9_missed_133 : decode cX9_missed 133 = .ok (.if_icmp .eq 8, 3) := by decide +kernel
theorem dX9_missed_136 : decode cX9_missed 136 = .ok (.iload 4, 2) := by decide +kernel
theorem dX9_missed_138 : decode cX9_missed 138 = .ok (.ifCond .ne 8, 3) := by decide +kernel
theorem dX9_missed_141 : decode cX9_missed 141 = .ok (.iload 5, 2) := by decide +kernel
theorem dX9_missed_143 : decode cX9_missed 143 = .ok (.goto 17, 3) := by decide +kernel
theorem dX9_missed_146 : decode cX9_missed 146 = .ok (.iload 6, 2) := by decide +kernel
theorem dX9_missed_148 : decode cX9_missed 148 = .ok (.ldc 175, 2) := by decide +kernel
theorem dX9_missed_150 : decode cX9_missed 150 = .ok (.if_icmp .lt 8, 3) := by decide +kernel
theorem dX9_missed_153 : decode cX9_missed 153 = .ok (.bipush (-3), 2) := by decide +kernel
theorem dX9_missed_155 : decode cX9_missed 155 = .ok (.goto 5, 3) := by decide +kernel
theorem dX9_missed_158 : decode cX9_missed 158 = .ok (.iload 6, 2) := by decide +kernel
theorem dX9_missed_160 : decode cX9_missed 160 = .ok (.ireturn, 1) := by decide +kernel
theorem dX9_moves_0 : decode cX9_moves 0 = .ok (.aload_n 0, 1) := by decide +kernel
theorem dX9_moves_1 : decode cX9_moves 1 = .ok (.iload_n 1, 1) := by decide +kernel
theorem dX9_moves_2 : decode cX9_moves 2 = .ok (.aload_n 0, 1) := by decide +kernel
theorem dX9_moves_3 : decode cX9_moves 3 = .ok (.aload_n 0, 1) := by decide +kernel
theorem dX9_moves_4 : decode cX9_moves 4 = .ok (.getfield 64, 3) := by decide +kernel
theorem dX9_moves_7 : decode cX9_moves 7 = .ok (.iconst 0, 1) := by decide +kernel
theorem dX9_moves_8 : decode cX9_moves 8 = .ok (.iaload, 1) := by decide +kernel
theorem dX9_moves_9 : decode cX9_moves 9 = .ok (.iconst 1, 1) := by decide +kernel
theorem dX9_moves_10 : decode cX9_moves 10 = .ok (.invokevirtual 201, 3) := by decide +kernel
theorem dX9_moves_13 : decode cX9_moves 13 = .ok (.invokevirtual 216, 3) := by decide +kernel
theorem dX9_moves_16 : decode cX9_moves 16 = .ok (.aload_n 0, 1) := by decide +kernel
theorem dX9_moves_17 : decode cX9_moves 17 = .ok (.aload_n 0, 1) := by decide +kernel
theorem dX9_moves_18 : decode cX9_moves 18 = .ok (.aload_n 0, 1) := by decide +kernel
theorem dX9_moves_19 : decode cX9_moves 19 = .ok (.getfield 67, 3) := by decide +kernel
theorem dX9_moves_22 : decode cX9_moves 22 = .ok (.iload_n 3, 1) := by decide +kernel
theorem dX9_moves_23 : decode cX9_moves 23 = .ok (.iconst 1, 1) := by decide +kernel
theorem dX9_moves_24 : decode cX9_moves 24 = .ok (.isub, 1) := by decide +kernel
theorem dX9_moves_25 : decode cX9_moves 25 = .ok (.iaload, 1) := by decide +kernel
theorem dX9_moves_26 : decode cX9_moves 26 = .ok (.iconst 2, 1) := by decide +kernel
theorem dX9_moves_27 : decode cX9_moves 27 = .ok (.invokevirtual 201, 3) := by decide +kernel
theorem dX9_moves_30 : decode cX9_moves 30 = .ok (.iload_n 2, 1) := by decide +kernel
theorem dX9_moves_31 : decode cX9_moves 31 = .ok (.invokevirtual 216, 3) := by decide +kernel
theorem dX9_moves_34 : decode cX9_moves 34 = .ok (.iadd, 1) := by decide +kernel
theorem dX9_moves_35 : decode cX9_moves 35 = .ok (.istore 4, 2) := by decide +kernel
theorem dX9_moves_37 : decode cX9_moves 37 = .ok (.iconst 0, 1) := by decide +kernel
theorem dX9_moves_38 : decode cX9_moves 38 = .ok (.istore 5, 2) := by decide +kernel
theorem dX9_moves_40 : decode cX9_moves 40 = .ok (.iload 5, 2) := by decide +kernel
theorem dX9_moves_42 : decode cX9_moves 42 = .ok (.iload_n 3, 1) := by decide +kernel
theorem dX9_moves_43 : decode cX9_moves 43 = .ok (.if_icmp .ge 79, 3) := by decide +kernel
theorem dX9_moves_46 : decode cX9_moves 46 = .ok (.iload 4, 2) := by decide +kernel
theorem dX9_moves_48 : decode cX9_moves 48 = .ok (.aload_n 0, 1) := by decide +kernel
theorem dX9_moves_49 : decode cX9_moves 49 = .ok (.getfield 39, 3) := by decide +kernel
theorem dX9_moves_52 : decode cX9_moves 52 = .ok (.aload_n 0, 1) := by decide +kernel
theorem dX9_moves_53 : decode cX9_moves 53 = .ok (.getfield 67, 3) := by decide +kernel
theorem dX9_moves_56 : decode cX9_moves 56 = .ok (.iload 5, 2) := by decide +kernel
theorem dX9_moves_58 : decode cX9_moves 58 = .ok (.iaload, 1) := by decide +kernel
theorem dX9_moves_59 : decode cX9_moves 59 = .ok (.iaload, 1) := by decide +kernel
theorem dX9_moves_60 : decode cX9_moves 60 = .ok (.aload_n 0, 1) := by decide +kernel
theorem dX9_moves_61 : decode cX9_moves 61 = .ok (.getfield 36, 3) := by decide +kernel
theorem dX9_moves_64 : decode cX9_moves 64 = .ok (.aload_n 0, 1) := by decide +kernel
theorem dX9_moves_65 : decode cX9_moves 65 = .ok (.getfield 64, 3) := by decide +kernel
theorem dX9_moves_68 : decode cX9_moves 68 = .ok (.iload 5, 2) := by decide +kernel
theorem dX9_moves_70 : decode cX9_moves 70 = .ok (.iaload, 1) := by decide +kernel
theorem dX9_moves_71 : decode cX9_moves 71 = .ok (.iaload, 1) := by decide +kernel
theorem dX9_moves_72 : decode cX9_moves 72 = .ok (.isub, 1) := by decide +kernel
theorem dX9_moves_73 : decode cX9_moves 73 = .ok (.iadd, 1) := by decide +kernel
theorem dX9_moves_74 : decode cX9_moves 74 = .ok (.istore 4, 2) := by decide +kernel
theorem dX9_moves_76 : decode cX9_moves 76 = .ok (.iload 5, 2) := by decide +kernel
theorem dX9_moves_78 : decode cX9_moves 78 = .ok (.ifCond .le 38, 3) := by decide +kernel
theorem dX9_moves_81 : decode cX9_moves 81 = .ok (.iload 4, 2) := by decide +kernel
theorem dX9_moves_83 : decode cX9_moves 83 = .ok (.aload_n 0, 1) := by decide +kernel
theorem dX9_moves_84 : decode cX9_moves 84 = .ok (.aload_n 0, 1) := by decide +kernel
theorem dX9_moves_85 : decode cX9_moves 85 = .ok (.aload_n 0, 1) := by decide +kernel
theorem dX9_moves_86 : decode cX9_moves 86 = .ok (.getfield 67, 3) := by decide +kernel
theorem dX9_moves_89 : decode cX9_moves 89 = .ok (.iload 5, 2) := by decide +kernel
theorem dX9_moves_91 : decode cX9_moves 91 = .ok (.iconst 1, 1) := by decide +kernel
theorem dX9_moves_92 : decode cX9_moves 92 = .ok (.isub, 1) := by decide +kernel
theorem dX9_moves_93 : decode cX9_moves 93 = .ok (.iaload, 1) := by decide +kernel
theorem dX9_moves_94 : decode cX9_moves 94 = .ok (.iconst 2, 1) := by decide +kernel
theorem dX9_moves_95 : decode cX9_moves 95 = .ok (.invokevirtual 201, 3) := by decide +kernel
theorem dX9_moves_98 : decode cX9_moves 98 = .ok (.aload_n 0, 1) := by decide +kernel
theorem dX9_moves_99 : decode cX9_moves 99 = .ok (.aload_n 0, 1) := by decide +kernel
theorem dX9_moves_100 : decode cX9_moves 100 = .ok (.getfield 64, 3) := by decide +kernel
theorem dX9_moves_103 : decode cX9_moves 103 = .ok (.iload 5, 2) := by decide +kernel
theorem dX9_moves_105 : decode cX9_moves 105 = .ok (.iaload, 1) := by decide +kernel
theorem dX9_moves_106 : decode cX9_moves 106 = .ok (.iconst 1, 1) := by decide +kernel
theorem dX9_moves_107 : decode cX9_moves 107 = .ok (.invokevirtual 201, 3) := by decide +kernel
theorem dX9_moves_110 : decode cX9_moves 110 = .ok (.invokevirtual 216, 3) := by decide +kernel
theorem dX9_moves_113 : decode cX9_moves 113 = .ok (.iadd, 1) := by decide +kernel
theorem dX9_moves_114 : decode cX9_moves 114 = .ok (.istore 4, 2) := by decide +kernel
theorem dX9_moves_116 : decode cX9_moves 116 = .ok (.iinc 5 1, 3) := by decide +kernel
theorem dX9_moves_119 : decode cX9_moves 119 = .ok (.goto (-79), 3) := by decide +kernel
theorem dX9_moves_122 : decode cX9_moves 122 = .ok (.iload 4, 2) := by decide +kernel
theorem dX9_moves_124 : decode cX9_moves 124 = .ok (.ireturn, 1) := by decide +kernel
theorem dX9_next_0 : decode cX9_next 0 = .ok (.aload_n 0, 1) := by decide +kernel
theorem dX9_next_1 : decode cX9_next 1 = .ok (.iconst 0, 1) := by decide +kernel
theorem dX9_next_2 : decode cX9_next 2 = .ok (.putfield 85, 3) := by decide +kernel
theorem dX9_next_5 : decode cX9_next 5 = .ok (.aload_n 0, 1) := by decide +kernel
theorem dX9_next_6 : decode cX9_next 6 = .ok (.iload_n 1, 1) := by decide +kernel
theorem dX9_next_7 : decode cX9_next 7 = .ok (.iload_n 2, 1) := by decide +kernel
theorem dX9_next_8 : decode cX9_next 8 = .ok (.invokevirtual 287, 3) := by decide +kernel
theorem dX9_next_11 : decode cX9_next 11 = .ok (.ifCond .eq 10, 3) := by decide +kernel
theorem dX9_next_14 : decode cX9_next 14 = .ok (.iload_n 3, 1) := by decide +kernel
theorem dX9_next_15 : decode cX9_next 15 = .ok (.invokestatic 320, 3) := by decide +kernel
theorem dX9_next_18 : decode cX9_next 18 = .ok (.ifCond .ne 5, 3) := by decide +kernel
theorem dX9_next_21 : decode cX9_next 21 = .ok (.iconst (-1), 1) := by decide +kernel
theorem dX9_next_22 : decode cX9_next 22 = .ok (.ireturn, 1) := by decide +kernel
theorem dX9_next_23 : decode cX9_next 23 = .ok (.aload_n 0, 1) := by decide +kernel
theorem dX9_next_24 : decode cX9_next 24 = .ok (.invokevirtual 290, 3) := by decide +kernel
theorem dX9_next_27 : decode cX9_next 27 = .ok (.aload_n 0, 1) := by decide +kernel
theorem dX9_next_28 : decode cX9_next 28 = .ok (.iload_n 1, 1) := by decide +kernel
theorem dX9_next_29 : decode cX9_next 29 = .ok (.iload_n 2, 1) := by decide +kernel
theorem dX9_next_30 : decode cX9_next 30 = .ok (.iload_n 3, 1) := by decide +kernel
theorem dX9_next_31 : decode cX9_next 31 = .ok (.iconst 4, 1) := by decide +kernel
theorem dX9_next_32 : decode cX9_next 32 = .ok (.invokevirtual 316, 3) := by decide +kernel
theorem dX9_next_35 : decode cX9_next 35 = .ok (.istore 4, 2) := by decide +kernel
theorem dX9_next_37 : decode cX9_next 37 = .ok (.aload_n 0, 1) := by decide +kernel
theorem dX9_next_38 : decode cX9_next 38 = .ok (.iload_n 1, 1) := by decide +kernel
theorem dX9_next_39 : decode cX9_next 39 = .ok (.iload_n 2, 1) := by decide +kernel
theorem dX9_next_40 : decode cX9_next 40 = .ok (.invokevirtual 274, 3) := by decide +kernel
theorem dX9_next_43 : decode cX9_next 43 = .ok (.iconst (-1), 1) := by decide +kernel
theorem dX9_next_44 : decode cX9_next 44 = .ok (.istore 5, 2) := by decide +kernel
theorem dX9_next_46 : decode cX9_next 46 = .ok (.iconst 0, 1) := by decide +kernel
theorem dX9_next_47 : decode cX9_next 47 = .ok (.istore 6, 2) := by decide +kernel
theorem dX9_next_49 : decode cX9_next 49 = .ok (.iload 6, 2) := by decide +kernel
theorem dX9_next_51 : decode cX9_next 51 = .ok (.aload_n 0, 1) := by decide +kernel
theorem dX9_next_52 : decode cX9_next 52 = .ok (.getfield 267, 3) := by decide +kernel
theorem dX9_next_55 : decode cX9_next 55 = .ok (.if_icmp .ge 53, 3) := by decide +kernel
theorem dX9_next_58 : decode cX9_next 58 = .ok (.aload_n 0, 1) := by decide +kernel
theorem dX9_next_59 : decode cX9_next 59 = .ok (.getfield 45, 3) := by decide +kernel
theorem dX9_next_62 : decode cX9_next 62 = .ok (.iload 6, 2) := by decide +kernel
theorem dX9_next_64 : decode cX9_next 64 = .ok (.iaload, 1) := by decide +kernel
theorem dX9_next_65 : decode cX9_next 65 = .ok (.iload_n 3, 1) := by decide +kernel
theorem dX9_next_66 : decode cX9_next 66 = .ok (.if_icmp .lt 36, 3) := by decide +kernel
theorem dX9_next_69 : decode cX9_next 69 = .ok (.aload_n 0, 1) := by decide +kernel
theorem dX9_next_70 : decode cX9_next 70 = .ok (.getfield 48, 3) := by decide +kernel
theorem dX9_next_73 : decode cX9_next 73 = .ok (.iload 6, 2) := by decide +kernel
theorem dX9_next_75 : decode cX9_next 75 = .ok (.iaload, 1) := by decide +kernel
theorem dX9_next_76 : decode cX9_next 76 = .ok (.iload 4, 2) := by decide +kernel
theorem dX9_next_78 : decode cX9_next 78 = .ok (.if_icmp .ne 24, 3) := by decide +kernel
theorem dX9_next_81 : decode cX9_next 81 = .ok (.aload_n 0, 1) := by decide +kernel
theorem dX9_next_82 : decode cX9_next 82 = .ok (.getfield 45, 3) := by decide +kernel
theorem dX9_next_85 : decode cX9_next 85 = .ok (.iload 6, 2) := by decide +kernel
theorem dX9_next_87 : decode cX9_next 87 = .ok (.iaload, 1) := by decide +kernel
theorem dX9_next_88 : decode cX9_next 88 = .ok (.iload 5, 2) := by decide +kernel
theorem dX9_next_90 : decode cX9_next 90 = .ok (.if_icmp .le 12, 3) := by decide +kernel
theorem dX9_next_93 : decode cX9_next 93 = .ok (.aload_n 0, 1) := by decide +kernel
theorem dX9_next_94 : decode cX9_next 94 = .ok (.getfield 45, 3) := by decide +kernel
theorem dX9_next_97 : decode cX9_next 97 = .ok (.iload 6, 2) := by decide +kernel
theorem dX9_next_99 : decode cX9_next 99 = .ok (.iaload, 1) := by decide +kernel
theorem dX9_next_100 : decode cX9_next 100 = .ok (.istore 5, 2) := by decide +kernel
theorem dX9_next_102 : decode cX9_next 102 = .ok (.iinc 6 1, 3) := by decide +kernel
theorem dX9_next_105 : decode cX9_next 105 = .ok (.goto (-56), 3) := by decide +kernel
theorem dX9_next_108 : decode cX9_next 108 = .ok (.iload 5, 2) := by decide +kernel
theorem dX9_next_110 : decode cX9_next 110 = .ok (.iconst (-1), 1) := by decide +kernel
theorem dX9_next_111 : decode cX9_next 111 = .ok (.if_icmp .ne 6, 3) := by decide +kernel
theorem dX9_next_114 : decode cX9_next 114 = .ok (.bipush (-2), 2) := by decide +kernel
theorem dX9_next_116 : decode cX9_next 116 = .ok (.ireturn, 1) := by decide +kernel
theorem dX9_next_117 : decode cX9_next 117 = .ok (.ldc 175, 2) := by decide +kernel
theorem dX9_next_119 : decode cX9_next 119 = .ok (.istore 6, 2) := by decide +kernel
theorem dX9_next_121 : decode cX9_next 121 = .ok (.iconst 0, 1) := by decide +kernel
theorem dX9_next_122 : decode cX9_next 122 = .ok (.istore 7, 2) := by decide +kernel
theorem dX9_next_124 : decode cX9_next 124 = .ok (.iload 7, 2) := by decide +kernel
theorem dX9_next_126 : decode cX9_next 126 = .ok (.aload_n 0, 1) := by decide +kernel
theorem dX9_next_127 : decode cX9_next 127 = .ok (.getfield 267, 3) := by decide +kernel
theorem dX9_next_130 : decode cX9_next 130 = .ok (.if_icmp .ge 42, 3) := by decide +kernel
theorem dX9_next_133 : decode cX9_next 133 = .ok (.aload_n 0, 1) := by decide +kernel
theorem dX9_next_134 : decode cX9_next 134 = .ok (.getfield 45, 3) := by decide +kernel
theorem dX9_next_137 : decode cX9_next 137 = .ok (.iload 7, 2) := by decide +kernel
theorem dX9_next_139 : decode cX9_next 139 = .ok (.iaload, 1) := by decide +kernel
theorem dX9_next_140 : decode cX9_next 140 = .ok (.iload 5, 2) := by decide +kernel
theorem dX9_next_142 : decode cX9_next 142 = .ok (.if_icmp .le 24, 3) := by decide +kernel
theorem dX9_next_145 : decode cX9_next 145 = .ok (.aload_n 0, 1) := by decide +kernel
theorem dX9_next_146 : decode cX9_next 146 = .ok (.getfield 48, 3) := by decide +kernel
theorem dX9_next_149 : decode cX9_next 149 = .ok (.iload 7, 2) := by decide +kernel
theorem dX9_next_151 : decode cX9_next 151 = .ok (.iaload, 1) := by decide +kernel
theorem dX9_next_152 : decode cX9_next 152 = .ok (.iload 6, 2) := by decide +kernel
theorem dX9_next_154 : decode cX9_next 154 = .ok (.if_icmp .ge 12, 3) := by decide +kernel
theorem dX9_next_157 : decode cX9_next 157 = .ok (.aload_n 0, 1) := by decide +kernel
theorem dX9_next_158 : decode cX9_next 158 = .ok (.getfield 48, 3) := by decide +kernel
theorem dX9_next_161 : decode cX9_next 161 = .ok (.iload 7, 2) := by decide +kernel
theorem dX9_next_163 : decode cX9_next 163 = .ok (.iaload, 1) := by decide +kernel
theorem dX9_next_164 : decode cX9_next 164 = .ok (.istore 6, 2) := by decide +kernel
theorem dX9_next_166 : decode cX9_next 166 = .ok (.iinc 7 1, 3) := by decide +kernel
theorem dX9_next_169 : decode cX9_next 169 = .ok (.goto (-45), 3) := by decide +kernel
theorem dX9_next_172 : decode cX9_next 172 = .ok (.iload 6, 2) := by decide +kernel
theorem dX9_next_174 : decode cX9_next 174 = .ok (.invokestatic 326, 3) := by decide +kernel
theorem dX9_next_177 : decode cX9_next 177 = .ok (.ireturn, 1) := by decide +kernel
theorem dX9_number_0 : decode cX9_number 0 = .ok (.aload_n 0, 1) := by decide +kernel
theorem dX9_number_1 : decode cX9_number 1 = .ok (.iload_n 1, 1) := by decide +kernel
theorem dX9_number_2 : decode cX9_number 2 = .ok (.iload_n 2, 1) := by decide +kernel
theorem dX9_number_3 : decode cX9_number 3 = .ok (.invokevirtual 145, 3) := by decide +kernel
theorem dX9_number_6 : decode cX9_number 6 = .ok (.istore_n 3, 1) := by decide +kernel
theorem dX9_number_7 : decode cX9_number 7 = .ok (.aload_n 0, 1) := by decide +kernel
theorem dX9_number_8 : decode cX9_number 8 = .ok (.invokevirtual 149, 3) := by decide +kernel
theorem dX9_number_11 : decode cX9_number 11 = .ok (.iload_n 3, 1) := by decide +kernel
theorem dX9_number_12 : decode cX9_number 12 = .ok (.ireturn, 1) := by decide +kernel
theorem dX9_numberHere_0 : decode cX9_numberHere 0 = .ok (.aload_n 0, 1) := by decide +kernel
theorem dX9_numberHere_1 : decode cX9_numberHere 1 = .ok (.getfield 132, 3) := by decide +kernel
theorem dX9_numberHere_4 : decode cX9_numberHere 4 = .ok (.ifCond .ne 16, 3) := by decide +kernel
theorem dX9_numberHere_7 : decode cX9_numberHere 7 = .ok (.aload_n 0, 1) := by decide +kernel
theorem dX9_numberHere_8 : decode cX9_numberHere 8 = .ok (.getfield 104, 3) := by decide +kernel
theorem dX9_numberHere_11 : decode cX9_numberHere 11 = .ok (.iconst 1, 1) := by decide +kernel
theorem dX9_numberHere_12 : decode cX9_numberHere 12 = .ok (.if_icmp .eq 8, 3) := by decide +kernel
theorem dX9_numberHere_15 : decode cX9_numberHere 15 = .ok (.aload_n 0, 1) := by decide +kernel
theorem dX9_numberHere_16 : decode cX9_numberHere 16 = .ok (.iconst 1, 1) := by decide +kernel
theorem dX9_numberHere_17 : decode cX9_numberHere 17 = .ok (.invokevirtual 141, 3) := by decide +kernel
theorem dX9_numberHere_20 : decode cX9_numberHere 20 = .ok (.aload_n 0, 1) := by decide +kernel
theorem dX9_numberHere_21 : decode cX9_numberHere 21 = .ok (.getfield 132, 3) := by decide +kernel
theorem dX9_numberHere_24 : decode cX9_numberHere 24 = .ok (.ifCond .ne 24, 3) := by decide +kernel
theorem dX9_numberHere_27 : decode cX9_numberHere 27 = .ok (.aload_n 0, 1) := by decide +kernel
theorem dX9_numberHere_28 : decode cX9_numberHere 28 = .ok (.getfield 117, 3) := by decide +kernel
theorem dX9_numberHere_31 : decode cX9_numberHere 31 = .ok (.iload_n 1, 1) := by decide +kernel
theorem dX9_numberHere_32 : decode cX9_numberHere 32 = .ok (.if_icmp .lt 11, 3) := by decide +kernel
theorem dX9_numberHere_35 : decode cX9_numberHere 35 = .ok (.aload_n 0, 1) := by decide +kernel
theorem dX9_numberHere_36 : decode cX9_numberHere 36 = .ok (.getfield 117, 3) := by decide +kernel
theorem dX9_numberHere_39 : decode cX9_numberHere 39 = .ok (.iload_n 2, 1) := by decide +kernel
theorem dX9_numberHere_40 : decode cX9_numberHere 40 = .ok (.if_icmp .le 8, 3) := by decide +kernel
theorem dX9_numberHere_43 : decode cX9_numberHere 43 = .ok (.aload_n 0, 1) := by decide +kernel
theorem dX9_numberHere_44 : decode cX9_numberHere 44 = .ok (.iconst 2, 1) := by decide +kernel
theorem dX9_numberHere_45 : decode cX9_numberHere 45 = .ok (.invokevirtual 141, 3) := by decide +kernel
theorem dX9_numberHere_48 : decode cX9_numberHere 48 = .ok (.aload_n 0, 1) := by decide +kernel
theorem dX9_numberHere_49 : decode cX9_numberHere 49 = .ok (.getfield 132, 3) := by decide +kernel
theorem dX9_numberHere_52 : decode cX9_numberHere 52 = .ok (.ifCond .ne 10, 3) := by decide +kernel
theorem dX9_numberHere_55 : decode cX9_numberHere 55 = .ok (.aload_n 0, 1) := by decide +kernel
theorem dX9_numberHere_56 : decode cX9_numberHere 56 = .ok (.getfield 117, 3) := by decide +kernel
theorem dX9_numberHere_59 : decode cX9_numberHere 59 = .ok (.goto 4, 3) := by decide +kernel
theorem dX9_numberHere_62 : decode cX9_numberHere 62 = .ok (.iload_n 1, 1) := by decide +kernel
theorem dX9_numberHere_63 : decode cX9_numberHere 63 = .ok (.ireturn, 1) := by decide +kernel
theorem dX9_orNot_0 : decode cX9_orNot 0 = .ok (.iload_n 0, 1) := by decide +kernel
theorem dX9_orNot_1 : decode cX9_orNot 1 = .ok (.ldc 175, 2) := by decide +kernel
theorem dX9_orNot_3 : decode cX9_orNot 3 = .ok (.if_icmp .lt 8, 3) := by decide +kernel
theorem dX9_orNot_6 : decode cX9_orNot 6 = .ok (.bipush (-2), 2) := by decide +kernel
theorem dX9_orNot_8 : decode cX9_orNot 8 = .ok (.goto 4, 3) := by decide +kernel
theorem dX9_orNot_11 : decode cX9_orNot 11 = .ok (.iload_n 0, 1) := by decide +kernel
theorem dX9_orNot_12 : decode cX9_orNot 12 = .ok (.ireturn, 1) := by decide +kernel
theorem dX9_others_0 : decode cX9_others 0 = .ok (.iconst 0, 1) := by decide +kernel
theorem dX9_others_1 : decode cX9_others 1 = .ok (.istore_n 1, 1) := by decide +kernel
theorem dX9_others_2 : decode cX9_others 2 = .ok (.iconst 0, 1) := by decide +kernel
theorem dX9_others_3 : decode cX9_others 3 = .ok (.istore_n 2, 1) := by decide +kernel
theorem dX9_others_4 : decode cX9_others 4 = .ok (.iload_n 2, 1) := by decide +kernel
theorem dX9_others_5 : decode cX9_others 5 = .ok (.aload_n 0, 1) := by decide +kernel
theorem dX9_others_6 : decode cX9_others 6 = .ok (.invokevirtual 198, 3) := by decide +kernel
theorem dX9_others_9 : decode cX9_others 9 = .ok (.if_icmp .ge 26, 3) := by decide +kernel
theorem dX9_others_12 : decode cX9_others 12 = .ok (.iload_n 1, 1) := by decide +kernel
theorem dX9_others_13 : decode cX9_others 13 = .ok (.aload_n 0, 1) := by decide +kernel
theorem dX9_others_14 : decode cX9_others 14 = .ok (.getfield 26, 3) := by decide +kernel
theorem dX9_others_17 : decode cX9_others 17 = .ok (.iload_n 2, 1) := by decide +kernel
theorem dX9_others_18 : decode cX9_others 18 = .ok (.iaload, 1) := by decide +kernel
theorem dX9_others_19 : decode cX9_others 19 = .ok (.ifCond .ne 7, 3) := by decide +kernel
theorem dX9_others_22 : decode cX9_others 22 = .ok (.iconst 0, 1) := by decide +kernel
theorem dX9_others_23 : decode cX9_others 23 = .ok (.goto 4, 3) := by decide +kernel
theorem dX9_others_26 : decode cX9_others 26 = .ok (.iconst 1, 1) := by decide +kernel
theorem dX9_others_27 : decode cX9_others 27 = .ok (.iadd, 1) := by decide +kernel
theorem dX9_others_28 : decode cX9_others 28 = .ok (.istore_n 1, 1) := by decide +kernel
theorem dX9_others_29 : decode cX9_others 29 = .ok (.iinc 2 1, 3) := by decide +kernel
theorem dX9_others_32 : decode cX9_others 32 = .ok (.goto (-28), 3) := by decide +kernel
theorem dX9_others_35 : decode cX9_others 35 = .ok (.iload_n 1, 1) := by decide +kernel
theorem dX9_others_36 : decode cX9_others 36 = .ok (.ireturn, 1) := by decide +kernel
theorem dX9_plan_0 : decode cX9_plan 0 = .ok (.aload_n 0, 1) := by decide +kernel
theorem dX9_plan_1 : decode cX9_plan 1 = .ok (.iconst 0, 1) := by decide +kernel
theorem dX9_plan_2 : decode cX9_plan 2 = .ok (.putfield 85, 3) := by decide +kernel
theorem dX9_plan_5 : decode cX9_plan 5 = .ok (.aload_n 0, 1) := by decide +kernel
theorem dX9_plan_6 : decode cX9_plan 6 = .ok (.iload_n 1, 1) := by decide +kernel
theorem dX9_plan_7 : decode cX9_plan 7 = .ok (.invokevirtual 204, 3) := by decide +kernel
theorem dX9_plan_10 : decode cX9_plan 10 = .ok (.ifCond .eq 11, 3) := by decide +kernel
theorem dX9_plan_13 : decode cX9_plan 13 = .ok (.aload_n 0, 1) := by decide +kernel
theorem dX9_plan_14 : decode cX9_plan 14 = .ok (.iload_n 2, 1) := by decide +kernel
theorem dX9_plan_15 : decode cX9_plan 15 = .ok (.invokevirtual 204, 3) := by decide +kernel
theorem dX9_plan_18 : decode cX9_plan 18 = .ok (.ifCond .ne 5, 3) := by decide +kernel
theorem dX9_plan_21 : decode cX9_plan 21 = .ok (.iconst (-1), 1) := by decide +kernel
theorem dX9_plan_22 : decode cX9_plan 22 = .ok (.ireturn, 1) := by decide +kernel
theorem dX9_plan_23 : decode cX9_plan 23 = .ok (.aload_n 0, 1) := by decide +kernel
theorem dX9_plan_24 : decode cX9_plan 24 = .ok (.iload_n 1, 1) := by decide +kernel
theorem dX9_plan_25 : decode cX9_plan 25 = .ok (.iconst 0, 1) := by decide +kernel
theorem dX9_plan_26 : decode cX9_plan 26 = .ok (.invokevirtual 201, 3) := by decide +kernel
theorem dX9_plan_29 : decode cX9_plan 29 = .ok (.aload_n 0, 1) := by decide +kernel
theorem dX9_plan_30 : decode cX9_plan 30 = .ok (.iload_n 2, 1) := by decide +kernel
theorem dX9_plan_31 : decode cX9_plan 31 = .ok (.iconst 0, 1) := by decide +kernel
theorem dX9_plan_32 : decode cX9_plan 32 = .ok (.invokevirtual 201, 3) := by decide +kernel
theorem dX9_plan_35 : decode cX9_plan 35 = .ok (.if_icmp .ne 8, 3) := by decide +kernel
theorem dX9_plan_38 : decode cX9_plan 38 = .ok (.iload_n 2, 1) := by decide +kernel
theorem dX9_plan_39 : decode cX9_plan 39 = .ok (.iload_n 1, 1) := by decide +kernel
theorem dX9_plan_40 : decode cX9_plan 40 = .ok (.if_icmp .ge 6, 3) := by decide +kernel
theorem dX9_plan_43 : decode cX9_plan 43 = .ok (.bipush (-2), 2) := by decide +kernel
theorem dX9_plan_45 : decode cX9_plan 45 = .ok (.ireturn, 1) := by decide +kernel
theorem dX9_plan_46 : decode cX9_plan 46 = .ok (.aload_n 0, 1) := by decide +kernel
theorem dX9_plan_47 : decode cX9_plan 47 = .ok (.getfield 186, 3) := by decide +kernel
theorem dX9_plan_50 : decode cX9_plan 50 = .ok (.bipush 6, 2) := by decide +kernel
theorem dX9_plan_52 : decode cX9_plan 52 = .ok (.if_icmp .ne 6, 3) := by decide +kernel
theorem dX9_plan_55 : decode cX9_plan 55 = .ok (.bipush (-3), 2) := by decide +kernel
theorem dX9_plan_57 : decode cX9_plan 57 = .ok (.ireturn, 1) := by decide +kernel
theorem dX9_plan_58 : decode cX9_plan 58 = .ok (.aload_n 0, 1) := by decide +kernel
theorem dX9_plan_59 : decode cX9_plan 59 = .ok (.getfield 73, 3) := by decide +kernel
theorem dX9_plan_62 : decode cX9_plan 62 = .ok (.aload_n 0, 1) := by decide +kernel
theorem dX9_plan_63 : decode cX9_plan 63 = .ok (.getfield 186, 3) := by decide +kernel
theorem dX9_plan_66 : decode cX9_plan 66 = .ok (.iload_n 1, 1) := by decide +kernel
theorem dX9_plan_67 : decode cX9_plan 67 = .ok (.iastore, 1) := by decide +kernel
theorem dX9_plan_68 : decode cX9_plan 68 = .ok (.aload_n 0, 1) := by decide +kernel
theorem dX9_plan_69 : decode cX9_plan 69 = .ok (.getfield 76, 3) := by decide +kernel
theorem dX9_plan_72 : decode cX9_plan 72 = .ok (.aload_n 0, 1) := by decide +kernel
theorem dX9_plan_73 : decode cX9_plan 73 = .ok (.getfield 186, 3) := by decide +kernel
theorem dX9_plan_76 : decode cX9_plan 76 = .ok (.iload_n 2, 1) := by decide +kernel
theorem dX9_plan_77 : decode cX9_plan 77 = .ok (.iastore, 1) := by decide +kernel
theorem dX9_plan_78 : decode cX9_plan 78 = .ok (.aload_n 0, 1) := by decide +kernel
theorem dX9_plan_79 : decode cX9_plan 79 = .ok (.dup, 1) := by decide +kernel
theorem dX9_plan_80 : decode cX9_plan 80 = .ok (.getfield 186, 3) := by decide +kernel
theorem dX9_plan_83 : decode cX9_plan 83 = .ok (.iconst 1, 1) := by decide +kernel
theorem dX9_plan_84 : decode cX9_plan 84 = .ok (.iadd, 1) := by decide +kernel
theorem dX9_plan_85 : decode cX9_plan 85 = .ok (.putfield 186, 3) := by decide +kernel
theorem dX9_plan_88 : decode cX9_plan 88 = .ok (.aload_n 0, 1) := by decide +kernel
theorem dX9_plan_89 : decode cX9_plan 89 = .ok (.getfield 186, 3) := by decide +kernel
theorem dX9_plan_92 : decode cX9_plan 92 = .ok (.ireturn, 1) := by decide +kernel
theorem dX9_planAnew_0 : decode cX9_planAnew 0 = .ok (.aload_n 0, 1) := by decide +kernel
theorem dX9_planAnew_1 : decode cX9_planAnew 1 = .ok (.iconst 0, 1) := by decide +kernel
theorem dX9_planAnew_2 : decode cX9_planAnew 2 = .ok (.putfield 85, 3) := by decide +kernel
theorem dX9_planAnew_5 : decode cX9_planAnew 5 = .ok (.aload_n 0, 1) := by decide +kernel
theorem dX9_planAnew_6 : decode cX9_planAnew 6 = .ok (.getfield 186, 3) := by decide +kernel
theorem dX9_planAnew_9 : decode cX9_planAnew 9 = .ok (.istore_n 1, 1) := by decide +kernel
theorem dX9_planAnew_10 : decode cX9_planAnew 10 = .ok (.aload_n 0, 1) := by decide +kernel
theorem dX9_planAnew_11 : decode cX9_planAnew 11 = .ok (.iconst 0, 1) := by decide +kernel
theorem dX9_planAnew_12 : decode cX9_planAnew 12 = .ok (.putfield 186, 3) := by decide +kernel
theorem dX9_planAnew_15 : decode cX9_planAnew 15 = .ok (.iload_n 1, 1) := by decide +kernel
theorem dX9_planAnew_16 : decode cX9_planAnew 16 = .ok (.ireturn, 1) := by decide +kernel
theorem dX9_planAs_0 : decode cX9_planAs 0 = .ok (.aload_n 0, 1) := by decide +kernel
theorem dX9_planAs_1 : decode cX9_planAs 1 = .ok (.iconst 0, 1) := by decide +kernel
theorem dX9_planAs_2 : decode cX9_planAs 2 = .ok (.putfield 85, 3) := by decide +kernel
theorem dX9_planAs_5 : decode cX9_planAs 5 = .ok (.aload_n 0, 1) := by decide +kernel
theorem dX9_planAs_6 : decode cX9_planAs 6 = .ok (.iload_n 1, 1) := by decide +kernel
theorem dX9_planAs_7 : decode cX9_planAs 7 = .ok (.iload_n 2, 1) := by decide +kernel
theorem dX9_planAs_8 : decode cX9_planAs 8 = .ok (.invokevirtual 287, 3) := by decide +kernel
theorem dX9_planAs_11 : decode cX9_planAs 11 = .ok (.ifCond .eq 7, 3) := by decide +kernel
theorem dX9_planAs_14 : decode cX9_planAs 14 = .ok (.iload_n 3, 1) := by decide +kernel
theorem dX9_planAs_15 : decode cX9_planAs 15 = .ok (.ifCond .ge 5, 3) := by decide +kernel
theorem dX9_planAs_18 : decode cX9_planAs 18 = .ok (.iconst (-1), 1) := by decide +kernel
theorem dX9_planAs_19 : decode cX9_planAs 19 = .ok (.ireturn, 1) := by decide +kernel
theorem dX9_planAs_20 : decode cX9_planAs 20 = .ok (.aload_n 0, 1) := by decide +kernel
theorem dX9_planAs_21 : decode cX9_planAs 21 = .ok (.invokevirtual 290, 3) := by decide +kernel
theorem dX9_planAs_24 : decode cX9_planAs 24 = .ok (.aload_n 0, 1) := by decide +kernel
theorem dX9_planAs_25 : decode cX9_planAs 25 = .ok (.iload_n 1, 1) := by decide +kernel
theorem dX9_planAs_26 : decode cX9_planAs 26 = .ok (.iload_n 2, 1) := by decide +kernel
theorem dX9_planAs_27 : decode cX9_planAs 27 = .ok (.invokevirtual 293, 3) := by decide +kernel
theorem dX9_planAs_30 : decode cX9_planAs 30 = .ok (.iload_n 3, 1) := by decide +kernel
theorem dX9_planAs_31 : decode cX9_planAs 31 = .ok (.aload_n 0, 1) := by decide +kernel
theorem dX9_planAs_32 : decode cX9_planAs 32 = .ok (.getfield 278, 3) := by decide +kernel
theorem dX9_planAs_35 : decode cX9_planAs 35 = .ok (.if_icmp .lt 6, 3) := by decide +kernel
theorem dX9_planAs_38 : decode cX9_planAs 38 = .ok (.bipush (-2), 2) := by decide +kernel
theorem dX9_planAs_40 : decode cX9_planAs 40 = .ok (.ireturn, 1) := by decide +kernel
theorem dX9_planAs_41 : decode cX9_planAs 41 = .ok (.aload_n 0, 1) := by decide +kernel
theorem dX9_planAs_42 : decode cX9_planAs 42 = .ok (.iload_n 1, 1) := by decide +kernel
theorem dX9_planAs_43 : decode cX9_planAs 43 = .ok (.iload_n 2, 1) := by decide +kernel
theorem dX9_planAs_44 : decode cX9_planAs 44 = .ok (.aload_n 0, 1) := by decide +kernel
theorem dX9_planAs_45 : decode cX9_planAs 45 = .ok (.getfield 54, 3) := by decide +kernel
theorem dX9_planAs_48 : decode cX9_planAs 48 = .ok (.iload_n 3, 1) := by decide +kernel
theorem dX9_planAs_49 : decode cX9_planAs 49 = .ok (.iaload, 1) := by decide +kernel
theorem dX9_planAs_50 : decode cX9_planAs 50 = .ok (.invokevirtual 299, 3) := by decide +kernel
theorem dX9_planAs_53 : decode cX9_planAs 53 = .ok (.aload_n 0, 1) := by decide +kernel
theorem dX9_planAs_54 : decode cX9_planAs 54 = .ok (.aload_n 0, 1) := by decide +kernel
theorem dX9_planAs_55 : decode cX9_planAs 55 = .ok (.getfield 51, 3) := by decide +kernel
theorem dX9_planAs_58 : decode cX9_planAs 58 = .ok (.aload_n 0, 1) := by decide +kernel
theorem dX9_planAs_59 : decode cX9_planAs 59 = .ok (.getfield 54, 3) := by decide +kernel
theorem dX9_planAs_62 : decode cX9_planAs 62 = .ok (.iload_n 3, 1) := by decide +kernel
theorem dX9_planAs_63 : decode cX9_planAs 63 = .ok (.iaload, 1) := by decide +kernel
theorem dX9_planAs_64 : decode cX9_planAs 64 = .ok (.iaload, 1) := by decide +kernel
theorem dX9_planAs_65 : decode cX9_planAs 65 = .ok (.iconst 1, 1) := by decide +kernel
theorem dX9_planAs_66 : decode cX9_planAs 66 = .ok (.iadd, 1) := by decide +kernel
theorem dX9_planAs_67 : decode cX9_planAs 67 = .ok (.putfield 186, 3) := by decide +kernel
theorem dX9_planAs_70 : decode cX9_planAs 70 = .ok (.iconst 0, 1) := by decide +kernel
theorem dX9_planAs_71 : decode cX9_planAs 71 = .ok (.istore 4, 2) := by decide +kernel
theorem dX9_planAs_73 : decode cX9_planAs 73 = .ok (.iload 4, 2) := by decide +kernel
theorem dX9_planAs_75 : decode cX9_planAs 75 = .ok (.aload_n 0, 1) := by decide +kernel
theorem dX9_planAs_76 : decode cX9_planAs 76 = .ok (.getfield 186, 3) := by decide +kernel
theorem dX9_planAs_79 : decode cX9_planAs 79 = .ok (.if_icmp .ge 37, 3) := by decide +kernel
theorem dX9_planAs_82 : decode cX9_planAs 82 = .ok (.aload_n 0, 1) := by decide +kernel
theorem dX9_planAs_83 : decode cX9_planAs 83 = .ok (.getfield 73, 3) := by decide +kernel
theorem dX9_planAs_86 : decode cX9_planAs 86 = .ok (.iload 4, 2) := by decide +kernel
theorem dX9_planAs_88 : decode cX9_planAs 88 = .ok (.aload_n 0, 1) := by decide +kernel
theorem dX9_planAs_89 : decode cX9_planAs 89 = .ok (.getfield 64, 3) := by decide +kernel
theorem dX9_planAs_92 : decode cX9_planAs 92 = .ok (.iload 4, 2) := by decide +kernel
theorem dX9_planAs_94 : decode cX9_planAs 94 = .ok (.iaload, 1) := by decide +kernel
theorem dX9_planAs_95 : decode cX9_planAs 95 = .ok (.iastore, 1) := by decide +kernel
theorem dX9_planAs_96 : decode cX9_planAs 96 = .ok (.aload_n 0, 1) := by decide +kernel
theorem dX9_planAs_97 : decode cX9_planAs 97 = .ok (.getfield 76, 3) := by decide +kernel
theorem dX9_planAs_100 : decode cX9_planAs 100 = .ok (.iload 4, 2) := by decide +kernel
theorem dX9_planAs_102 : decode cX9_planAs 102 = .ok (.aload_n 0, 1) := by decide +kernel
theorem dX9_planAs_103 : decode cX9_planAs 103 = .ok (.getfield 67, 3) := by decide +kernel
theorem dX9_planAs_106 : decode cX9_planAs 106 = .ok (.iload 4, 2) := by decide +kernel
theorem dX9_planAs_108 : decode cX9_planAs 108 = .ok (.iaload, 1) := by decide +kernel
theorem dX9_planAs_109 : decode cX9_planAs 109 = .ok (.iastore, 1) := by decide +kernel
theorem dX9_planAs_110 : decode cX9_planAs 110 = .ok (.iinc 4 1, 3) := by decide +kernel
theorem dX9_planAs_113 : decode cX9_planAs 113 = .ok (.goto (-40), 3) := by decide +kernel
theorem dX9_planAs_116 : decode cX9_planAs 116 = .ok (.aload_n 0, 1) := by decide +kernel
theorem dX9_planAs_117 : decode cX9_planAs 117 = .ok (.getfield 186, 3) := by decide +kernel
theorem dX9_planAs_120 : decode cX9_planAs 120 = .ok (.ireturn, 1) := by decide +kernel
theorem dX9_profile_0 : decode cX9_profile 0 = .ok (.aload_n 0, 1) := by decide +kernel
theorem dX9_profile_1 : decode cX9_profile 1 = .ok (.iconst 0, 1) := by decide +kernel
theorem dX9_profile_2 : decode cX9_profile 2 = .ok (.putfield 85, 3) := by decide +kernel
theorem dX9_profile_5 : decode cX9_profile 5 = .ok (.aload_n 0, 1) := by decide +kernel
theorem dX9_profile_6 : decode cX9_profile 6 = .ok (.iload_n 1, 1) := by decide +kernel
theorem dX9_profile_7 : decode cX9_profile 7 = .ok (.iload_n 2, 1) := by decide +kernel
theorem dX9_profile_8 : decode cX9_profile 8 = .ok (.invokevirtual 287, 3) := by decide +kernel
theorem dX9_profile_11 : decode cX9_profile 11 = .ok (.ifCond .ne 5, 3) := by decide +kernel
theorem dX9_profile_14 : decode cX9_profile 14 = .ok (.iconst (-1), 1) := by decide +kernel
theorem dX9_profile_15 : decode cX9_profile 15 = .ok (.ireturn, 1) := by decide +kernel
theorem dX9_profile_16 : decode cX9_profile 16 = .ok (.aload_n 0, 1) := by decide +kernel
theorem dX9_profile_17 : decode cX9_profile 17 = .ok (.invokevirtual 290, 3) := by decide +kernel
theorem dX9_profile_20 : decode cX9_profile 20 = .ok (.aload_n 0, 1) := by decide +kernel
theorem dX9_profile_21 : decode cX9_profile 21 = .ok (.iload_n 1, 1) := by decide +kernel
theorem dX9_profile_22 : decode cX9_profile 22 = .ok (.iload_n 2, 1) := by decide +kernel
theorem dX9_profile_23 : decode cX9_profile 23 = .ok (.invokevirtual 293, 3) := by decide +kernel
theorem dX9_profile_26 : decode cX9_profile 26 = .ok (.aload_n 0, 1) := by decide +kernel
theorem dX9_profile_27 : decode cX9_profile 27 = .ok (.getfield 278, 3) := by decide +kernel
theorem dX9_profile_30 : decode cX9_profile 30 = .ok (.ireturn, 1) := by decide +kernel
theorem dX9_profileBy_0 : decode cX9_profileBy 0 = .ok (.aload_n 0, 1) := by decide +kernel
theorem dX9_profileBy_1 : decode cX9_profileBy 1 = .ok (.iconst 0, 1) := by decide +kernel
theorem dX9_profileBy_2 : decode cX9_profileBy 2 = .ok (.putfield 85, 3) := by decide +kernel
theorem dX9_profileBy_5 : decode cX9_profileBy 5 = .ok (.aload_n 0, 1) := by decide +kernel
theorem dX9_profileBy_6 : decode cX9_profileBy 6 = .ok (.iload_n 1, 1) := by decide +kernel
theorem dX9_profileBy_7 : decode cX9_profileBy 7 = .ok (.iload_n 2, 1) := by decide +kernel
theorem dX9_profileBy_8 : decode cX9_profileBy 8 = .ok (.invokevirtual 287, 3) := by decide +kernel
theorem dX9_profileBy_11 : decode cX9_profileBy 11 = .ok (.ifCond .eq 12, 3) := by decide +kernel
theorem dX9_profileBy_14 : decode cX9_profileBy 14 = .ok (.iload_n 3, 1) := by decide +kernel
theorem dX9_profileBy_15 : decode cX9_profileBy 15 = .ok (.ifCond .lt 8, 3) := by decide +kernel
theorem dX9_profileBy_18 : decode cX9_profileBy 18 = .ok (.iload_n 3, 1) := by decide +kernel
theorem dX9_profileBy_19 : decode cX9_profileBy 19 = .ok (.iconst 4, 1) := by decide +kernel
theorem dX9_profileBy_20 : decode cX9_profileBy 20 = .ok (.if_icmp .le 5, 3) := by decide +kernel
theorem dX9_profileBy_23 : decode cX9_profileBy 23 = .ok (.iconst (-1), 1) := by decide +kernel
theorem dX9_profileBy_24 : decode cX9_profileBy 24 = .ok (.ireturn, 1) := by decide +kernel
theorem dX9_profileBy_25 : decode cX9_profileBy 25 = .ok (.aload_n 0, 1) := by decide +kernel
theorem dX9_profileBy_26 : decode cX9_profileBy 26 = .ok (.invokevirtual 290, 3) := by decide +kernel
theorem dX9_profileBy_29 : decode cX9_profileBy 29 = .ok (.aload_n 0, 1) := by decide +kernel
theorem dX9_profileBy_30 : decode cX9_profileBy 30 = .ok (.iload_n 1, 1) := by decide +kernel
theorem dX9_profileBy_31 : decode cX9_profileBy 31 = .ok (.iload_n 2, 1) := by decide +kernel
theorem dX9_profileBy_32 : decode cX9_profileBy 32 = .ok (.invokevirtual 293, 3) := by decide +kernel
theorem dX9_profileBy_35 : decode cX9_profileBy 35 = .ok (.iconst 0, 1) := by decide +kernel
theorem dX9_profileBy_36 : decode cX9_profileBy 36 = .ok (.istore 4, 2) := by decide +kernel
theorem dX9_profileBy_38 : decode cX9_profileBy 38 = .ok (.aload_n 0, 1) := by decide +kernel
theorem dX9_profileBy_39 : decode cX9_profileBy 39 = .ok (.iload_n 3, 1) := by decide +kernel
theorem dX9_profileBy_40 : decode cX9_profileBy 40 = .ok (.iload 4, 2) := by decide +kernel
theorem dX9_profileBy_42 : decode cX9_profileBy 42 = .ok (.invokevirtual 303, 3) := by decide +kernel
theorem dX9_profileBy_45 : decode cX9_profileBy 45 = .ok (.iconst (-1), 1) := by decide +kernel
theorem dX9_profileBy_46 : decode cX9_profileBy 46 = .ok (.if_icmp .eq 9, 3) := by decide +kernel
theorem dX9_profileBy_49 : decode cX9_profileBy 49 = .ok (.iinc 4 1, 3) := by decide +kernel
theorem dX9_profileBy_52 : decode cX9_profileBy 52 = .ok (.goto (-14), 3) := by decide +kernel
theorem dX9_profileBy_55 : decode cX9_profileBy 55 = .ok (.iload 4, 2) := by decide +kernel
theorem dX9_profileBy_57 : decode cX9_profileBy 57 = .ok (.ireturn, 1) := by decide +kernel
theorem dX9_quickest_0 : decode cX9_quickest 0 = .ok (.aload_n 0, 1) := by decide +kernel
theorem dX9_quickest_1 : decode cX9_quickest 1 = .ok (.iconst 0, 1) := by decide +kernel
theorem dX9_quickest_2 : decode cX9_quickest 2 = .ok (.putfield 85, 3) := by decide +kernel
theorem dX9_quickest_5 : decode cX9_quickest 5 = .ok (.aload_n 0, 1) := by decide +kernel
theorem dX9_quickest_6 : decode cX9_quickest 6 = .ok (.iload_n 1, 1) := by decide +kernel
theorem dX9_quickest_7 : decode cX9_quickest 7 = .ok (.iload_n 2, 1) := by decide +kernel
theorem dX9_quickest_8 : decode cX9_quickest 8 = .ok (.invokevirtual 287, 3) := by decide +kernel
theorem dX9_quickest_11 : decode cX9_quickest 11 = .ok (.ifCond .eq 12, 3) := by decide +kernel
theorem dX9_quickest_14 : decode cX9_quickest 14 = .ok (.iload_n 3, 1) := by decide +kernel
theorem dX9_quickest_15 : decode cX9_quickest 15 = .ok (.ifCond .lt 8, 3) := by decide +kernel
theorem dX9_quickest_18 : decode cX9_quickest 18 = .ok (.iload_n 3, 1) := by decide +kernel
theorem dX9_quickest_19 : decode cX9_quickest 19 = .ok (.iconst 1, 1) := by decide +kernel
theorem dX9_quickest_20 : decode cX9_quickest 20 = .ok (.if_icmp .le 5, 3) := by decide +kernel
theorem dX9_quickest_23 : decode cX9_quickest 23 = .ok (.iconst (-1), 1) := by decide +kernel
theorem dX9_quickest_24 : decode cX9_quickest 24 = .ok (.ireturn, 1) := by decide +kernel
theorem dX9_quickest_25 : decode cX9_quickest 25 = .ok (.aload_n 0, 1) := by decide +kernel
theorem dX9_quickest_26 : decode cX9_quickest 26 = .ok (.invokevirtual 290, 3) := by decide +kernel
theorem dX9_quickest_29 : decode cX9_quickest 29 = .ok (.aload_n 0, 1) := by decide +kernel
theorem dX9_quickest_30 : decode cX9_quickest 30 = .ok (.iload_n 1, 1) := by decide +kernel
theorem dX9_quickest_31 : decode cX9_quickest 31 = .ok (.iload_n 2, 1) := by decide +kernel
theorem dX9_quickest_32 : decode cX9_quickest 32 = .ok (.invokevirtual 293, 3) := by decide +kernel
theorem dX9_quickest_35 : decode cX9_quickest 35 = .ok (.bipush (-2), 2) := by decide +kernel
theorem dX9_quickest_37 : decode cX9_quickest 37 = .ok (.istore 4, 2) := by decide +kernel
theorem dX9_quickest_39 : decode cX9_quickest 39 = .ok (.ldc 175, 2) := by decide +kernel
theorem dX9_quickest_41 : decode cX9_quickest 41 = .ok (.istore 5, 2) := by decide +kernel
theorem dX9_quickest_43 : decode cX9_quickest 43 = .ok (.iconst 0, 1) := by decide +kernel
theorem dX9_quickest_44 : decode cX9_quickest 44 = .ok (.istore 6, 2) := by decide +kernel
theorem dX9_quickest_46 : decode cX9_quickest 46 = .ok (.iload 6, 2) := by decide +kernel
theorem dX9_quickest_48 : decode cX9_quickest 48 = .ok (.aload_n 0, 1) := by decide +kernel
theorem dX9_quickest_49 : decode cX9_quickest 49 = .ok (.getfield 278, 3) := by decide +kernel
theorem dX9_quickest_52 : decode cX9_quickest 52 = .ok (.if_icmp .ge 54, 3) := by decide +kernel
theorem dX9_quickest_55 : decode cX9_quickest 55 = .ok (.aload_n 0, 1) := by decide +kernel
theorem dX9_quickest_56 : decode cX9_quickest 56 = .ok (.getfield 48, 3) := by decide +kernel
theorem dX9_quickest_59 : decode cX9_quickest 59 = .ok (.aload_n 0, 1) := by decide +kernel
theorem dX9_quickest_60 : decode cX9_quickest 60 = .ok (.getfield 54, 3) := by decide +kernel
theorem dX9_quickest_63 : decode cX9_quickest 63 = .ok (.iload 6, 2) := by decide +kernel
theorem dX9_quickest_65 : decode cX9_quickest 65 = .ok (.iaload, 1) := by decide +kernel
theorem dX9_quickest_66 : decode cX9_quickest 66 = .ok (.iaload, 1) := by decide +kernel
theorem dX9_quickest_67 : decode cX9_quickest 67 = .ok (.aload_n 0, 1) := by decide +kernel
theorem dX9_quickest_68 : decode cX9_quickest 68 = .ok (.getfield 45, 3) := by decide +kernel
theorem dX9_quickest_71 : decode cX9_quickest 71 = .ok (.aload_n 0, 1) := by decide +kernel
theorem dX9_quickest_72 : decode cX9_quickest 72 = .ok (.getfield 54, 3) := by decide +kernel
theorem dX9_quickest_75 : decode cX9_quickest 75 = .ok (.iload 6, 2) := by decide +kernel
theorem dX9_quickest_77 : decode cX9_quickest 77 = .ok (.iaload, 1) := by decide +kernel
theorem dX9_quickest_78 : decode cX9_quickest 78 = .ok (.iaload, 1) := by decide +kernel
theorem dX9_quickest_79 : decode cX9_quickest 79 = .ok (.isub, 1) := by decide +kernel
theorem dX9_quickest_80 : decode cX9_quickest 80 = .ok (.istore 7, 2) := by decide +kernel
theorem dX9_quickest_82 : decode cX9_quickest 82 = .ok (.iload 7, 2) := by decide +kernel
theorem dX9_quickest_84 : decode cX9_quickest 84 = .ok (.iload 5, 2) := by decide +kernel
theorem dX9_quickest_86 : decode cX9_quickest 86 = .ok (.if_icmp .lt 6, 3) := by decide +kernel
theorem dX9_quickest_89 : decode cX9_quickest 89 = .ok (.goto 11, 3) := by decide +kernel
theorem dX9_quickest_92 : decode cX9_quickest 92 = .ok (.iload 6, 2) := by decide +kernel
theorem dX9_quickest_94 : decode cX9_quickest 94 = .ok (.istore 4, 2) := by decide +kernel
theorem dX9_quickest_96 : decode cX9_quickest 96 = .ok (.iload 7, 2) := by decide +kernel
theorem dX9_quickest_98 : decode cX9_quickest 98 = .ok (.istore 5, 2) := by decide +kernel
theorem dX9_quickest_100 : decode cX9_quickest 100 = .ok (.iinc 6 1, 3) := by decide +kernel
theorem dX9_quickest_103 : decode cX9_quickest 103 = .ok (.goto (-57), 3) := by decide +kernel
theorem dX9_quickest_106 : decode cX9_quickest 106 = .ok (.iload 4, 2) := by decide +kernel
theorem dX9_quickest_108 : decode cX9_quickest 108 = .ok (.bipush (-2), 2) := by decide +kernel
theorem dX9_quickest_110 : decode cX9_quickest 110 = .ok (.if_icmp .eq 7, 3) := by decide +kernel
theorem dX9_quickest_113 : decode cX9_quickest 113 = .ok (.iload_n 3, 1) := by decide +kernel
theorem dX9_quickest_114 : decode cX9_quickest 114 = .ok (.ifCond .ne 8, 3) := by decide +kernel
theorem dX9_quickest_117 : decode cX9_quickest 117 = .ok (.iload 4, 2) := by decide +kernel
theorem dX9_quickest_119 : decode cX9_quickest 119 = .ok (.goto 5, 3) := by decide +kernel
theorem dX9_quickest_122 : decode cX9_quickest 122 = .ok (.iload 5, 2) := by decide +kernel
theorem dX9_quickest_124 : decode cX9_quickest 124 = .ok (.ireturn, 1) := by decide +kernel
theorem dX9_reached_0 : decode cX9_reached 0 = .ok (.aload_n 0, 1) := by decide +kernel
theorem dX9_reached_1 : decode cX9_reached 1 = .ok (.iconst 0, 1) := by decide +kernel
theorem dX9_reached_2 : decode cX9_reached 2 = .ok (.putfield 85, 3) := by decide +kernel
theorem dX9_reached_5 : decode cX9_reached 5 = .ok (.aload_n 0, 1) := by decide +kernel
theorem dX9_reached_6 : decode cX9_reached 6 = .ok (.iload_n 1, 1) := by decide +kernel
theorem dX9_reached_7 : decode cX9_reached 7 = .ok (.invokevirtual 213, 3) := by decide +kernel
theorem dX9_reached_10 : decode cX9_reached 10 = .ok (.ifCond .eq 21, 3) := by decide +kernel
theorem dX9_reached_13 : decode cX9_reached 13 = .ok (.iload_n 2, 1) := by decide +kernel
theorem dX9_reached_14 : decode cX9_reached 14 = .ok (.invokestatic 320, 3) := by decide +kernel
theorem dX9_reached_17 : decode cX9_reached 17 = .ok (.ifCond .eq 14, 3) := by decide +kernel
theorem dX9_reached_20 : decode cX9_reached 20 = .ok (.iload_n 3, 1) := by decide +kernel
theorem dX9_reached_21 : decode cX9_reached 21 = .ok (.ifCond .lt 10, 3) := by decide +kernel
theorem dX9_reached_24 : decode cX9_reached 24 = .ok (.iload_n 3, 1) := by decide +kernel
theorem dX9_reached_25 : decode cX9_reached 25 = .ok (.sipush 2000, 3) := by decide +kernel
theorem dX9_reached_28 : decode cX9_reached 28 = .ok (.if_icmp .le 5, 3) := by decide +kernel
theorem dX9_reached_31 : decode cX9_reached 31 = .ok (.iconst (-1), 1) := by decide +kernel
theorem dX9_reached_32 : decode cX9_reached 32 = .ok (.ireturn, 1) := by decide +kernel
theorem dX9_reached_33 : decode cX9_reached 33 = .ok (.aload_n 0, 1) := by decide +kernel
theorem dX9_reached_34 : decode cX9_reached 34 = .ok (.invokevirtual 290, 3) := by decide +kernel
theorem dX9_reached_37 : decode cX9_reached 37 = .ok (.iconst 0, 1) := by decide +kernel
theorem dX9_reached_38 : decode cX9_reached 38 = .ok (.istore 4, 2) := by decide +kernel
theorem dX9_reached_40 : decode cX9_reached 40 = .ok (.iconst 0, 1) := by decide +kernel
theorem dX9_reached_41 : decode cX9_reached 41 = .ok (.istore 5, 2) := by decide +kernel
theorem dX9_reached_43 : decode cX9_reached 43 = .ok (.iload 5, 2) := by decide +kernel
theorem dX9_reached_45 : decode cX9_reached 45 = .ok (.aload_n 0, 1) := by decide +kernel
theorem dX9_reached_46 : decode cX9_reached 46 = .ok (.invokevirtual 195, 3) := by decide +kernel
theorem dX9_reached_49 : decode cX9_reached 49 = .ok (.if_icmp .ge 43, 3) := by decide +kernel
theorem dX9_reached_52 : decode cX9_reached 52 = .ok (.iload 4, 2) := by decide +kernel
theorem dX9_reached_54 : decode cX9_reached 54 = .ok (.iload 5, 2) := by decide +kernel
theorem dX9_reached_56 : decode cX9_reached 56 = .ok (.iload_n 1, 1) := by decide +kernel
theorem dX9_reached_57 : decode cX9_reached 57 = .ok (.if_icmp .eq 18, 3) := by decide +kernel
theorem dX9_reached_60 : decode cX9_reached 60 = .ok (.aload_n 0, 1) := by decide +kernel
theorem dX9_reached_61 : decode cX9_reached 61 = .ok (.iload_n 1, 1) := by decide +kernel
theorem dX9_reached_62 : decode cX9_reached 62 = .ok (.iload 5, 2) := by decide +kernel
theorem dX9_reached_64 : decode cX9_reached 64 = .ok (.iload_n 2, 1) := by decide +kernel
theorem dX9_reached_65 : decode cX9_reached 65 = .ok (.iconst 4, 1) := by decide +kernel
theorem dX9_reached_66 : decode cX9_reached 66 = .ok (.invokevirtual 316, 3) := by decide +kernel
theorem dX9_reached_69 : decode cX9_reached 69 = .ok (.iload_n 2, 1) := by decide +kernel
theorem dX9_reached_70 : decode cX9_reached 70 = .ok (.iload_n 3, 1) := by decide +kernel
theorem dX9_reached_71 : decode cX9_reached 71 = .ok (.iadd, 1) := by decide +kernel
theorem dX9_reached_72 : decode cX9_reached 72 = .ok (.if_icmp .gt 10, 3) := by decide +kernel
theorem dX9_reached_75 : decode cX9_reached 75 = .ok (.iconst 1, 1) := by decide +kernel
theorem dX9_reached_76 : decode cX9_reached 76 = .ok (.iload 5, 2) := by decide +kernel
theorem dX9_reached_78 : decode cX9_reached 78 = .ok (.ishl, 1) := by decide +kernel
theorem dX9_reached_79 : decode cX9_reached 79 = .ok (.goto 4, 3) := by decide +kernel
theorem dX9_reached_82 : decode cX9_reached 82 = .ok (.iconst 0, 1) := by decide +kernel
theorem dX9_reached_83 : decode cX9_reached 83 = .ok (.ior, 1) := by decide +kernel
theorem dX9_reached_84 : decode cX9_reached 84 = .ok (.istore 4, 2) := by decide +kernel
theorem dX9_reached_86 : decode cX9_reached 86 = .ok (.iinc 5 1, 3) := by decide +kernel
theorem dX9_reached_89 : decode cX9_reached 89 = .ok (.goto (-46), 3) := by decide +kernel
theorem dX9_reached_92 : decode cX9_reached 92 = .ok (.iload 4, 2) := by decide +kernel
theorem dX9_reached_94 : decode cX9_reached 94 = .ok (.ireturn, 1) := by decide +kernel
theorem dX9_readLine_0 : decode cX9_readLine 0 = .ok (.aload_n 0, 1) := by decide +kernel
theorem dX9_readLine_1 : decode cX9_readLine 1 = .ok (.getfield 104, 3) := by decide +kernel
theorem dX9_readLine_4 : decode cX9_readLine 4 = .ok (.ifCond .ne 10, 3) := by decide +kernel
theorem dX9_readLine_7 : decode cX9_readLine 7 = .ok (.aload_n 0, 1) := by decide +kernel
theorem dX9_readLine_8 : decode cX9_readLine 8 = .ok (.getfield 117, 3) := by decide +kernel
theorem dX9_readLine_11 : decode cX9_readLine 11 = .ok (.goto 4, 3) := by decide +kernel
theorem dX9_readLine_14 : decode cX9_readLine 14 = .ok (.iconst (-1), 1) := by decide +kernel
theorem dX9_readLine_15 : decode cX9_readLine 15 = .ok (.istore_n 1, 1) := by decide +kernel
theorem dX9_readLine_16 : decode cX9_readLine 16 = .ok (.iload_n 1, 1) := by decide +kernel
theorem dX9_readLine_17 : decode cX9_readLine 17 = .ok (.ifCond .ne 10, 3) := by decide +kernel
theorem dX9_readLine_20 : decode cX9_readLine 20 = .ok (.aload_n 0, 1) := by decide +kernel
theorem dX9_readLine_21 : decode cX9_readLine 21 = .ok (.invokevirtual 166, 3) := by decide +kernel
theorem dX9_readLine_24 : decode cX9_readLine 24 = .ok (.goto 32, 3) := by decide +kernel
theorem dX9_readLine_27 : decode cX9_readLine 27 = .ok (.iload_n 1, 1) := by decide +kernel
theorem dX9_readLine_28 : decode cX9_readLine 28 = .ok (.iconst 1, 1) := by decide +kernel
theorem dX9_readLine_29 : decode cX9_readLine 29 = .ok (.if_icmp .ne 10, 3) := by decide +kernel
theorem dX9_readLine_32 : decode cX9_readLine 32 = .ok (.aload_n 0, 1) := by decide +kernel
theorem dX9_readLine_33 : decode cX9_readLine 33 = .ok (.invokevirtual 169, 3) := by decide +kernel
theorem dX9_readLine_36 : decode cX9_readLine 36 = .ok (.goto 20, 3) := by decide +kernel
theorem dX9_readLine_39 : decode cX9_readLine 39 = .ok (.iload_n 1, 1) := by decide +kernel
theorem dX9_readLine_40 : decode cX9_readLine 40 = .ok (.iconst 2, 1) := by decide +kernel
theorem dX9_readLine_41 : decode cX9_readLine 41 = .ok (.if_icmp .ne 10, 3) := by decide +kernel
theorem dX9_readLine_44 : decode cX9_readLine 44 = .ok (.aload_n 0, 1) := by decide +kernel
theorem dX9_readLine_45 : decode cX9_readLine 45 = .ok (.invokevirtual 172, 3) := by decide +kernel
theorem dX9_readLine_48 : decode cX9_readLine 48 = .ok (.goto 8, 3) := by decide +kernel
theorem dX9_readLine_51 : decode cX9_readLine 51 = .ok (.aload_n 0, 1) := by decide +kernel
theorem dX9_readLine_52 : decode cX9_readLine 52 = .ok (.iconst 1, 1) := by decide +kernel
theorem dX9_readLine_53 : decode cX9_readLine 53 = .ok (.invokevirtual 141, 3) := by decide +kernel
theorem dX9_readLine_56 : decode cX9_readLine 56 = .ok (.aload_n 0, 1) := by decide +kernel
theorem dX9_readLine_57 : decode cX9_readLine 57 = .ok (.getfield 132, 3) := by decide +kernel
theorem dX9_readLine_60 : decode cX9_readLine 60 = .ok (.ifCond .ne 16, 3) := by decide +kernel
theorem dX9_readLine_63 : decode cX9_readLine 63 = .ok (.aload_n 0, 1) := by decide +kernel
theorem dX9_readLine_64 : decode cX9_readLine 64 = .ok (.getfield 104, 3) := by decide +kernel
theorem dX9_readLine_67 : decode cX9_readLine 67 = .ok (.iconst 2, 1) := by decide +kernel
theorem dX9_readLine_68 : decode cX9_readLine 68 = .ok (.if_icmp .eq 8, 3) := by decide +kernel
theorem dX9_readLine_71 : decode cX9_readLine 71 = .ok (.aload_n 0, 1) := by decide +kernel
theorem dX9_readLine_72 : decode cX9_readLine 72 = .ok (.iconst 1, 1) := by decide +kernel
theorem dX9_readLine_73 : decode cX9_readLine 73 = .ok (.invokevirtual 141, 3) := by decide +kernel
theorem dX9_readLine_76 : decode cX9_readLine 76 = .ok (.aload_n 0, 1) := by decide +kernel
theorem dX9_readLine_77 : decode cX9_readLine 77 = .ok (.invokevirtual 149, 3) := by decide +kernel
theorem dX9_readLine_80 : decode cX9_readLine 80 = .ok (.aload_n 0, 1) := by decide +kernel
theorem dX9_readLine_81 : decode cX9_readLine 81 = .ok (.getfield 16, 3) := by decide +kernel
theorem dX9_readLine_84 : decode cX9_readLine 84 = .ok (.iconst 4, 1) := by decide +kernel
theorem dX9_readLine_85 : decode cX9_readLine 85 = .ok (.dup2, 1) := by decide +kernel
theorem dX9_readLine_86 : decode cX9_readLine 86 = .ok (.iaload, 1) := by decide +kernel
theorem dX9_readLine_87 : decode cX9_readLine 87 = .ok (.iconst 1, 1) := by decide +kernel
theorem dX9_readLine_88 : decode cX9_readLine 88 = .ok (.iadd, 1) := by decide +kernel
theorem dX9_readLine_89 : decode cX9_readLine 89 = .ok (.iastore, 1) := by decide +kernel
theorem dX9_readLine_90 : decode cX9_readLine 90 = .ok (.return_, 1) := by decide +kernel
theorem dX9_readStop_0 : decode cX9_readStop 0 = .ok (.aload_n 0, 1) := by decide +kernel
theorem dX9_readStop_1 : decode cX9_readStop 1 = .ok (.getfield 16, 3) := by decide +kernel
theorem dX9_readStop_4 : decode cX9_readStop 4 = .ok (.iconst 0, 1) := by decide +kernel
theorem dX9_readStop_5 : decode cX9_readStop 5 = .ok (.iaload, 1) := by decide +kernel
theorem dX9_readStop_6 : decode cX9_readStop 6 = .ok (.bipush 10, 2) := by decide +kernel
theorem dX9_readStop_8 : decode cX9_readStop 8 = .ok (.if_icmp .ne 8, 3) := by decide +kernel
theorem dX9_readStop_11 : decode cX9_readStop 11 = .ok (.aload_n 0, 1) := by decide +kernel
theorem dX9_readStop_12 : decode cX9_readStop 12 = .ok (.iconst 2, 1) := by decide +kernel
theorem dX9_readStop_13 : decode cX9_readStop 13 = .ok (.invokevirtual 141, 3) := by decide +kernel
theorem dX9_readStop_16 : decode cX9_readStop 16 = .ok (.aload_n 0, 1) := by decide +kernel
theorem dX9_readStop_17 : decode cX9_readStop 17 = .ok (.invokevirtual 149, 3) := by decide +kernel
theorem dX9_readStop_20 : decode cX9_readStop 20 = .ok (.aload_n 0, 1) := by decide +kernel
theorem dX9_readStop_21 : decode cX9_readStop 21 = .ok (.getfield 132, 3) := by decide +kernel
theorem dX9_readStop_24 : decode cX9_readStop 24 = .ok (.ifCond .ne 15, 3) := by decide +kernel
theorem dX9_readStop_27 : decode cX9_readStop 27 = .ok (.aload_n 0, 1) := by decide +kernel
theorem dX9_readStop_28 : decode cX9_readStop 28 = .ok (.invokevirtual 152, 3) := by decide +kernel
theorem dX9_readStop_31 : decode cX9_readStop 31 = .ok (.ifCond .ne 8, 3) := by decide +kernel
theorem dX9_readStop_34 : decode cX9_readStop 34 = .ok (.aload_n 0, 1) := by decide +kernel
theorem dX9_readStop_35 : decode cX9_readStop 35 = .ok (.iconst 1, 1) := by decide +kernel
theorem dX9_readStop_36 : decode cX9_readStop 36 = .ok (.invokevirtual 141, 3) := by decide +kernel
theorem dX9_readStop_39 : decode cX9_readStop 39 = .ok (.aload_n 0, 1) := by decide +kernel
theorem dX9_readStop_40 : decode cX9_readStop 40 = .ok (.getfield 132, 3) := by decide +kernel
theorem dX9_readStop_43 : decode cX9_readStop 43 = .ok (.ifCond .ne 16, 3) := by decide +kernel
theorem dX9_readStop_46 : decode cX9_readStop 46 = .ok (.aload_n 0, 1) := by decide +kernel
theorem dX9_readStop_47 : decode cX9_readStop 47 = .ok (.invokevirtual 156, 3) := by decide +kernel
theorem dX9_readStop_50 : decode cX9_readStop 50 = .ok (.iconst (-1), 1) := by decide +kernel
theorem dX9_readStop_51 : decode cX9_readStop 51 = .ok (.if_icmp .eq 8, 3) := by decide +kernel
theorem dX9_readStop_54 : decode cX9_readStop 54 = .ok (.aload_n 0, 1) := by decide +kernel
theorem dX9_readStop_55 : decode cX9_readStop 55 = .ok (.iconst 3, 1) := by decide +kernel
theorem dX9_readStop_56 : decode cX9_readStop 56 = .ok (.invokevirtual 141, 3) := by decide +kernel
theorem dX9_readStop_59 : decode cX9_readStop 59 = .ok (.aload_n 0, 1) := by decide +kernel
theorem dX9_readStop_60 : decode cX9_readStop 60 = .ok (.getfield 111, 3) := by decide +kernel
theorem dX9_readStop_63 : decode cX9_readStop 63 = .ok (.istore_n 1, 1) := by decide +kernel
