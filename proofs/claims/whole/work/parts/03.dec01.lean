theorem dX4_meanWay_78 : decode cX4_meanWay 78 = .ok (.iload 5, 2) := by decide +kernel
theorem dX4_meanWay_80 : decode cX4_meanWay 80 = .ok (.iload 9, 2) := by decide +kernel
theorem dX4_meanWay_82 : decode cX4_meanWay 82 = .ok (.isub, 1) := by decide +kernel
theorem dX4_meanWay_83 : decode cX4_meanWay 83 = .ok (.iload_n 2, 1) := by decide +kernel
theorem dX4_meanWay_84 : decode cX4_meanWay 84 = .ok (.invokestatic 102, 3) := by decide +kernel
theorem dX4_meanWay_87 : decode cX4_meanWay 87 = .ok (.istore 10, 2) := by decide +kernel
theorem dX4_meanWay_89 : decode cX4_meanWay 89 = .ok (.iload 9, 2) := by decide +kernel
theorem dX4_meanWay_91 : decode cX4_meanWay 91 = .ok (.iload 10, 2) := by decide +kernel
theorem dX4_meanWay_93 : decode cX4_meanWay 93 = .ok (.iadd, 1) := by decide +kernel
theorem dX4_meanWay_94 : decode cX4_meanWay 94 = .ok (.ldc 87, 2) := by decide +kernel
theorem dX4_meanWay_96 : decode cX4_meanWay 96 = .ok (.if_icmp .ge 13, 3) := by decide +kernel
theorem dX4_meanWay_99 : decode cX4_meanWay 99 = .ok (.iload 7, 2) := by decide +kernel
theorem dX4_meanWay_101 : decode cX4_meanWay 101 = .ok (.iload 10, 2) := by decide +kernel
theorem dX4_meanWay_103 : decode cX4_meanWay 103 = .ok (.iadd, 1) := by decide +kernel
theorem dX4_meanWay_104 : decode cX4_meanWay 104 = .ok (.istore 7, 2) := by decide +kernel
theorem dX4_meanWay_106 : decode cX4_meanWay 106 = .ok (.iinc 8 1, 3) := by decide +kernel
theorem dX4_meanWay_109 : decode cX4_meanWay 109 = .ok (.iinc 9 (-1), 3) := by decide +kernel
theorem dX4_meanWay_112 : decode cX4_meanWay 112 = .ok (.goto (-88), 3) := by decide +kernel
theorem dX4_meanWay_115 : decode cX4_meanWay 115 = .ok (.iload 8, 2) := by decide +kernel
theorem dX4_meanWay_117 : decode cX4_meanWay 117 = .ok (.ifCond .ne 8, 3) := by decide +kernel
theorem dX4_meanWay_120 : decode cX4_meanWay 120 = .ok (.bipush (-2), 2) := by decide +kernel
theorem dX4_meanWay_122 : decode cX4_meanWay 122 = .ok (.goto 8, 3) := by decide +kernel
theorem dX4_meanWay_125 : decode cX4_meanWay 125 = .ok (.iload 7, 2) := by decide +kernel
theorem dX4_meanWay_127 : decode cX4_meanWay 127 = .ok (.iload 8, 2) := by decide +kernel
theorem dX4_meanWay_129 : decode cX4_meanWay 129 = .ok (.idiv, 1) := by decide +kernel
theorem dX4_meanWay_130 : decode cX4_meanWay 130 = .ok (.ireturn, 1) := by decide +kernel
theorem dX4_putRows_0 : decode cX4_putRows 0 = .ok (.ldc 87, 2) := by decide +kernel
theorem dX4_putRows_2 : decode cX4_putRows 2 = .ok (.istore 4, 2) := by decide +kernel
theorem dX4_putRows_4 : decode cX4_putRows 4 = .ok (.iconst 0, 1) := by decide +kernel
theorem dX4_putRows_5 : decode cX4_putRows 5 = .ok (.istore 5, 2) := by decide +kernel
theorem dX4_putRows_7 : decode cX4_putRows 7 = .ok (.iload 5, 2) := by decide +kernel
theorem dX4_putRows_9 : decode cX4_putRows 9 = .ok (.iload_n 3, 1) := by decide +kernel
theorem dX4_putRows_10 : decode cX4_putRows 10 = .ok (.if_icmp .gt 140, 3) := by decide +kernel
theorem dX4_putRows_13 : decode cX4_putRows 13 = .ok (.aload_n 0, 1) := by decide +kernel
theorem dX4_putRows_14 : decode cX4_putRows 14 = .ok (.getfield 33, 3) := by decide +kernel
theorem dX4_putRows_17 : decode cX4_putRows 17 = .ok (.iload 5, 2) := by decide +kernel
theorem dX4_putRows_19 : decode cX4_putRows 19 = .ok (.iaload, 1) := by decide +kernel
theorem dX4_putRows_20 : decode cX4_putRows 20 = .ok (.istore 6, 2) := by decide +kernel
theorem dX4_putRows_22 : decode cX4_putRows 22 = .ok (.iload 6, 2) := by decide +kernel
theorem dX4_putRows_24 : decode cX4_putRows 24 = .ok (.iload 4, 2) := by decide +kernel
theorem dX4_putRows_26 : decode cX4_putRows 26 = .ok (.if_icmp .ge 81, 3) := by decide +kernel
theorem dX4_putRows_29 : decode cX4_putRows 29 = .ok (.iload 6, 2) := by decide +kernel
theorem dX4_putRows_31 : decode cX4_putRows 31 = .ok (.aload_n 0, 1) := by decide +kernel
theorem dX4_putRows_32 : decode cX4_putRows 32 = .ok (.getfield 30, 3) := by decide +kernel
theorem dX4_putRows_35 : decode cX4_putRows 35 = .ok (.iload 5, 2) := by decide +kernel
theorem dX4_putRows_37 : decode cX4_putRows 37 = .ok (.iaload, 1) := by decide +kernel
theorem dX4_putRows_38 : decode cX4_putRows 38 = .ok (.if_icmp .ge 69, 3) := by decide +kernel
theorem dX4_putRows_41 : decode cX4_putRows 41 = .ok (.iload 6, 2) := by decide +kernel
theorem dX4_putRows_43 : decode cX4_putRows 43 = .ok (.iload_n 1, 1) := by decide +kernel
theorem dX4_putRows_44 : decode cX4_putRows 44 = .ok (.isub, 1) := by decide +kernel
theorem dX4_putRows_45 : decode cX4_putRows 45 = .ok (.iload_n 2, 1) := by decide +kernel
theorem dX4_putRows_46 : decode cX4_putRows 46 = .ok (.if_icmp .ge 61, 3) := by decide +kernel
theorem dX4_putRows_49 : decode cX4_putRows 49 = .ok (.aload_n 0, 1) := by decide +kernel
theorem dX4_putRows_50 : decode cX4_putRows 50 = .ok (.dup, 1) := by decide +kernel
theorem dX4_putRows_51 : decode cX4_putRows 51 = .ok (.getfield 39, 3) := by decide +kernel
theorem dX4_putRows_54 : decode cX4_putRows 54 = .ok (.iconst 1, 1) := by decide +kernel
theorem dX4_putRows_55 : decode cX4_putRows 55 = .ok (.isub, 1) := by decide +kernel
theorem dX4_putRows_56 : decode cX4_putRows 56 = .ok (.putfield 39, 3) := by decide +kernel
theorem dX4_putRows_59 : decode cX4_putRows 59 = .ok (.aload_n 0, 1) := by decide +kernel
theorem dX4_putRows_60 : decode cX4_putRows 60 = .ok (.getfield 11, 3) := by decide +kernel
theorem dX4_putRows_63 : decode cX4_putRows 63 = .ok (.aload_n 0, 1) := by decide +kernel
theorem dX4_putRows_64 : decode cX4_putRows 64 = .ok (.getfield 39, 3) := by decide +kernel
theorem dX4_putRows_67 : decode cX4_putRows 67 = .ok (.iload_n 1, 1) := by decide +kernel
theorem dX4_putRows_68 : decode cX4_putRows 68 = .ok (.iastore, 1) := by decide +kernel
theorem dX4_putRows_69 : decode cX4_putRows 69 = .ok (.aload_n 0, 1) := by decide +kernel
theorem dX4_putRows_70 : decode cX4_putRows 70 = .ok (.getfield 15, 3) := by decide +kernel
theorem dX4_putRows_73 : decode cX4_putRows 73 = .ok (.aload_n 0, 1) := by decide +kernel
theorem dX4_putRows_74 : decode cX4_putRows 74 = .ok (.getfield 39, 3) := by decide +kernel
theorem dX4_putRows_77 : decode cX4_putRows 77 = .ok (.iload 6, 2) := by decide +kernel
theorem dX4_putRows_79 : decode cX4_putRows 79 = .ok (.iastore, 1) := by decide +kernel
theorem dX4_putRows_80 : decode cX4_putRows 80 = .ok (.aload_n 0, 1) := by decide +kernel
theorem dX4_putRows_81 : decode cX4_putRows 81 = .ok (.getfield 18, 3) := by decide +kernel
theorem dX4_putRows_84 : decode cX4_putRows 84 = .ok (.aload_n 0, 1) := by decide +kernel
theorem dX4_putRows_85 : decode cX4_putRows 85 = .ok (.getfield 39, 3) := by decide +kernel
theorem dX4_putRows_88 : decode cX4_putRows 88 = .ok (.iload 5, 2) := by decide +kernel
theorem dX4_putRows_90 : decode cX4_putRows 90 = .ok (.iastore, 1) := by decide +kernel
theorem dX4_putRows_91 : decode cX4_putRows 91 = .ok (.aload_n 0, 1) := by decide +kernel
theorem dX4_putRows_92 : decode cX4_putRows 92 = .ok (.getfield 21, 3) := by decide +kernel
theorem dX4_putRows_95 : decode cX4_putRows 95 = .ok (.aload_n 0, 1) := by decide +kernel
theorem dX4_putRows_96 : decode cX4_putRows 96 = .ok (.getfield 39, 3) := by decide +kernel
theorem dX4_putRows_99 : decode cX4_putRows 99 = .ok (.aload_n 0, 1) := by decide +kernel
theorem dX4_putRows_100 : decode cX4_putRows 100 = .ok (.getfield 36, 3) := by decide +kernel
theorem dX4_putRows_103 : decode cX4_putRows 103 = .ok (.iload 5, 2) := by decide +kernel
theorem dX4_putRows_105 : decode cX4_putRows 105 = .ok (.iaload, 1) := by decide +kernel
theorem dX4_putRows_106 : decode cX4_putRows 106 = .ok (.iastore, 1) := by decide +kernel
theorem dX4_putRows_107 : decode cX4_putRows 107 = .ok (.iload 4, 2) := by decide +kernel
theorem dX4_putRows_109 : decode cX4_putRows 109 = .ok (.iload 6, 2) := by decide +kernel
theorem dX4_putRows_111 : decode cX4_putRows 111 = .ok (.invokestatic 102, 3) := by decide +kernel
theorem dX4_putRows_114 : decode cX4_putRows 114 = .ok (.istore 4, 2) := by decide +kernel
theorem dX4_putRows_116 : decode cX4_putRows 116 = .ok (.aload_n 0, 1) := by decide +kernel
theorem dX4_putRows_117 : decode cX4_putRows 117 = .ok (.getfield 30, 3) := by decide +kernel
theorem dX4_putRows_120 : decode cX4_putRows 120 = .ok (.iload 5, 2) := by decide +kernel
theorem dX4_putRows_122 : decode cX4_putRows 122 = .ok (.aload_n 0, 1) := by decide +kernel
theorem dX4_putRows_123 : decode cX4_putRows 123 = .ok (.getfield 30, 3) := by decide +kernel
theorem dX4_putRows_126 : decode cX4_putRows 126 = .ok (.iload 5, 2) := by decide +kernel
theorem dX4_putRows_128 : decode cX4_putRows 128 = .ok (.iaload, 1) := by decide +kernel
theorem dX4_putRows_129 : decode cX4_putRows 129 = .ok (.iload 6, 2) := by decide +kernel
theorem dX4_putRows_131 : decode cX4_putRows 131 = .ok (.invokestatic 102, 3) := by decide +kernel
theorem dX4_putRows_134 : decode cX4_putRows 134 = .ok (.iastore, 1) := by decide +kernel
theorem dX4_putRows_135 : decode cX4_putRows 135 = .ok (.aload_n 0, 1) := by decide +kernel
theorem dX4_putRows_136 : decode cX4_putRows 136 = .ok (.getfield 33, 3) := by decide +kernel
theorem dX4_putRows_139 : decode cX4_putRows 139 = .ok (.iload 5, 2) := by decide +kernel
theorem dX4_putRows_141 : decode cX4_putRows 141 = .ok (.ldc 87, 2) := by decide +kernel
theorem dX4_putRows_143 : decode cX4_putRows 143 = .ok (.iastore, 1) := by decide +kernel
theorem dX4_putRows_144 : decode cX4_putRows 144 = .ok (.iinc 5 1, 3) := by decide +kernel
theorem dX4_putRows_147 : decode cX4_putRows 147 = .ok (.goto (-140), 3) := by decide +kernel
theorem dX4_putRows_150 : decode cX4_putRows 150 = .ok (.return_, 1) := by decide +kernel
theorem dX4_soonestBehind_0 : decode cX4_soonestBehind 0 = .ok (.ldc 87, 2) := by decide +kernel
theorem dX4_soonestBehind_2 : decode cX4_soonestBehind 2 = .ok (.istore_n 3, 1) := by decide +kernel
theorem dX4_soonestBehind_3 : decode cX4_soonestBehind 3 = .ok (.aload_n 0, 1) := by decide +kernel
theorem dX4_soonestBehind_4 : decode cX4_soonestBehind 4 = .ok (.getfield 43, 3) := by decide +kernel
theorem dX4_soonestBehind_7 : decode cX4_soonestBehind 7 = .ok (.iconst 1, 1) := by decide +kernel
theorem dX4_soonestBehind_8 : decode cX4_soonestBehind 8 = .ok (.isub, 1) := by decide +kernel
theorem dX4_soonestBehind_9 : decode cX4_soonestBehind 9 = .ok (.istore 4, 2) := by decide +kernel
theorem dX4_soonestBehind_11 : decode cX4_soonestBehind 11 = .ok (.iload 4, 2) := by decide +kernel
theorem dX4_soonestBehind_13 : decode cX4_soonestBehind 13 = .ok (.ifCond .lt 43, 3) := by decide +kernel
theorem dX4_soonestBehind_16 : decode cX4_soonestBehind 16 = .ok (.aload_n 0, 1) := by decide +kernel
theorem dX4_soonestBehind_17 : decode cX4_soonestBehind 17 = .ok (.getfield 27, 3) := by decide +kernel
theorem dX4_soonestBehind_20 : decode cX4_soonestBehind 20 = .ok (.aload_n 0, 1) := by decide +kernel
theorem dX4_soonestBehind_21 : decode cX4_soonestBehind 21 = .ok (.getfield 24, 3) := by decide +kernel
theorem dX4_soonestBehind_24 : decode cX4_soonestBehind 24 = .ok (.iload 4, 2) := by decide +kernel
theorem dX4_soonestBehind_26 : decode cX4_soonestBehind 26 = .ok (.iaload, 1) := by decide +kernel
theorem dX4_soonestBehind_27 : decode cX4_soonestBehind 27 = .ok (.iaload, 1) := by decide +kernel
theorem dX4_soonestBehind_28 : decode cX4_soonestBehind 28 = .ok (.iload_n 2, 1) := by decide +kernel
theorem dX4_soonestBehind_29 : decode cX4_soonestBehind 29 = .ok (.if_icmp .le 27, 3) := by decide +kernel
theorem dX4_soonestBehind_32 : decode cX4_soonestBehind 32 = .ok (.iload_n 3, 1) := by decide +kernel
theorem dX4_soonestBehind_33 : decode cX4_soonestBehind 33 = .ok (.aload_n 1, 1) := by decide +kernel
theorem dX4_soonestBehind_34 : decode cX4_soonestBehind 34 = .ok (.sipush 240, 3) := by decide +kernel
theorem dX4_soonestBehind_37 : decode cX4_soonestBehind 37 = .ok (.aload_n 0, 1) := by decide +kernel
theorem dX4_soonestBehind_38 : decode cX4_soonestBehind 38 = .ok (.getfield 24, 3) := by decide +kernel
theorem dX4_soonestBehind_41 : decode cX4_soonestBehind 41 = .ok (.iload 4, 2) := by decide +kernel
theorem dX4_soonestBehind_43 : decode cX4_soonestBehind 43 = .ok (.iaload, 1) := by decide +kernel
theorem dX4_soonestBehind_44 : decode cX4_soonestBehind 44 = .ok (.iadd, 1) := by decide +kernel
theorem dX4_soonestBehind_45 : decode cX4_soonestBehind 45 = .ok (.iaload, 1) := by decide +kernel
theorem dX4_soonestBehind_46 : decode cX4_soonestBehind 46 = .ok (.invokestatic 102, 3) := by decide +kernel
theorem dX4_soonestBehind_49 : decode cX4_soonestBehind 49 = .ok (.istore_n 3, 1) := by decide +kernel
theorem dX4_soonestBehind_50 : decode cX4_soonestBehind 50 = .ok (.iinc 4 (-1), 3) := by decide +kernel
theorem dX4_soonestBehind_53 : decode cX4_soonestBehind 53 = .ok (.goto (-42), 3) := by decide +kernel
theorem dX4_soonestBehind_56 : decode cX4_soonestBehind 56 = .ok (.iload_n 3, 1) := by decide +kernel
theorem dX4_soonestBehind_57 : decode cX4_soonestBehind 57 = .ok (.ireturn, 1) := by decide +kernel
theorem dX4_unfold_0 : decode cX4_unfold 0 = .ok (.aload_n 3, 1) := by decide +kernel
theorem dX4_unfold_1 : decode cX4_unfold 1 = .ok (.invokevirtual 108, 3) := by decide +kernel
theorem dX4_unfold_4 : decode cX4_unfold 4 = .ok (.aload_n 0, 1) := by decide +kernel
theorem dX4_unfold_5 : decode cX4_unfold 5 = .ok (.getfield 21, 3) := by decide +kernel
theorem dX4_unfold_8 : decode cX4_unfold 8 = .ok (.aload_n 0, 1) := by decide +kernel
theorem dX4_unfold_9 : decode cX4_unfold 9 = .ok (.getfield 39, 3) := by decide +kernel
theorem dX4_unfold_12 : decode cX4_unfold 12 = .ok (.iload_n 1, 1) := by decide +kernel
theorem dX4_unfold_13 : decode cX4_unfold 13 = .ok (.iadd, 1) := by decide +kernel
theorem dX4_unfold_14 : decode cX4_unfold 14 = .ok (.iaload, 1) := by decide +kernel
theorem dX4_unfold_15 : decode cX4_unfold 15 = .ok (.istore 4, 2) := by decide +kernel
theorem dX4_unfold_17 : decode cX4_unfold 17 = .ok (.aload_n 0, 1) := by decide +kernel
theorem dX4_unfold_18 : decode cX4_unfold 18 = .ok (.getfield 18, 3) := by decide +kernel
theorem dX4_unfold_21 : decode cX4_unfold 21 = .ok (.aload_n 0, 1) := by decide +kernel
theorem dX4_unfold_22 : decode cX4_unfold 22 = .ok (.getfield 39, 3) := by decide +kernel
theorem dX4_unfold_25 : decode cX4_unfold 25 = .ok (.iload_n 1, 1) := by decide +kernel
theorem dX4_unfold_26 : decode cX4_unfold 26 = .ok (.iadd, 1) := by decide +kernel
theorem dX4_unfold_27 : decode cX4_unfold 27 = .ok (.iaload, 1) := by decide +kernel
theorem dX4_unfold_28 : decode cX4_unfold 28 = .ok (.istore 5, 2) := by decide +kernel
theorem dX4_unfold_30 : decode cX4_unfold 30 = .ok (.iload 5, 2) := by decide +kernel
theorem dX4_unfold_32 : decode cX4_unfold 32 = .ok (.ifCond .lt 62, 3) := by decide +kernel
theorem dX4_unfold_35 : decode cX4_unfold 35 = .ok (.iload 4, 2) := by decide +kernel
theorem dX4_unfold_37 : decode cX4_unfold 37 = .ok (.ifCond .lt 57, 3) := by decide +kernel
theorem dX4_unfold_40 : decode cX4_unfold 40 = .ok (.aload_n 2, 1) := by decide +kernel
theorem dX4_unfold_41 : decode cX4_unfold 41 = .ok (.getfield 113, 3) := by decide +kernel
theorem dX4_unfold_44 : decode cX4_unfold 44 = .ok (.aload_n 0, 1) := by decide +kernel
theorem dX4_unfold_45 : decode cX4_unfold 45 = .ok (.getfield 84, 3) := by decide +kernel
theorem dX4_unfold_48 : decode cX4_unfold 48 = .ok (.aaload, 1) := by decide +kernel
theorem dX4_unfold_49 : decode cX4_unfold 49 = .ok (.iload 5, 2) := by decide +kernel
theorem dX4_unfold_51 : decode cX4_unfold 51 = .ok (.bipush 60, 2) := by decide +kernel
theorem dX4_unfold_53 : decode cX4_unfold 53 = .ok (.imul, 1) := by decide +kernel
theorem dX4_unfold_54 : decode cX4_unfold 54 = .ok (.iload 4, 2) := by decide +kernel
theorem dX4_unfold_56 : decode cX4_unfold 56 = .ok (.iadd, 1) := by decide +kernel
theorem dX4_unfold_57 : decode cX4_unfold 57 = .ok (.iaload, 1) := by decide +kernel
theorem dX4_unfold_58 : decode cX4_unfold 58 = .ok (.istore 6, 2) := by decide +kernel
theorem dX4_unfold_60 : decode cX4_unfold 60 = .ok (.aload_n 3, 1) := by decide +kernel
theorem dX4_unfold_61 : decode cX4_unfold 61 = .ok (.iload 4, 2) := by decide +kernel
theorem dX4_unfold_63 : decode cX4_unfold 63 = .ok (.iload 6, 2) := by decide +kernel
theorem dX4_unfold_65 : decode cX4_unfold 65 = .ok (.invokevirtual 116, 3) := by decide +kernel
theorem dX4_unfold_68 : decode cX4_unfold 68 = .ok (.aload_n 2, 1) := by decide +kernel
theorem dX4_unfold_69 : decode cX4_unfold 69 = .ok (.getfield 119, 3) := by decide +kernel
theorem dX4_unfold_72 : decode cX4_unfold 72 = .ok (.aload_n 0, 1) := by decide +kernel
theorem dX4_unfold_73 : decode cX4_unfold 73 = .ok (.getfield 84, 3) := by decide +kernel
theorem dX4_unfold_76 : decode cX4_unfold 76 = .ok (.aaload, 1) := by decide +kernel
theorem dX4_unfold_77 : decode cX4_unfold 77 = .ok (.iload 5, 2) := by decide +kernel
theorem dX4_unfold_79 : decode cX4_unfold 79 = .ok (.bipush 60, 2) := by decide +kernel
theorem dX4_unfold_81 : decode cX4_unfold 81 = .ok (.imul, 1) := by decide +kernel
theorem dX4_unfold_82 : decode cX4_unfold 82 = .ok (.iload 6, 2) := by decide +kernel
theorem dX4_unfold_84 : decode cX4_unfold 84 = .ok (.iadd, 1) := by decide +kernel
theorem dX4_unfold_85 : decode cX4_unfold 85 = .ok (.iaload, 1) := by decide +kernel
theorem dX4_unfold_86 : decode cX4_unfold 86 = .ok (.istore 4, 2) := by decide +kernel
theorem dX4_unfold_88 : decode cX4_unfold 88 = .ok (.iinc 5 (-1), 3) := by decide +kernel
theorem dX4_unfold_91 : decode cX4_unfold 91 = .ok (.goto (-61), 3) := by decide +kernel
theorem dX4_unfold_94 : decode cX4_unfold 94 = .ok (.return_, 1) := by decide +kernel
theorem dX5_advance_0 : decode cX5_advance 0 = .ok (.aload_n 0, 1) := by decide +kernel
theorem dX5_advance_1 : decode cX5_advance 1 = .ok (.aload_n 0, 1) := by decide +kernel
theorem dX5_advance_2 : decode cX5_advance 2 = .ok (.getfield 43, 3) := by decide +kernel
theorem dX5_advance_5 : decode cX5_advance 5 = .ok (.putfield 139, 3) := by decide +kernel
theorem dX5_advance_8 : decode cX5_advance 8 = .ok (.aload_n 0, 1) := by decide +kernel
theorem dX5_advance_9 : decode cX5_advance 9 = .ok (.getfield 139, 3) := by decide +kernel
theorem dX5_advance_12 : decode cX5_advance 12 = .ok (.aload_n 0, 1) := by decide +kernel
theorem dX5_advance_13 : decode cX5_advance 13 = .ok (.getfield 25, 3) := by decide +kernel
theorem dX5_advance_16 : decode cX5_advance 16 = .ok (.if_icmp .ge 28, 3) := by decide +kernel
theorem dX5_advance_19 : decode cX5_advance 19 = .ok (.aload_n 0, 1) := by decide +kernel
theorem dX5_advance_20 : decode cX5_advance 20 = .ok (.aload_n 0, 1) := by decide +kernel
theorem dX5_advance_21 : decode cX5_advance 21 = .ok (.getfield 139, 3) := by decide +kernel
theorem dX5_advance_24 : decode cX5_advance 24 = .ok (.invokevirtual 146, 3) := by decide +kernel
theorem dX5_advance_27 : decode cX5_advance 27 = .ok (.iconst 4, 1) := by decide +kernel
theorem dX5_advance_28 : decode cX5_advance 28 = .ok (.if_icmp .ne 16, 3) := by decide +kernel
theorem dX5_advance_31 : decode cX5_advance 31 = .ok (.aload_n 0, 1) := by decide +kernel
theorem dX5_advance_32 : decode cX5_advance 32 = .ok (.dup, 1) := by decide +kernel
theorem dX5_advance_33 : decode cX5_advance 33 = .ok (.getfield 139, 3) := by decide +kernel
theorem dX5_advance_36 : decode cX5_advance 36 = .ok (.iconst 1, 1) := by decide +kernel
theorem dX5_advance_37 : decode cX5_advance 37 = .ok (.iadd, 1) := by decide +kernel
theorem dX5_advance_38 : decode cX5_advance 38 = .ok (.putfield 139, 3) := by decide +kernel
theorem dX5_advance_41 : decode cX5_advance 41 = .ok (.goto (-33), 3) := by decide +kernel
theorem dX5_advance_44 : decode cX5_advance 44 = .ok (.aload_n 0, 1) := by decide +kernel
theorem dX5_advance_45 : decode cX5_advance 45 = .ok (.aload_n 0, 1) := by decide +kernel
theorem dX5_advance_46 : decode cX5_advance 46 = .ok (.aload_n 0, 1) := by decide +kernel
theorem dX5_advance_47 : decode cX5_advance 47 = .ok (.getfield 139, 3) := by decide +kernel
theorem dX5_advance_50 : decode cX5_advance 50 = .ok (.invokevirtual 146, 3) := by decide +kernel
theorem dX5_advance_53 : decode cX5_advance 53 = .ok (.putfield 49, 3) := by decide +kernel
theorem dX5_advance_56 : decode cX5_advance 56 = .ok (.aload_n 0, 1) := by decide +kernel
theorem dX5_advance_57 : decode cX5_advance 57 = .ok (.aload_n 0, 1) := by decide +kernel
theorem dX5_advance_58 : decode cX5_advance 58 = .ok (.getfield 139, 3) := by decide +kernel
theorem dX5_advance_61 : decode cX5_advance 61 = .ok (.iconst 1, 1) := by decide +kernel
theorem dX5_advance_62 : decode cX5_advance 62 = .ok (.iadd, 1) := by decide +kernel
theorem dX5_advance_63 : decode cX5_advance 63 = .ok (.aload_n 0, 1) := by decide +kernel
theorem dX5_advance_64 : decode cX5_advance 64 = .ok (.getfield 25, 3) := by decide +kernel
theorem dX5_advance_67 : decode cX5_advance 67 = .ok (.invokestatic 19, 3) := by decide +kernel
theorem dX5_advance_70 : decode cX5_advance 70 = .ok (.putfield 43, 3) := by decide +kernel
theorem dX5_advance_73 : decode cX5_advance 73 = .ok (.aload_n 0, 1) := by decide +kernel
theorem dX5_advance_74 : decode cX5_advance 74 = .ok (.getfield 49, 3) := by decide +kernel
theorem dX5_advance_77 : decode cX5_advance 77 = .ok (.iconst 1, 1) := by decide +kernel
theorem dX5_advance_78 : decode cX5_advance 78 = .ok (.if_icmp .eq 11, 3) := by decide +kernel
theorem dX5_advance_81 : decode cX5_advance 81 = .ok (.aload_n 0, 1) := by decide +kernel
theorem dX5_advance_82 : decode cX5_advance 82 = .ok (.getfield 49, 3) := by decide +kernel
theorem dX5_advance_85 : decode cX5_advance 85 = .ok (.iconst 2, 1) := by decide +kernel
theorem dX5_advance_86 : decode cX5_advance 86 = .ok (.if_icmp .ne 42, 3) := by decide +kernel
theorem dX5_advance_89 : decode cX5_advance 89 = .ok (.aload_n 0, 1) := by decide +kernel
theorem dX5_advance_90 : decode cX5_advance 90 = .ok (.getfield 43, 3) := by decide +kernel
theorem dX5_advance_93 : decode cX5_advance 93 = .ok (.aload_n 0, 1) := by decide +kernel
theorem dX5_advance_94 : decode cX5_advance 94 = .ok (.getfield 25, 3) := by decide +kernel
theorem dX5_advance_97 : decode cX5_advance 97 = .ok (.if_icmp .ge 31, 3) := by decide +kernel
theorem dX5_advance_100 : decode cX5_advance 100 = .ok (.aload_n 0, 1) := by decide +kernel
theorem dX5_advance_101 : decode cX5_advance 101 = .ok (.aload_n 0, 1) := by decide +kernel
theorem dX5_advance_102 : decode cX5_advance 102 = .ok (.getfield 43, 3) := by decide +kernel
theorem dX5_advance_105 : decode cX5_advance 105 = .ok (.invokevirtual 146, 3) := by decide +kernel
theorem dX5_advance_108 : decode cX5_advance 108 = .ok (.aload_n 0, 1) := by decide +kernel
theorem dX5_advance_109 : decode cX5_advance 109 = .ok (.getfield 49, 3) := by decide +kernel
theorem dX5_advance_112 : decode cX5_advance 112 = .ok (.if_icmp .ne 16, 3) := by decide +kernel
theorem dX5_advance_115 : decode cX5_advance 115 = .ok (.aload_n 0, 1) := by decide +kernel
theorem dX5_advance_116 : decode cX5_advance 116 = .ok (.dup, 1) := by decide +kernel
theorem dX5_advance_117 : decode cX5_advance 117 = .ok (.getfield 43, 3) := by decide +kernel
theorem dX5_advance_120 : decode cX5_advance 120 = .ok (.iconst 1, 1) := by decide +kernel
theorem dX5_advance_121 : decode cX5_advance 121 = .ok (.iadd, 1) := by decide +kernel
theorem dX5_advance_122 : decode cX5_advance 122 = .ok (.putfield 43, 3) := by decide +kernel
theorem dX5_advance_125 : decode cX5_advance 125 = .ok (.goto (-36), 3) := by decide +kernel
theorem dX5_advance_128 : decode cX5_advance 128 = .ok (.aload_n 0, 1) := by decide +kernel
theorem dX5_advance_129 : decode cX5_advance 129 = .ok (.getfield 49, 3) := by decide +kernel
theorem dX5_advance_132 : decode cX5_advance 132 = .ok (.iconst 1, 1) := by decide +kernel
theorem dX5_advance_133 : decode cX5_advance 133 = .ok (.if_icmp .ne 22, 3) := by decide +kernel
theorem dX5_advance_136 : decode cX5_advance 136 = .ok (.aload_n 0, 1) := by decide +kernel
theorem dX5_advance_137 : decode cX5_advance 137 = .ok (.getfield 43, 3) := by decide +kernel
theorem dX5_advance_140 : decode cX5_advance 140 = .ok (.aload_n 0, 1) := by decide +kernel
theorem dX5_advance_141 : decode cX5_advance 141 = .ok (.getfield 139, 3) := by decide +kernel
theorem dX5_advance_144 : decode cX5_advance 144 = .ok (.isub, 1) := by decide +kernel
theorem dX5_advance_145 : decode cX5_advance 145 = .ok (.bipush 6, 2) := by decide +kernel
theorem dX5_advance_147 : decode cX5_advance 147 = .ok (.if_icmp .le 8, 3) := by decide +kernel
theorem dX5_advance_150 : decode cX5_advance 150 = .ok (.aload_n 0, 1) := by decide +kernel
theorem dX5_advance_151 : decode cX5_advance 151 = .ok (.iconst 5, 1) := by decide +kernel
theorem dX5_advance_152 : decode cX5_advance 152 = .ok (.putfield 49, 3) := by decide +kernel
theorem dX5_advance_155 : decode cX5_advance 155 = .ok (.aload_n 0, 1) := by decide +kernel
theorem dX5_advance_156 : decode cX5_advance 156 = .ok (.aload_n 0, 1) := by decide +kernel
theorem dX5_advance_157 : decode cX5_advance 157 = .ok (.getfield 49, 3) := by decide +kernel
theorem dX5_advance_160 : decode cX5_advance 160 = .ok (.iconst 1, 1) := by decide +kernel
theorem dX5_advance_161 : decode cX5_advance 161 = .ok (.if_icmp .ne 10, 3) := by decide +kernel
theorem dX5_advance_164 : decode cX5_advance 164 = .ok (.aload_n 0, 1) := by decide +kernel
theorem dX5_advance_165 : decode cX5_advance 165 = .ok (.invokevirtual 149, 3) := by decide +kernel
theorem dX5_advance_168 : decode cX5_advance 168 = .ok (.goto 7, 3) := by decide +kernel
theorem dX5_advance_171 : decode cX5_advance 171 = .ok (.aload_n 0, 1) := by decide +kernel
theorem dX5_advance_172 : decode cX5_advance 172 = .ok (.invokevirtual 152, 3) := by decide +kernel
theorem dX5_advance_175 : decode cX5_advance 175 = .ok (.putfield 62, 3) := by decide +kernel
theorem dX5_advance_178 : decode cX5_advance 178 = .ok (.return_, 1) := by decide +kernel
theorem dX5_digits_0 : decode cX5_digits 0 = .ok (.iconst 0, 1) := by decide +kernel
theorem dX5_digits_1 : decode cX5_digits 1 = .ok (.istore_n 1, 1) := by decide +kernel
theorem dX5_digits_2 : decode cX5_digits 2 = .ok (.aload_n 0, 1) := by decide +kernel
theorem dX5_digits_3 : decode cX5_digits 3 = .ok (.getfield 139, 3) := by decide +kernel
theorem dX5_digits_6 : decode cX5_digits 6 = .ok (.istore_n 2, 1) := by decide +kernel
theorem dX5_digits_7 : decode cX5_digits 7 = .ok (.iload_n 2, 1) := by decide +kernel
theorem dX5_digits_8 : decode cX5_digits 8 = .ok (.aload_n 0, 1) := by decide +kernel
theorem dX5_digits_9 : decode cX5_digits 9 = .ok (.getfield 43, 3) := by decide +kernel
theorem dX5_digits_12 : decode cX5_digits 12 = .ok (.if_icmp .ge 38, 3) := by decide +kernel
theorem dX5_digits_15 : decode cX5_digits 15 = .ok (.aload_n 0, 1) := by decide +kernel
theorem dX5_digits_16 : decode cX5_digits 16 = .ok (.getfield 49, 3) := by decide +kernel
theorem dX5_digits_19 : decode cX5_digits 19 = .ok (.iconst 2, 1) := by decide +kernel
theorem dX5_digits_20 : decode cX5_digits 20 = .ok (.if_icmp .ne 30, 3) := by decide +kernel
theorem dX5_digits_23 : decode cX5_digits 23 = .ok (.iload_n 1, 1) := by decide +kernel
theorem dX5_digits_24 : decode cX5_digits 24 = .ok (.ldc 155, 2) := by decide +kernel
theorem dX5_digits_26 : decode cX5_digits 26 = .ok (.if_icmp .ge 24, 3) := by decide +kernel
theorem dX5_digits_29 : decode cX5_digits 29 = .ok (.iload_n 1, 1) := by decide +kernel
theorem dX5_digits_30 : decode cX5_digits 30 = .ok (.bipush 10, 2) := by decide +kernel
theorem dX5_digits_32 : decode cX5_digits 32 = .ok (.imul, 1) := by decide +kernel
theorem dX5_digits_33 : decode cX5_digits 33 = .ok (.aload_n 0, 1) := by decide +kernel
theorem dX5_digits_34 : decode cX5_digits 34 = .ok (.getfield 15, 3) := by decide +kernel
theorem dX5_digits_37 : decode cX5_digits 37 = .ok (.iload_n 2, 1) := by decide +kernel
theorem dX5_digits_38 : decode cX5_digits 38 = .ok (.baload, 1) := by decide +kernel
theorem dX5_digits_39 : decode cX5_digits 39 = .ok (.bipush 48, 2) := by decide +kernel
theorem dX5_digits_41 : decode cX5_digits 41 = .ok (.isub, 1) := by decide +kernel
theorem dX5_digits_42 : decode cX5_digits 42 = .ok (.iadd, 1) := by decide +kernel
theorem dX5_digits_43 : decode cX5_digits 43 = .ok (.istore_n 1, 1) := by decide +kernel
theorem dX5_digits_44 : decode cX5_digits 44 = .ok (.iinc 2 1, 3) := by decide +kernel
theorem dX5_digits_47 : decode cX5_digits 47 = .ok (.goto (-40), 3) := by decide +kernel
theorem dX5_digits_50 : decode cX5_digits 50 = .ok (.iload_n 1, 1) := by decide +kernel
theorem dX5_digits_51 : decode cX5_digits 51 = .ok (.ireturn, 1) := by decide +kernel
theorem dX5_fail_0 : decode cX5_fail 0 = .ok (.aload_n 0, 1) := by decide +kernel
theorem dX5_fail_1 : decode cX5_fail 1 = .ok (.iload_n 1, 1) := by decide +kernel
theorem dX5_fail_2 : decode cX5_fail 2 = .ok (.putfield 37, 3) := by decide +kernel
theorem dX5_fail_5 : decode cX5_fail 5 = .ok (.aload_n 0, 1) := by decide +kernel
theorem dX5_fail_6 : decode cX5_fail 6 = .ok (.aload_n 0, 1) := by decide +kernel
theorem dX5_fail_7 : decode cX5_fail 7 = .ok (.getfield 139, 3) := by decide +kernel
theorem dX5_fail_10 : decode cX5_fail 10 = .ok (.putfield 9, 3) := by decide +kernel
theorem dX5_fail_13 : decode cX5_fail 13 = .ok (.iconst 0, 1) := by decide +kernel
theorem dX5_fail_14 : decode cX5_fail 14 = .ok (.ireturn, 1) := by decide +kernel
theorem dX5_failNumber_0 : decode cX5_failNumber 0 = .ok (.aload_n 0, 1) := by decide +kernel
theorem dX5_failNumber_1 : decode cX5_failNumber 1 = .ok (.aload_n 0, 1) := by decide +kernel
theorem dX5_failNumber_2 : decode cX5_failNumber 2 = .ok (.getfield 49, 3) := by decide +kernel
theorem dX5_failNumber_5 : decode cX5_failNumber 5 = .ok (.iconst 2, 1) := by decide +kernel
theorem dX5_failNumber_6 : decode cX5_failNumber 6 = .ok (.if_icmp .ne 7, 3) := by decide +kernel
theorem dX5_failNumber_9 : decode cX5_failNumber 9 = .ok (.iconst 2, 1) := by decide +kernel
theorem dX5_failNumber_10 : decode cX5_failNumber 10 = .ok (.goto 4, 3) := by decide +kernel
theorem dX5_failNumber_13 : decode cX5_failNumber 13 = .ok (.iconst 1, 1) := by decide +kernel
theorem dX5_failNumber_14 : decode cX5_failNumber 14 = .ok (.invokevirtual 77, 3) := by decide +kernel
theorem dX5_failNumber_17 : decode cX5_failNumber 17 = .ok (.ireturn, 1) := by decide +kernel
theorem dX5_init_0 : decode cX5_init 0 = .ok (.aload_n 0, 1) := by decide +kernel
theorem dX5_init_1 : decode cX5_init 1 = .ok (.invokespecial 3, 3) := by decide +kernel
theorem dX5_init_4 : decode cX5_init 4 = .ok (.aload_n 0, 1) := by decide +kernel
theorem dX5_init_5 : decode cX5_init 5 = .ok (.iconst (-1), 1) := by decide +kernel
theorem dX5_init_6 : decode cX5_init 6 = .ok (.putfield 9, 3) := by decide +kernel
theorem dX5_init_9 : decode cX5_init 9 = .ok (.return_, 1) := by decide +kernel
theorem dX5_isName_0 : decode cX5_isName 0 = .ok (.aload_n 0, 1) := by decide +kernel
theorem dX5_isName_1 : decode cX5_isName 1 = .ok (.getfield 49, 3) := by decide +kernel
theorem dX5_isName_4 : decode cX5_isName 4 = .ok (.iconst 1, 1) := by decide +kernel
theorem dX5_isName_5 : decode cX5_isName 5 = .ok (.if_icmp .ne 34, 3) := by decide +kernel
theorem dX5_isName_8 : decode cX5_isName 8 = .ok (.aload_n 0, 1) := by decide +kernel
theorem dX5_isName_9 : decode cX5_isName 9 = .ok (.getfield 62, 3) := by decide +kernel
theorem dX5_isName_12 : decode cX5_isName 12 = .ok (.ldc 65, 2) := by decide +kernel
theorem dX5_isName_14 : decode cX5_isName 14 = .ok (.if_icmp .eq 25, 3) := by decide +kernel
theorem dX5_isName_17 : decode cX5_isName 17 = .ok (.aload_n 0, 1) := by decide +kernel
theorem dX5_isName_18 : decode cX5_isName 18 = .ok (.getfield 62, 3) := by decide +kernel
theorem dX5_isName_21 : decode cX5_isName 21 = .ok (.ldc 69, 2) := by decide +kernel
theorem dX5_isName_23 : decode cX5_isName 23 = .ok (.if_icmp .eq 16, 3) := by decide +kernel
theorem dX5_isName_26 : decode cX5_isName 26 = .ok (.aload_n 0, 1) := by decide +kernel
theorem dX5_isName_27 : decode cX5_isName 27 = .ok (.getfield 62, 3) := by decide +kernel
theorem dX5_isName_30 : decode cX5_isName 30 = .ok (.ldc 73, 2) := by decide +kernel
theorem dX5_isName_32 : decode cX5_isName 32 = .ok (.if_icmp .eq 7, 3) := by decide +kernel
theorem dX5_isName_35 : decode cX5_isName 35 = .ok (.iconst 1, 1) := by decide +kernel
theorem dX5_isName_36 : decode cX5_isName 36 = .ok (.goto 4, 3) := by decide +kernel
theorem dX5_isName_39 : decode cX5_isName 39 = .ok (.iconst 0, 1) := by decide +kernel
theorem dX5_isName_40 : decode cX5_isName 40 = .ok (.ireturn, 1) := by decide +kernel
theorem dX5_isNumber_0 : decode cX5_isNumber 0 = .ok (.aload_n 0, 1) := by decide +kernel
theorem dX5_isNumber_1 : decode cX5_isNumber 1 = .ok (.getfield 49, 3) := by decide +kernel
theorem dX5_isNumber_4 : decode cX5_isNumber 4 = .ok (.iconst 2, 1) := by decide +kernel
theorem dX5_isNumber_5 : decode cX5_isNumber 5 = .ok (.if_icmp .ne 19, 3) := by decide +kernel
theorem dX5_isNumber_8 : decode cX5_isNumber 8 = .ok (.aload_n 0, 1) := by decide +kernel
theorem dX5_isNumber_9 : decode cX5_isNumber 9 = .ok (.getfield 62, 3) := by decide +kernel
theorem dX5_isNumber_12 : decode cX5_isNumber 12 = .ok (.iload_n 1, 1) := by decide +kernel
theorem dX5_isNumber_13 : decode cX5_isNumber 13 = .ok (.iload_n 2, 1) := by decide +kernel
theorem dX5_isNumber_14 : decode cX5_isNumber 14 = .ok (.invokestatic 142, 3) := by decide +kernel
theorem dX5_isNumber_17 : decode cX5_isNumber 17 = .ok (.ifCond .eq 7, 3) := by decide +kernel
theorem dX5_isNumber_20 : decode cX5_isNumber 20 = .ok (.iconst 1, 1) := by decide +kernel
theorem dX5_isNumber_21 : decode cX5_isNumber 21 = .ok (.goto 4, 3) := by decide +kernel
theorem dX5_isNumber_24 : decode cX5_isNumber 24 = .ok (.iconst 0, 1) := by decide +kernel
theorem dX5_isNumber_25 : decode cX5_isNumber 25 = .ok (.ireturn, 1) := by decide +kernel
theorem dX5_kindAt_0 : decode cX5_kindAt 0 = .ok (.iload_n 1, 1) := by decide +kernel
theorem dX5_kindAt_1 : decode cX5_kindAt 1 = .ok (.aload_n 0, 1) := by decide +kernel
theorem dX5_kindAt_2 : decode cX5_kindAt 2 = .ok (.getfield 25, 3) := by decide +kernel
theorem dX5_kindAt_5 : decode cX5_kindAt 5 = .ok (.if_icmp .lt 5, 3) := by decide +kernel
theorem dX5_kindAt_8 : decode cX5_kindAt 8 = .ok (.iconst 0, 1) := by decide +kernel
theorem dX5_kindAt_9 : decode cX5_kindAt 9 = .ok (.ireturn, 1) := by decide +kernel
theorem dX5_kindAt_10 : decode cX5_kindAt 10 = .ok (.aload_n 0, 1) := by decide +kernel
theorem dX5_kindAt_11 : decode cX5_kindAt 11 = .ok (.getfield 15, 3) := by decide +kernel
theorem dX5_kindAt_14 : decode cX5_kindAt 14 = .ok (.iload_n 1, 1) := by decide +kernel
theorem dX5_kindAt_15 : decode cX5_kindAt 15 = .ok (.baload, 1) := by decide +kernel
theorem dX5_kindAt_16 : decode cX5_kindAt 16 = .ok (.istore_n 2, 1) := by decide +kernel
theorem dX5_kindAt_17 : decode cX5_kindAt 17 = .ok (.iload_n 2, 1) := by decide +kernel
theorem dX5_kindAt_18 : decode cX5_kindAt 18 = .ok (.bipush 97, 2) := by decide +kernel
theorem dX5_kindAt_20 : decode cX5_kindAt 20 = .ok (.if_icmp .lt 11, 3) := by decide +kernel
theorem dX5_kindAt_23 : decode cX5_kindAt 23 = .ok (.iload_n 2, 1) := by decide +kernel
theorem dX5_kindAt_24 : decode cX5_kindAt 24 = .ok (.bipush 122, 2) := by decide +kernel
theorem dX5_kindAt_26 : decode cX5_kindAt 26 = .ok (.if_icmp .gt 5, 3) := by decide +kernel
theorem dX5_kindAt_29 : decode cX5_kindAt 29 = .ok (.iconst 1, 1) := by decide +kernel
theorem dX5_kindAt_30 : decode cX5_kindAt 30 = .ok (.ireturn, 1) := by decide +kernel
theorem dX5_kindAt_31 : decode cX5_kindAt 31 = .ok (.iload_n 2, 1) := by decide +kernel
theorem dX5_kindAt_32 : decode cX5_kindAt 32 = .ok (.bipush 48, 2) := by decide +kernel
theorem dX5_kindAt_34 : decode cX5_kindAt 34 = .ok (.if_icmp .lt 11, 3) := by decide +kernel
theorem dX5_kindAt_37 : decode cX5_kindAt 37 = .ok (.iload_n 2, 1) := by decide +kernel
theorem dX5_kindAt_38 : decode cX5_kindAt 38 = .ok (.bipush 57, 2) := by decide +kernel
theorem dX5_kindAt_40 : decode cX5_kindAt 40 = .ok (.if_icmp .gt 5, 3) := by decide +kernel
theorem dX5_kindAt_43 : decode cX5_kindAt 43 = .ok (.iconst 2, 1) := by decide +kernel
theorem dX5_kindAt_44 : decode cX5_kindAt 44 = .ok (.ireturn, 1) := by decide +kernel
theorem dX5_kindAt_45 : decode cX5_kindAt 45 = .ok (.iload_n 2, 1) := by decide +kernel
theorem dX5_kindAt_46 : decode cX5_kindAt 46 = .ok (.bipush 59, 2) := by decide +kernel
theorem dX5_kindAt_48 : decode cX5_kindAt 48 = .ok (.if_icmp .ne 5, 3) := by decide +kernel
theorem dX5_kindAt_51 : decode cX5_kindAt 51 = .ok (.iconst 3, 1) := by decide +kernel
theorem dX5_kindAt_52 : decode cX5_kindAt 52 = .ok (.ireturn, 1) := by decide +kernel
theorem dX5_kindAt_53 : decode cX5_kindAt 53 = .ok (.iload_n 2, 1) := by decide +kernel
theorem dX5_kindAt_54 : decode cX5_kindAt 54 = .ok (.bipush 10, 2) := by decide +kernel
theorem dX5_kindAt_56 : decode cX5_kindAt 56 = .ok (.if_icmp .eq 9, 3) := by decide +kernel
theorem dX5_kindAt_59 : decode cX5_kindAt 59 = .ok (.iload_n 2, 1) := by decide +kernel
theorem dX5_kindAt_60 : decode cX5_kindAt 60 = .ok (.bipush 32, 2) := by decide +kernel
theorem dX5_kindAt_62 : decode cX5_kindAt 62 = .ok (.if_icmp .ne 7, 3) := by decide +kernel
theorem dX5_kindAt_65 : decode cX5_kindAt 65 = .ok (.iconst 4, 1) := by decide +kernel
theorem dX5_kindAt_66 : decode cX5_kindAt 66 = .ok (.goto 4, 3) := by decide +kernel
theorem dX5_kindAt_69 : decode cX5_kindAt 69 = .ok (.iconst 5, 1) := by decide +kernel
theorem dX5_kindAt_70 : decode cX5_kindAt 70 = .ok (.ireturn, 1) := by decide +kernel
theorem dX5_letters_0 : decode cX5_letters 0 = .ok (.iconst 0, 1) := by decide +kernel
theorem dX5_letters_1 : decode cX5_letters 1 = .ok (.istore_n 1, 1) := by decide +kernel
theorem dX5_letters_2 : decode cX5_letters 2 = .ok (.aload_n 0, 1) := by decide +kernel
theorem dX5_letters_3 : decode cX5_letters 3 = .ok (.getfield 139, 3) := by decide +kernel
theorem dX5_letters_6 : decode cX5_letters 6 = .ok (.istore_n 2, 1) := by decide +kernel
theorem dX5_letters_7 : decode cX5_letters 7 = .ok (.iload_n 2, 1) := by decide +kernel
theorem dX5_letters_8 : decode cX5_letters 8 = .ok (.aload_n 0, 1) := by decide +kernel
theorem dX5_letters_9 : decode cX5_letters 9 = .ok (.getfield 43, 3) := by decide +kernel
theorem dX5_letters_12 : decode cX5_letters 12 = .ok (.if_icmp .ge 26, 3) := by decide +kernel
theorem dX5_letters_15 : decode cX5_letters 15 = .ok (.iload_n 1, 1) := by decide +kernel
theorem dX5_letters_16 : decode cX5_letters 16 = .ok (.bipush 27, 2) := by decide +kernel
theorem dX5_letters_18 : decode cX5_letters 18 = .ok (.imul, 1) := by decide +kernel
theorem dX5_letters_19 : decode cX5_letters 19 = .ok (.aload_n 0, 1) := by decide +kernel
theorem dX5_letters_20 : decode cX5_letters 20 = .ok (.getfield 15, 3) := by decide +kernel
theorem dX5_letters_23 : decode cX5_letters 23 = .ok (.iload_n 2, 1) := by decide +kernel
theorem dX5_letters_24 : decode cX5_letters 24 = .ok (.baload, 1) := by decide +kernel
theorem dX5_letters_25 : decode cX5_letters 25 = .ok (.bipush 97, 2) := by decide +kernel
theorem dX5_letters_27 : decode cX5_letters 27 = .ok (.isub, 1) := by decide +kernel
theorem dX5_letters_28 : decode cX5_letters 28 = .ok (.iconst 1, 1) := by decide +kernel
theorem dX5_letters_29 : decode cX5_letters 29 = .ok (.iadd, 1) := by decide +kernel
theorem dX5_letters_30 : decode cX5_letters 30 = .ok (.iadd, 1) := by decide +kernel
theorem dX5_letters_31 : decode cX5_letters 31 = .ok (.istore_n 1, 1) := by decide +kernel
theorem dX5_letters_32 : decode cX5_letters 32 = .ok (.iinc 2 1, 3) := by decide +kernel
theorem dX5_letters_35 : decode cX5_letters 35 = .ok (.goto (-28), 3) := by decide +kernel
theorem dX5_letters_38 : decode cX5_letters 38 = .ok (.iload_n 1, 1) := by decide +kernel
theorem dX5_letters_39 : decode cX5_letters 39 = .ok (.ireturn, 1) := by decide +kernel
theorem dX5_read_0 : decode cX5_read 0 = .ok (.aload_n 0, 1) := by decide +kernel
theorem dX5_read_1 : decode cX5_read 1 = .ok (.aload_n 1, 1) := by decide +kernel
theorem dX5_read_2 : decode cX5_read 2 = .ok (.putfield 15, 3) := by decide +kernel
theorem dX5_read_5 : decode cX5_read 5 = .ok (.aload_n 0, 1) := by decide +kernel
theorem dX5_read_6 : decode cX5_read 6 = .ok (.iload_n 2, 1) := by decide +kernel
theorem dX5_read_7 : decode cX5_read 7 = .ok (.aload_n 1, 1) := by decide +kernel
theorem dX5_read_8 : decode cX5_read 8 = .ok (.arraylength, 1) := by decide +kernel
theorem dX5_read_9 : decode cX5_read 9 = .ok (.invokestatic 19, 3) := by decide +kernel
theorem dX5_read_12 : decode cX5_read 12 = .ok (.putfield 25, 3) := by decide +kernel
theorem dX5_read_15 : decode cX5_read 15 = .ok (.aload_n 0, 1) := by decide +kernel
theorem dX5_read_16 : decode cX5_read 16 = .ok (.aload_n 3, 1) := by decide +kernel
theorem dX5_read_17 : decode cX5_read 17 = .ok (.putfield 28, 3) := by decide +kernel
theorem dX5_read_20 : decode cX5_read 20 = .ok (.aload_n 0, 1) := by decide +kernel
theorem dX5_read_21 : decode cX5_read 21 = .ok (.getfield 28, 3) := by decide +kernel
theorem dX5_read_24 : decode cX5_read 24 = .ok (.invokevirtual 32, 3) := by decide +kernel
theorem dX5_read_27 : decode cX5_read 27 = .ok (.aload_n 0, 1) := by decide +kernel
theorem dX5_read_28 : decode cX5_read 28 = .ok (.iconst 0, 1) := by decide +kernel
theorem dX5_read_29 : decode cX5_read 29 = .ok (.putfield 37, 3) := by decide +kernel
theorem dX5_read_32 : decode cX5_read 32 = .ok (.aload_n 0, 1) := by decide +kernel
theorem dX5_read_33 : decode cX5_read 33 = .ok (.iconst (-1), 1) := by decide +kernel
theorem dX5_read_34 : decode cX5_read 34 = .ok (.putfield 9, 3) := by decide +kernel
theorem dX5_read_37 : decode cX5_read 37 = .ok (.aload_n 0, 1) := by decide +kernel
theorem dX5_read_38 : decode cX5_read 38 = .ok (.iconst 0, 1) := by decide +kernel
theorem dX5_read_39 : decode cX5_read 39 = .ok (.putfield 40, 3) := by decide +kernel
theorem dX5_read_42 : decode cX5_read 42 = .ok (.aload_n 0, 1) := by decide +kernel
theorem dX5_read_43 : decode cX5_read 43 = .ok (.iconst 0, 1) := by decide +kernel
theorem dX5_read_44 : decode cX5_read 44 = .ok (.putfield 43, 3) := by decide +kernel
theorem dX5_read_47 : decode cX5_read 47 = .ok (.aload_n 0, 1) := by decide +kernel
theorem dX5_read_48 : decode cX5_read 48 = .ok (.invokevirtual 46, 3) := by decide +kernel
theorem dX5_read_51 : decode cX5_read 51 = .ok (.iconst 0, 1) := by decide +kernel
theorem dX5_read_52 : decode cX5_read 52 = .ok (.istore 4, 2) := by decide +kernel
theorem dX5_read_54 : decode cX5_read 54 = .ok (.iload 4, 2) := by decide +kernel
theorem dX5_read_56 : decode cX5_read 56 = .ok (.aload_n 0, 1) := by decide +kernel
theorem dX5_read_57 : decode cX5_read 57 = .ok (.getfield 25, 3) := by decide +kernel
theorem dX5_read_60 : decode cX5_read 60 = .ok (.if_icmp .gt 35, 3) := by decide +kernel
theorem dX5_read_63 : decode cX5_read 63 = .ok (.aload_n 0, 1) := by decide +kernel
theorem dX5_read_64 : decode cX5_read 64 = .ok (.getfield 49, 3) := by decide +kernel
theorem dX5_read_67 : decode cX5_read 67 = .ok (.ifCond .eq 28, 3) := by decide +kernel
theorem dX5_read_70 : decode cX5_read 70 = .ok (.aload_n 0, 1) := by decide +kernel
theorem dX5_read_71 : decode cX5_read 71 = .ok (.invokevirtual 52, 3) := by decide +kernel
theorem dX5_read_74 : decode cX5_read 74 = .ok (.ifCond .ne 5, 3) := by decide +kernel
theorem dX5_read_77 : decode cX5_read 77 = .ok (.iconst 0, 1) := by decide +kernel
theorem dX5_read_78 : decode cX5_read 78 = .ok (.ireturn, 1) := by decide +kernel
theorem dX5_read_79 : decode cX5_read 79 = .ok (.aload_n 0, 1) := by decide +kernel
theorem dX5_read_80 : decode cX5_read 80 = .ok (.dup, 1) := by decide +kernel
theorem dX5_read_81 : decode cX5_read 81 = .ok (.getfield 40, 3) := by decide +kernel
theorem dX5_read_84 : decode cX5_read 84 = .ok (.iconst 1, 1) := by decide +kernel
theorem dX5_read_85 : decode cX5_read 85 = .ok (.iadd, 1) := by decide +kernel
theorem dX5_read_86 : decode cX5_read 86 = .ok (.putfield 40, 3) := by decide +kernel
theorem dX5_read_89 : decode cX5_read 89 = .ok (.iinc 4 1, 3) := by decide +kernel
theorem dX5_read_92 : decode cX5_read 92 = .ok (.goto (-38), 3) := by decide +kernel
theorem dX5_read_95 : decode cX5_read 95 = .ok (.aload_n 0, 1) := by decide +kernel
theorem dX5_read_96 : decode cX5_read 96 = .ok (.getfield 28, 3) := by decide +kernel
theorem dX5_read_99 : decode cX5_read 99 = .ok (.invokevirtual 56, 3) := by decide +kernel
theorem dX5_read_102 : decode cX5_read 102 = .ok (.aload_n 0, 1) := by decide +kernel
theorem dX5_read_103 : decode cX5_read 103 = .ok (.getfield 28, 3) := by decide +kernel
theorem dX5_read_106 : decode cX5_read 106 = .ok (.invokevirtual 59, 3) := by decide +kernel
theorem dX5_read_109 : decode cX5_read 109 = .ok (.iconst 1, 1) := by decide +kernel
theorem dX5_read_110 : decode cX5_read 110 = .ok (.ireturn, 1) := by decide +kernel
theorem dX5_readEnd_0 : decode cX5_readEnd 0 = .ok (.aload_n 0, 1) := by decide +kernel
theorem dX5_readEnd_1 : decode cX5_readEnd 1 = .ok (.getfield 49, 3) := by decide +kernel
theorem dX5_readEnd_4 : decode cX5_readEnd 4 = .ok (.iconst 3, 1) := by decide +kernel
theorem dX5_readEnd_5 : decode cX5_readEnd 5 = .ok (.if_icmp .eq 9, 3) := by decide +kernel
theorem dX5_readEnd_8 : decode cX5_readEnd 8 = .ok (.aload_n 0, 1) := by decide +kernel
theorem dX5_readEnd_9 : decode cX5_readEnd 9 = .ok (.iconst 1, 1) := by decide +kernel
theorem dX5_readEnd_10 : decode cX5_readEnd 10 = .ok (.invokevirtual 77, 3) := by decide +kernel
theorem dX5_readEnd_13 : decode cX5_readEnd 13 = .ok (.ireturn, 1) := by decide +kernel
theorem dX5_readEnd_14 : decode cX5_readEnd 14 = .ok (.aload_n 0, 1) := by decide +kernel
theorem dX5_readEnd_15 : decode cX5_readEnd 15 = .ok (.invokevirtual 46, 3) := by decide +kernel
theorem dX5_readEnd_18 : decode cX5_readEnd 18 = .ok (.iconst 1, 1) := by decide +kernel
theorem dX5_readEnd_19 : decode cX5_readEnd 19 = .ok (.ireturn, 1) := by decide +kernel
theorem dX5_readLine_0 : decode cX5_readLine 0 = .ok (.aload_n 0, 1) := by decide +kernel
theorem dX5_readLine_1 : decode cX5_readLine 1 = .ok (.getfield 49, 3) := by decide +kernel
theorem dX5_readLine_4 : decode cX5_readLine 4 = .ok (.iconst 1, 1) := by decide +kernel
theorem dX5_readLine_5 : decode cX5_readLine 5 = .ok (.if_icmp .ne 20, 3) := by decide +kernel
theorem dX5_readLine_8 : decode cX5_readLine 8 = .ok (.aload_n 0, 1) := by decide +kernel
theorem dX5_readLine_9 : decode cX5_readLine 9 = .ok (.getfield 62, 3) := by decide +kernel
theorem dX5_readLine_12 : decode cX5_readLine 12 = .ok (.ldc 65, 2) := by decide +kernel
theorem dX5_readLine_14 : decode cX5_readLine 14 = .ok (.if_icmp .ne 11, 3) := by decide +kernel
theorem dX5_readLine_17 : decode cX5_readLine 17 = .ok (.aload_n 0, 1) := by decide +kernel
theorem dX5_readLine_18 : decode cX5_readLine 18 = .ok (.invokevirtual 66, 3) := by decide +kernel
theorem dX5_readLine_21 : decode cX5_readLine 21 = .ok (.istore_n 1, 1) := by decide +kernel
theorem dX5_readLine_22 : decode cX5_readLine 22 = .ok (.goto 59, 3) := by decide +kernel
theorem dX5_readLine_25 : decode cX5_readLine 25 = .ok (.aload_n 0, 1) := by decide +kernel
theorem dX5_readLine_26 : decode cX5_readLine 26 = .ok (.getfield 49, 3) := by decide +kernel
theorem dX5_readLine_29 : decode cX5_readLine 29 = .ok (.iconst 1, 1) := by decide +kernel
theorem dX5_readLine_30 : decode cX5_readLine 30 = .ok (.if_icmp .ne 20, 3) := by decide +kernel
theorem dX5_readLine_33 : decode cX5_readLine 33 = .ok (.aload_n 0, 1) := by decide +kernel
theorem dX5_readLine_34 : decode cX5_readLine 34 = .ok (.getfield 62, 3) := by decide +kernel
theorem dX5_readLine_37 : decode cX5_readLine 37 = .ok (.ldc 69, 2) := by decide +kernel
theorem dX5_readLine_39 : decode cX5_readLine 39 = .ok (.if_icmp .ne 11, 3) := by decide +kernel
theorem dX5_readLine_42 : decode cX5_readLine 42 = .ok (.aload_n 0, 1) := by decide +kernel
theorem dX5_readLine_43 : decode cX5_readLine 43 = .ok (.invokevirtual 70, 3) := by decide +kernel
theorem dX5_readLine_46 : decode cX5_readLine 46 = .ok (.istore_n 1, 1) := by decide +kernel
theorem dX5_readLine_47 : decode cX5_readLine 47 = .ok (.goto 34, 3) := by decide +kernel
theorem dX5_readLine_50 : decode cX5_readLine 50 = .ok (.aload_n 0, 1) := by decide +kernel
theorem dX5_readLine_51 : decode cX5_readLine 51 = .ok (.getfield 49, 3) := by decide +kernel
theorem dX5_readLine_54 : decode cX5_readLine 54 = .ok (.iconst 1, 1) := by decide +kernel
theorem dX5_readLine_55 : decode cX5_readLine 55 = .ok (.if_icmp .ne 20, 3) := by decide +kernel
theorem dX5_readLine_58 : decode cX5_readLine 58 = .ok (.aload_n 0, 1) := by decide +kernel
theorem dX5_readLine_59 : decode cX5_readLine 59 = .ok (.getfield 62, 3) := by decide +kernel
theorem dX5_readLine_62 : decode cX5_readLine 62 = .ok (.ldc 73, 2) := by decide +kernel
theorem dX5_readLine_64 : decode cX5_readLine 64 = .ok (.if_icmp .ne 11, 3) := by decide +kernel
theorem dX5_readLine_67 : decode cX5_readLine 67 = .ok (.aload_n 0, 1) := by decide +kernel
theorem dX5_readLine_68 : decode cX5_readLine 68 = .ok (.invokevirtual 74, 3) := by decide +kernel
theorem dX5_readLine_71 : decode cX5_readLine 71 = .ok (.istore_n 1, 1) := by decide +kernel
theorem dX5_readLine_72 : decode cX5_readLine 72 = .ok (.goto 9, 3) := by decide +kernel
theorem dX5_readLine_75 : decode cX5_readLine 75 = .ok (.aload_n 0, 1) := by decide +kernel
theorem dX5_readLine_76 : decode cX5_readLine 76 = .ok (.iconst 1, 1) := by decide +kernel
theorem dX5_readLine_77 : decode cX5_readLine 77 = .ok (.invokevirtual 77, 3) := by decide +kernel
theorem dX5_readLine_80 : decode cX5_readLine 80 = .ok (.istore_n 1, 1) := by decide +kernel
theorem dX5_readLine_81 : decode cX5_readLine 81 = .ok (.iload_n 1, 1) := by decide +kernel
theorem dX5_readLine_82 : decode cX5_readLine 82 = .ok (.ifCond .eq 14, 3) := by decide +kernel
theorem dX5_readLine_85 : decode cX5_readLine 85 = .ok (.aload_n 0, 1) := by decide +kernel
theorem dX5_readLine_86 : decode cX5_readLine 86 = .ok (.invokevirtual 81, 3) := by decide +kernel
theorem dX5_readLine_89 : decode cX5_readLine 89 = .ok (.ifCond .eq 7, 3) := by decide +kernel
theorem dX5_readLine_92 : decode cX5_readLine 92 = .ok (.iconst 1, 1) := by decide +kernel
theorem dX5_readLine_93 : decode cX5_readLine 93 = .ok (.goto 4, 3) := by decide +kernel
theorem dX5_readLine_96 : decode cX5_readLine 96 = .ok (.iconst 0, 1) := by decide +kernel
theorem dX5_readLine_97 : decode cX5_readLine 97 = .ok (.ireturn, 1) := by decide +kernel
theorem dX5_readRide_0 : decode cX5_readRide 0 = .ok (.aload_n 0, 1) := by decide +kernel
theorem dX5_readRide_1 : decode cX5_readRide 1 = .ok (.iconst 0, 1) := by decide +kernel
theorem dX5_readRide_2 : decode cX5_readRide 2 = .ok (.sipush 1439, 3) := by decide +kernel
theorem dX5_readRide_5 : decode cX5_readRide 5 = .ok (.invokevirtual 94, 3) := by decide +kernel
theorem dX5_readRide_8 : decode cX5_readRide 8 = .ok (.ifCond .ne 8, 3) := by decide +kernel
theorem dX5_readRide_11 : decode cX5_readRide 11 = .ok (.aload_n 0, 1) := by decide +kernel
theorem dX5_readRide_12 : decode cX5_readRide 12 = .ok (.invokevirtual 98, 3) := by decide +kernel
theorem dX5_readRide_15 : decode cX5_readRide 15 = .ok (.ireturn, 1) := by decide +kernel
theorem dX5_readRide_16 : decode cX5_readRide 16 = .ok (.aload_n 0, 1) := by decide +kernel
theorem dX5_readRide_17 : decode cX5_readRide 17 = .ok (.getfield 28, 3) := by decide +kernel
theorem dX5_readRide_20 : decode cX5_readRide 20 = .ok (.getfield 129, 3) := by decide +kernel
theorem dX5_readRide_23 : decode cX5_readRide 23 = .ok (.bipush 60, 2) := by decide +kernel
theorem dX5_readRide_25 : decode cX5_readRide 25 = .ok (.if_icmp .lt 9, 3) := by decide +kernel
theorem dX5_readRide_28 : decode cX5_readRide 28 = .ok (.aload_n 0, 1) := by decide +kernel
theorem dX5_readRide_29 : decode cX5_readRide 29 = .ok (.iconst 2, 1) := by decide +kernel
theorem dX5_readRide_30 : decode cX5_readRide 30 = .ok (.invokevirtual 77, 3) := by decide +kernel
theorem dX5_readRide_33 : decode cX5_readRide 33 = .ok (.ireturn, 1) := by decide +kernel
theorem dX5_readRide_34 : decode cX5_readRide 34 = .ok (.aload_n 0, 1) := by decide +kernel
theorem dX5_readRide_35 : decode cX5_readRide 35 = .ok (.getfield 62, 3) := by decide +kernel
theorem dX5_readRide_38 : decode cX5_readRide 38 = .ok (.iload_n 2, 1) := by decide +kernel
theorem dX5_readRide_39 : decode cX5_readRide 39 = .ok (.if_icmp .ge 9, 3) := by decide +kernel
theorem dX5_readRide_42 : decode cX5_readRide 42 = .ok (.aload_n 0, 1) := by decide +kernel
theorem dX5_readRide_43 : decode cX5_readRide 43 = .ok (.iconst 4, 1) := by decide +kernel
theorem dX5_readRide_44 : decode cX5_readRide 44 = .ok (.invokevirtual 77, 3) := by decide +kernel
theorem dX5_readRide_47 : decode cX5_readRide 47 = .ok (.ireturn, 1) := by decide +kernel
theorem dX5_readRide_48 : decode cX5_readRide 48 = .ok (.aload_n 0, 1) := by decide +kernel
theorem dX5_readRide_49 : decode cX5_readRide 49 = .ok (.getfield 62, 3) := by decide +kernel
theorem dX5_readRide_52 : decode cX5_readRide 52 = .ok (.istore_n 3, 1) := by decide +kernel
theorem dX5_readRide_53 : decode cX5_readRide 53 = .ok (.aload_n 0, 1) := by decide +kernel
theorem dX5_readRide_54 : decode cX5_readRide 54 = .ok (.invokevirtual 46, 3) := by decide +kernel
theorem dX5_readRide_57 : decode cX5_readRide 57 = .ok (.aload_n 0, 1) := by decide +kernel
theorem dX5_readRide_58 : decode cX5_readRide 58 = .ok (.iconst 0, 1) := by decide +kernel
theorem dX5_readRide_59 : decode cX5_readRide 59 = .ok (.sipush 1439, 3) := by decide +kernel
theorem dX5_readRide_62 : decode cX5_readRide 62 = .ok (.invokevirtual 94, 3) := by decide +kernel
theorem dX5_readRide_65 : decode cX5_readRide 65 = .ok (.ifCond .ne 8, 3) := by decide +kernel
theorem dX5_readRide_68 : decode cX5_readRide 68 = .ok (.aload_n 0, 1) := by decide +kernel
theorem dX5_readRide_69 : decode cX5_readRide 69 = .ok (.invokevirtual 98, 3) := by decide +kernel
theorem dX5_readRide_72 : decode cX5_readRide 72 = .ok (.ireturn, 1) := by decide +kernel
theorem dX5_readRide_73 : decode cX5_readRide 73 = .ok (.aload_n 0, 1) := by decide +kernel
theorem dX5_readRide_74 : decode cX5_readRide 74 = .ok (.getfield 62, 3) := by decide +kernel
theorem dX5_readRide_77 : decode cX5_readRide 77 = .ok (.iload_n 3, 1) := by decide +kernel
theorem dX5_readRide_78 : decode cX5_readRide 78 = .ok (.if_icmp .gt 9, 3) := by decide +kernel
theorem dX5_readRide_81 : decode cX5_readRide 81 = .ok (.aload_n 0, 1) := by decide +kernel
theorem dX5_readRide_82 : decode cX5_readRide 82 = .ok (.iconst 4, 1) := by decide +kernel
theorem dX5_readRide_83 : decode cX5_readRide 83 = .ok (.invokevirtual 77, 3) := by decide +kernel
theorem dX5_readRide_86 : decode cX5_readRide 86 = .ok (.ireturn, 1) := by decide +kernel
theorem dX5_readRide_87 : decode cX5_readRide 87 = .ok (.aload_n 0, 1) := by decide +kernel
theorem dX5_readRide_88 : decode cX5_readRide 88 = .ok (.getfield 62, 3) := by decide +kernel
theorem dX5_readRide_91 : decode cX5_readRide 91 = .ok (.istore 4, 2) := by decide +kernel
theorem dX5_readRide_93 : decode cX5_readRide 93 = .ok (.aload_n 0, 1) := by decide +kernel
theorem dX5_readRide_94 : decode cX5_readRide 94 = .ok (.invokevirtual 46, 3) := by decide +kernel
theorem dX5_readRide_97 : decode cX5_readRide 97 = .ok (.aload_n 0, 1) := by decide +kernel
theorem dX5_readRide_98 : decode cX5_readRide 98 = .ok (.invokevirtual 108, 3) := by decide +kernel
theorem dX5_readRide_101 : decode cX5_readRide 101 = .ok (.istore 5, 2) := by decide +kernel
theorem dX5_readRide_103 : decode cX5_readRide 103 = .ok (.iload 5, 2) := by decide +kernel
theorem dX5_readRide_105 : decode cX5_readRide 105 = .ok (.ifCond .ge 9, 3) := by decide +kernel
theorem dX5_readRide_108 : decode cX5_readRide 108 = .ok (.aload_n 0, 1) := by decide +kernel
theorem dX5_readRide_109 : decode cX5_readRide 109 = .ok (.iconst 1, 1) := by decide +kernel
theorem dX5_readRide_110 : decode cX5_readRide 110 = .ok (.invokevirtual 77, 3) := by decide +kernel
theorem dX5_readRide_113 : decode cX5_readRide 113 = .ok (.ireturn, 1) := by decide +kernel
theorem dX5_readRide_114 : decode cX5_readRide 114 = .ok (.iload 5, 2) := by decide +kernel
theorem dX5_readRide_116 : decode cX5_readRide 116 = .ok (.iload_n 1, 1) := by decide +kernel
theorem dX5_readRide_117 : decode cX5_readRide 117 = .ok (.if_icmp .ne 9, 3) := by decide +kernel
theorem dX5_readRide_120 : decode cX5_readRide 120 = .ok (.aload_n 0, 1) := by decide +kernel
theorem dX5_readRide_121 : decode cX5_readRide 121 = .ok (.iconst 3, 1) := by decide +kernel
theorem dX5_readRide_122 : decode cX5_readRide 122 = .ok (.invokevirtual 77, 3) := by decide +kernel
theorem dX5_readRide_125 : decode cX5_readRide 125 = .ok (.ireturn, 1) := by decide +kernel
theorem dX5_readRide_126 : decode cX5_readRide 126 = .ok (.aload_n 0, 1) := by decide +kernel
theorem dX5_readRide_127 : decode cX5_readRide 127 = .ok (.getfield 28, 3) := by decide +kernel
theorem dX5_readRide_130 : decode cX5_readRide 130 = .ok (.iload_n 1, 1) := by decide +kernel
theorem dX5_readRide_131 : decode cX5_readRide 131 = .ok (.iload_n 3, 1) := by decide +kernel
theorem dX5_readRide_132 : decode cX5_readRide 132 = .ok (.iload 4, 2) := by decide +kernel
theorem dX5_readRide_134 : decode cX5_readRide 134 = .ok (.iload 5, 2) := by decide +kernel
theorem dX5_readRide_136 : decode cX5_readRide 136 = .ok (.invokevirtual 135, 3) := by decide +kernel
theorem dX5_readRide_139 : decode cX5_readRide 139 = .ok (.aload_n 0, 1) := by decide +kernel
theorem dX5_readRide_140 : decode cX5_readRide 140 = .ok (.invokevirtual 46, 3) := by decide +kernel
theorem dX5_readRide_143 : decode cX5_readRide 143 = .ok (.iconst 1, 1) := by decide +kernel
theorem dX5_readRide_144 : decode cX5_readRide 144 = .ok (.ireturn, 1) := by decide +kernel
theorem dX5_readStop_0 : decode cX5_readStop 0 = .ok (.aload_n 0, 1) := by decide +kernel
theorem dX5_readStop_1 : decode cX5_readStop 1 = .ok (.getfield 28, 3) := by decide +kernel
theorem dX5_readStop_4 : decode cX5_readStop 4 = .ok (.getfield 84, 3) := by decide +kernel
theorem dX5_readStop_7 : decode cX5_readStop 7 = .ok (.bipush 10, 2) := by decide +kernel
theorem dX5_readStop_9 : decode cX5_readStop 9 = .ok (.if_icmp .lt 9, 3) := by decide +kernel
theorem dX5_readStop_12 : decode cX5_readStop 12 = .ok (.aload_n 0, 1) := by decide +kernel
theorem dX5_readStop_13 : decode cX5_readStop 13 = .ok (.iconst 2, 1) := by decide +kernel
theorem dX5_readStop_14 : decode cX5_readStop 14 = .ok (.invokevirtual 77, 3) := by decide +kernel
theorem dX5_readStop_17 : decode cX5_readStop 17 = .ok (.ireturn, 1) := by decide +kernel
theorem dX5_readStop_18 : decode cX5_readStop 18 = .ok (.aload_n 0, 1) := by decide +kernel
theorem dX5_readStop_19 : decode cX5_readStop 19 = .ok (.invokevirtual 46, 3) := by decide +kernel
theorem dX5_readStop_22 : decode cX5_readStop 22 = .ok (.aload_n 0, 1) := by decide +kernel
theorem dX5_readStop_23 : decode cX5_readStop 23 = .ok (.invokevirtual 87, 3) := by decide +kernel
theorem dX5_readStop_26 : decode cX5_readStop 26 = .ok (.ifCond .ne 9, 3) := by decide +kernel
theorem dX5_readStop_29 : decode cX5_readStop 29 = .ok (.aload_n 0, 1) := by decide +kernel
theorem dX5_readStop_30 : decode cX5_readStop 30 = .ok (.iconst 1, 1) := by decide +kernel
theorem dX5_readStop_31 : decode cX5_readStop 31 = .ok (.invokevirtual 77, 3) := by decide +kernel
theorem dX5_readStop_34 : decode cX5_readStop 34 = .ok (.ireturn, 1) := by decide +kernel
theorem dX5_readStop_35 : decode cX5_readStop 35 = .ok (.aload_n 0, 1) := by decide +kernel
theorem dX5_readStop_36 : decode cX5_readStop 36 = .ok (.getfield 62, 3) := by decide +kernel
theorem dX5_readStop_39 : decode cX5_readStop 39 = .ok (.istore_n 1, 1) := by decide +kernel
theorem dX5_readStop_40 : decode cX5_readStop 40 = .ok (.aload_n 0, 1) := by decide +kernel
theorem dX5_readStop_41 : decode cX5_readStop 41 = .ok (.getfield 28, 3) := by decide +kernel
theorem dX5_readStop_44 : decode cX5_readStop 44 = .ok (.iload_n 1, 1) := by decide +kernel
theorem dX5_readStop_45 : decode cX5_readStop 45 = .ok (.invokevirtual 90, 3) := by decide +kernel
theorem dX5_readStop_48 : decode cX5_readStop 48 = .ok (.ifCond .lt 9, 3) := by decide +kernel
theorem dX5_readStop_51 : decode cX5_readStop 51 = .ok (.aload_n 0, 1) := by decide +kernel
theorem dX5_readStop_52 : decode cX5_readStop 52 = .ok (.iconst 3, 1) := by decide +kernel
theorem dX5_readStop_53 : decode cX5_readStop 53 = .ok (.invokevirtual 77, 3) := by decide +kernel
theorem dX5_readStop_56 : decode cX5_readStop 56 = .ok (.ireturn, 1) := by decide +kernel
theorem dX5_readStop_57 : decode cX5_readStop 57 = .ok (.aload_n 0, 1) := by decide +kernel
theorem dX5_readStop_58 : decode cX5_readStop 58 = .ok (.invokevirtual 46, 3) := by decide +kernel
theorem dX5_readStop_61 : decode cX5_readStop 61 = .ok (.aload_n 0, 1) := by decide +kernel
theorem dX5_readStop_62 : decode cX5_readStop 62 = .ok (.iconst 0, 1) := by decide +kernel
theorem dX5_readStop_63 : decode cX5_readStop 63 = .ok (.bipush 60, 2) := by decide +kernel
theorem dX5_readStop_65 : decode cX5_readStop 65 = .ok (.invokevirtual 94, 3) := by decide +kernel
theorem dX5_readStop_68 : decode cX5_readStop 68 = .ok (.ifCond .ne 8, 3) := by decide +kernel
theorem dX5_readStop_71 : decode cX5_readStop 71 = .ok (.aload_n 0, 1) := by decide +kernel
theorem dX5_readStop_72 : decode cX5_readStop 72 = .ok (.invokevirtual 98, 3) := by decide +kernel
theorem dX5_readStop_75 : decode cX5_readStop 75 = .ok (.ireturn, 1) := by decide +kernel
theorem dX5_readStop_76 : decode cX5_readStop 76 = .ok (.aload_n 0, 1) := by decide +kernel
theorem dX5_readStop_77 : decode cX5_readStop 77 = .ok (.getfield 28, 3) := by decide +kernel
theorem dX5_readStop_80 : decode cX5_readStop 80 = .ok (.iload_n 1, 1) := by decide +kernel
theorem dX5_readStop_81 : decode cX5_readStop 81 = .ok (.aload_n 0, 1) := by decide +kernel
theorem dX5_readStop_82 : decode cX5_readStop 82 = .ok (.getfield 62, 3) := by decide +kernel
theorem dX5_readStop_85 : decode cX5_readStop 85 = .ok (.invokevirtual 101, 3) := by decide +kernel
theorem dX5_readStop_88 : decode cX5_readStop 88 = .ok (.aload_n 0, 1) := by decide +kernel
theorem dX5_readStop_89 : decode cX5_readStop 89 = .ok (.invokevirtual 46, 3) := by decide +kernel
theorem dX5_readStop_92 : decode cX5_readStop 92 = .ok (.iconst 1, 1) := by decide +kernel
theorem dX5_readStop_93 : decode cX5_readStop 93 = .ok (.ireturn, 1) := by decide +kernel
theorem dX5_readTrip_0 : decode cX5_readTrip 0 = .ok (.aload_n 0, 1) := by decide +kernel
theorem dX5_readTrip_1 : decode cX5_readTrip 1 = .ok (.getfield 28, 3) := by decide +kernel
theorem dX5_readTrip_4 : decode cX5_readTrip 4 = .ok (.getfield 116, 3) := by decide +kernel
theorem dX5_readTrip_7 : decode cX5_readTrip 7 = .ok (.bipush 20, 2) := by decide +kernel
theorem dX5_readTrip_9 : decode cX5_readTrip 9 = .ok (.if_icmp .lt 9, 3) := by decide +kernel
theorem dX5_readTrip_12 : decode cX5_readTrip 12 = .ok (.aload_n 0, 1) := by decide +kernel
theorem dX5_readTrip_13 : decode cX5_readTrip 13 = .ok (.iconst 2, 1) := by decide +kernel
theorem dX5_readTrip_14 : decode cX5_readTrip 14 = .ok (.invokevirtual 77, 3) := by decide +kernel
theorem dX5_readTrip_17 : decode cX5_readTrip 17 = .ok (.ireturn, 1) := by decide +kernel
theorem dX5_readTrip_18 : decode cX5_readTrip 18 = .ok (.aload_n 0, 1) := by decide +kernel
theorem dX5_readTrip_19 : decode cX5_readTrip 19 = .ok (.invokevirtual 46, 3) := by decide +kernel
theorem dX5_readTrip_22 : decode cX5_readTrip 22 = .ok (.aload_n 0, 1) := by decide +kernel
theorem dX5_readTrip_23 : decode cX5_readTrip 23 = .ok (.invokevirtual 108, 3) := by decide +kernel
theorem dX5_readTrip_26 : decode cX5_readTrip 26 = .ok (.istore_n 1, 1) := by decide +kernel
theorem dX5_readTrip_27 : decode cX5_readTrip 27 = .ok (.iload_n 1, 1) := by decide +kernel
theorem dX5_readTrip_28 : decode cX5_readTrip 28 = .ok (.ifCond .ge 9, 3) := by decide +kernel
theorem dX5_readTrip_31 : decode cX5_readTrip 31 = .ok (.aload_n 0, 1) := by decide +kernel
theorem dX5_readTrip_32 : decode cX5_readTrip 32 = .ok (.iconst 1, 1) := by decide +kernel
theorem dX5_readTrip_33 : decode cX5_readTrip 33 = .ok (.invokevirtual 77, 3) := by decide +kernel
theorem dX5_readTrip_36 : decode cX5_readTrip 36 = .ok (.ireturn, 1) := by decide +kernel
theorem dX5_readTrip_37 : decode cX5_readTrip 37 = .ok (.aload_n 0, 1) := by decide +kernel
theorem dX5_readTrip_38 : decode cX5_readTrip 38 = .ok (.invokevirtual 46, 3) := by decide +kernel
theorem dX5_readTrip_41 : decode cX5_readTrip 41 = .ok (.aload_n 0, 1) := by decide +kernel
theorem dX5_readTrip_42 : decode cX5_readTrip 42 = .ok (.getfield 28, 3) := by decide +kernel
theorem dX5_readTrip_45 : decode cX5_readTrip 45 = .ok (.invokevirtual 119, 3) := by decide +kernel
theorem dX5_readTrip_48 : decode cX5_readTrip 48 = .ok (.iconst 0, 1) := by decide +kernel
theorem dX5_readTrip_49 : decode cX5_readTrip 49 = .ok (.istore_n 2, 1) := by decide +kernel
theorem dX5_readTrip_50 : decode cX5_readTrip 50 = .ok (.iconst 0, 1) := by decide +kernel
theorem dX5_readTrip_51 : decode cX5_readTrip 51 = .ok (.istore_n 3, 1) := by decide +kernel
theorem dX5_readTrip_52 : decode cX5_readTrip 52 = .ok (.iload_n 3, 1) := by decide +kernel
theorem dX5_readTrip_53 : decode cX5_readTrip 53 = .ok (.ifCond .eq 17, 3) := by decide +kernel
theorem dX5_readTrip_56 : decode cX5_readTrip 56 = .ok (.aload_n 0, 1) := by decide +kernel
theorem dX5_readTrip_57 : decode cX5_readTrip 57 = .ok (.getfield 49, 3) := by decide +kernel
theorem dX5_readTrip_60 : decode cX5_readTrip 60 = .ok (.iconst 2, 1) := by decide +kernel
theorem dX5_readTrip_61 : decode cX5_readTrip 61 = .ok (.if_icmp .ne 62, 3) := by decide +kernel
theorem dX5_readTrip_64 : decode cX5_readTrip 64 = .ok (.iload_n 3, 1) := by decide +kernel
theorem dX5_readTrip_65 : decode cX5_readTrip 65 = .ok (.bipush 60, 2) := by decide +kernel
theorem dX5_readTrip_67 : decode cX5_readTrip 67 = .ok (.if_icmp .gt 56, 3) := by decide +kernel
theorem dX5_readTrip_70 : decode cX5_readTrip 70 = .ok (.aload_n 0, 1) := by decide +kernel
theorem dX5_readTrip_71 : decode cX5_readTrip 71 = .ok (.iload_n 1, 1) := by decide +kernel
theorem dX5_readTrip_72 : decode cX5_readTrip 72 = .ok (.iload_n 2, 1) := by decide +kernel
theorem dX5_readTrip_73 : decode cX5_readTrip 73 = .ok (.invokevirtual 122, 3) := by decide +kernel
theorem dX5_readTrip_76 : decode cX5_readTrip 76 = .ok (.ifCond .ne 5, 3) := by decide +kernel
theorem dX5_readTrip_79 : decode cX5_readTrip 79 = .ok (.iconst 0, 1) := by decide +kernel
theorem dX5_readTrip_80 : decode cX5_readTrip 80 = .ok (.ireturn, 1) := by decide +kernel
theorem dX5_readTrip_81 : decode cX5_readTrip 81 = .ok (.aload_n 0, 1) := by decide +kernel
theorem dX5_readTrip_82 : decode cX5_readTrip 82 = .ok (.getfield 28, 3) := by decide +kernel
theorem dX5_readTrip_85 : decode cX5_readTrip 85 = .ok (.getfield 125, 3) := by decide +kernel
theorem dX5_readTrip_88 : decode cX5_readTrip 88 = .ok (.aload_n 0, 1) := by decide +kernel
theorem dX5_readTrip_89 : decode cX5_readTrip 89 = .ok (.getfield 28, 3) := by decide +kernel
theorem dX5_readTrip_92 : decode cX5_readTrip 92 = .ok (.getfield 129, 3) := by decide +kernel
theorem dX5_readTrip_95 : decode cX5_readTrip 95 = .ok (.iconst 1, 1) := by decide +kernel
theorem dX5_readTrip_96 : decode cX5_readTrip 96 = .ok (.isub, 1) := by decide +kernel
theorem dX5_readTrip_97 : decode cX5_readTrip 97 = .ok (.iaload, 1) := by decide +kernel
theorem dX5_readTrip_98 : decode cX5_readTrip 98 = .ok (.istore_n 1, 1) := by decide +kernel
theorem dX5_readTrip_99 : decode cX5_readTrip 99 = .ok (.aload_n 0, 1) := by decide +kernel
theorem dX5_readTrip_100 : decode cX5_readTrip 100 = .ok (.getfield 28, 3) := by decide +kernel
theorem dX5_readTrip_103 : decode cX5_readTrip 103 = .ok (.getfield 132, 3) := by decide +kernel
theorem dX5_readTrip_106 : decode cX5_readTrip 106 = .ok (.aload_n 0, 1) := by decide +kernel
theorem dX5_readTrip_107 : decode cX5_readTrip 107 = .ok (.getfield 28, 3) := by decide +kernel
theorem dX5_readTrip_110 : decode cX5_readTrip 110 = .ok (.getfield 129, 3) := by decide +kernel
theorem dX5_readTrip_113 : decode cX5_readTrip 113 = .ok (.iconst 1, 1) := by decide +kernel
theorem dX5_readTrip_114 : decode cX5_readTrip 114 = .ok (.isub, 1) := by decide +kernel
theorem dX5_readTrip_115 : decode cX5_readTrip 115 = .ok (.iaload, 1) := by decide +kernel
theorem dX5_readTrip_116 : decode cX5_readTrip 116 = .ok (.istore_n 2, 1) := by decide +kernel
theorem dX5_readTrip_117 : decode cX5_readTrip 117 = .ok (.iinc 3 1, 3) := by decide +kernel
theorem dX5_readTrip_120 : decode cX5_readTrip 120 = .ok (.goto (-68), 3) := by decide +kernel
theorem dX5_readTrip_123 : decode cX5_readTrip 123 = .ok (.iconst 1, 1) := by decide +kernel
theorem dX5_readTrip_124 : decode cX5_readTrip 124 = .ok (.ireturn, 1) := by decide +kernel
theorem dX5_readWalk_0 : decode cX5_readWalk 0 = .ok (.aload_n 0, 1) := by decide +kernel
theorem dX5_readWalk_1 : decode cX5_readWalk 1 = .ok (.getfield 28, 3) := by decide +kernel
theorem dX5_readWalk_4 : decode cX5_readWalk 4 = .ok (.getfield 105, 3) := by decide +kernel
theorem dX5_readWalk_7 : decode cX5_readWalk 7 = .ok (.bipush 12, 2) := by decide +kernel
theorem dX5_readWalk_9 : decode cX5_readWalk 9 = .ok (.if_icmp .lt 9, 3) := by decide +kernel
theorem dX5_readWalk_12 : decode cX5_readWalk 12 = .ok (.aload_n 0, 1) := by decide +kernel
theorem dX5_readWalk_13 : decode cX5_readWalk 13 = .ok (.iconst 2, 1) := by decide +kernel
theorem dX5_readWalk_14 : decode cX5_readWalk 14 = .ok (.invokevirtual 77, 3) := by decide +kernel
theorem dX5_readWalk_17 : decode cX5_readWalk 17 = .ok (.ireturn, 1) := by decide +kernel
theorem dX5_readWalk_18 : decode cX5_readWalk 18 = .ok (.aload_n 0, 1) := by decide +kernel
theorem dX5_readWalk_19 : decode cX5_readWalk 19 = .ok (.invokevirtual 46, 3) := by decide +kernel
theorem dX5_readWalk_22 : decode cX5_readWalk 22 = .ok (.aload_n 0, 1) := by decide +kernel
theorem dX5_readWalk_23 : decode cX5_readWalk 23 = .ok (.invokevirtual 108, 3) := by decide +kernel
theorem dX5_readWalk_26 : decode cX5_readWalk 26 = .ok (.istore_n 1, 1) := by decide +kernel
theorem dX5_readWalk_27 : decode cX5_readWalk 27 = .ok (.iload_n 1, 1) := by decide +kernel
theorem dX5_readWalk_28 : decode cX5_readWalk 28 = .ok (.ifCond .ge 9, 3) := by decide +kernel
theorem dX5_readWalk_31 : decode cX5_readWalk 31 = .ok (.aload_n 0, 1) := by decide +kernel
theorem dX5_readWalk_32 : decode cX5_readWalk 32 = .ok (.iconst 1, 1) := by decide +kernel
theorem dX5_readWalk_33 : decode cX5_readWalk 33 = .ok (.invokevirtual 77, 3) := by decide +kernel
theorem dX5_readWalk_36 : decode cX5_readWalk 36 = .ok (.ireturn, 1) := by decide +kernel
theorem dX5_readWalk_37 : decode cX5_readWalk 37 = .ok (.aload_n 0, 1) := by decide +kernel
theorem dX5_readWalk_38 : decode cX5_readWalk 38 = .ok (.invokevirtual 46, 3) := by decide +kernel
theorem dX5_readWalk_41 : decode cX5_readWalk 41 = .ok (.aload_n 0, 1) := by decide +kernel
theorem dX5_readWalk_42 : decode cX5_readWalk 42 = .ok (.invokevirtual 108, 3) := by decide +kernel
theorem dX5_readWalk_45 : decode cX5_readWalk 45 = .ok (.istore_n 2, 1) := by decide +kernel
theorem dX5_readWalk_46 : decode cX5_readWalk 46 = .ok (.iload_n 2, 1) := by decide +kernel
theorem dX5_readWalk_47 : decode cX5_readWalk 47 = .ok (.ifCond .ge 9, 3) := by decide +kernel
theorem dX5_readWalk_50 : decode cX5_readWalk 50 = .ok (.aload_n 0, 1) := by decide +kernel
theorem dX5_readWalk_51 : decode cX5_readWalk 51 = .ok (.iconst 1, 1) := by decide +kernel
theorem dX5_readWalk_52 : decode cX5_readWalk 52 = .ok (.invokevirtual 77, 3) := by decide +kernel
theorem dX5_readWalk_55 : decode cX5_readWalk 55 = .ok (.ireturn, 1) := by decide +kernel
theorem dX5_readWalk_56 : decode cX5_readWalk 56 = .ok (.iload_n 1, 1) := by decide +kernel
theorem dX5_readWalk_57 : decode cX5_readWalk 57 = .ok (.iload_n 2, 1) := by decide +kernel
theorem dX5_readWalk_58 : decode cX5_readWalk 58 = .ok (.if_icmp .ne 9, 3) := by decide +kernel
theorem dX5_readWalk_61 : decode cX5_readWalk 61 = .ok (.aload_n 0, 1) := by decide +kernel
theorem dX5_readWalk_62 : decode cX5_readWalk 62 = .ok (.iconst 3, 1) := by decide +kernel
theorem dX5_readWalk_63 : decode cX5_readWalk 63 = .ok (.invokevirtual 77, 3) := by decide +kernel
theorem dX5_readWalk_66 : decode cX5_readWalk 66 = .ok (.ireturn, 1) := by decide +kernel
theorem dX5_readWalk_67 : decode cX5_readWalk 67 = .ok (.aload_n 0, 1) := by decide +kernel
theorem dX5_readWalk_68 : decode cX5_readWalk 68 = .ok (.invokevirtual 46, 3) := by decide +kernel
theorem dX5_readWalk_71 : decode cX5_readWalk 71 = .ok (.aload_n 0, 1) := by decide +kernel
theorem dX5_readWalk_72 : decode cX5_readWalk 72 = .ok (.iconst 1, 1) := by decide +kernel
theorem dX5_readWalk_73 : decode cX5_readWalk 73 = .ok (.sipush 240, 3) := by decide +kernel
theorem dX5_readWalk_76 : decode cX5_readWalk 76 = .ok (.invokevirtual 94, 3) := by decide +kernel
theorem dX5_readWalk_79 : decode cX5_readWalk 79 = .ok (.ifCond .ne 8, 3) := by decide +kernel
theorem dX5_readWalk_82 : decode cX5_readWalk 82 = .ok (.aload_n 0, 1) := by decide +kernel
theorem dX5_readWalk_83 : decode cX5_readWalk 83 = .ok (.invokevirtual 98, 3) := by decide +kernel
theorem dX5_readWalk_86 : decode cX5_readWalk 86 = .ok (.ireturn, 1) := by decide +kernel
theorem dX5_readWalk_87 : decode cX5_readWalk 87 = .ok (.aload_n 0, 1) := by decide +kernel
theorem dX5_readWalk_88 : decode cX5_readWalk 88 = .ok (.getfield 28, 3) := by decide +kernel
theorem dX5_readWalk_91 : decode cX5_readWalk 91 = .ok (.iload_n 1, 1) := by decide +kernel
theorem dX5_readWalk_92 : decode cX5_readWalk 92 = .ok (.iload_n 2, 1) := by decide +kernel
theorem dX5_readWalk_93 : decode cX5_readWalk 93 = .ok (.aload_n 0, 1) := by decide +kernel
theorem dX5_readWalk_94 : decode cX5_readWalk 94 = .ok (.getfield 62, 3) := by decide +kernel
theorem dX5_readWalk_97 : decode cX5_readWalk 97 = .ok (.invokevirtual 112, 3) := by decide +kernel
theorem dX5_readWalk_100 : decode cX5_readWalk 100 = .ok (.aload_n 0, 1) := by decide +kernel
theorem dX5_readWalk_101 : decode cX5_readWalk 101 = .ok (.invokevirtual 46, 3) := by decide +kernel
theorem dX5_readWalk_104 : decode cX5_readWalk 104 = .ok (.iconst 1, 1) := by decide +kernel
theorem dX5_readWalk_105 : decode cX5_readWalk 105 = .ok (.ireturn, 1) := by decide +kernel
theorem dX5_stopHere_0 : decode cX5_stopHere 0 = .ok (.aload_n 0, 1) := by decide +kernel
theorem dX5_stopHere_1 : decode cX5_stopHere 1 = .ok (.invokevirtual 87, 3) := by decide +kernel
theorem dX5_stopHere_4 : decode cX5_stopHere 4 = .ok (.ifCond .eq 17, 3) := by decide +kernel
theorem dX5_stopHere_7 : decode cX5_stopHere 7 = .ok (.aload_n 0, 1) := by decide +kernel
theorem dX5_stopHere_8 : decode cX5_stopHere 8 = .ok (.getfield 28, 3) := by decide +kernel
theorem dX5_stopHere_11 : decode cX5_stopHere 11 = .ok (.aload_n 0, 1) := by decide +kernel
theorem dX5_stopHere_12 : decode cX5_stopHere 12 = .ok (.getfield 62, 3) := by decide +kernel
theorem dX5_stopHere_15 : decode cX5_stopHere 15 = .ok (.invokevirtual 90, 3) := by decide +kernel
theorem dX5_stopHere_18 : decode cX5_stopHere 18 = .ok (.goto 4, 3) := by decide +kernel
theorem dX5_stopHere_21 : decode cX5_stopHere 21 = .ok (.iconst (-1), 1) := by decide +kernel
theorem dX5_stopHere_22 : decode cX5_stopHere 22 = .ok (.ireturn, 1) := by decide +kernel
theorem dX6_begin_0 : decode cX6_begin 0 = .ok (.aload_n 0, 1) := by decide +kernel
theorem dX6_begin_1 : decode cX6_begin 1 = .ok (.aload_n 1, 1) := by decide +kernel
theorem dX6_begin_2 : decode cX6_begin 2 = .ok (.putfield 22, 3) := by decide +kernel
theorem dX6_begin_5 : decode cX6_begin 5 = .ok (.aload_n 0, 1) := by decide +kernel
theorem dX6_begin_6 : decode cX6_begin 6 = .ok (.lconst 0, 1) := by decide +kernel
theorem dX6_begin_7 : decode cX6_begin 7 = .ok (.putfield 26, 3) := by decide +kernel
theorem dX6_begin_10 : decode cX6_begin 10 = .ok (.aload_n 0, 1) := by decide +kernel
theorem dX6_begin_11 : decode cX6_begin 11 = .ok (.iconst 0, 1) := by decide +kernel
theorem dX6_begin_12 : decode cX6_begin 12 = .ok (.putfield 30, 3) := by decide +kernel
theorem dX6_begin_15 : decode cX6_begin 15 = .ok (.iconst 0, 1) := by decide +kernel
theorem dX6_begin_16 : decode cX6_begin 16 = .ok (.istore_n 2, 1) := by decide +kernel
theorem dX6_begin_17 : decode cX6_begin 17 = .ok (.iload_n 2, 1) := by decide +kernel
theorem dX6_begin_18 : decode cX6_begin 18 = .ok (.aload_n 0, 1) := by decide +kernel
theorem dX6_begin_19 : decode cX6_begin 19 = .ok (.getfield 22, 3) := by decide +kernel
theorem dX6_begin_22 : decode cX6_begin 22 = .ok (.getfield 34, 3) := by decide +kernel
theorem dX6_begin_25 : decode cX6_begin 25 = .ok (.if_icmp .ge 15, 3) := by decide +kernel
theorem dX6_begin_28 : decode cX6_begin 28 = .ok (.aload_n 0, 1) := by decide +kernel
theorem dX6_begin_29 : decode cX6_begin 29 = .ok (.iload_n 2, 1) := by decide +kernel
theorem dX6_begin_30 : decode cX6_begin 30 = .ok (.iconst 0, 1) := by decide +kernel
theorem dX6_begin_31 : decode cX6_begin 31 = .ok (.invokevirtual 40, 3) := by decide +kernel
theorem dX6_begin_34 : decode cX6_begin 34 = .ok (.iinc 2 1, 3) := by decide +kernel
theorem dX6_begin_37 : decode cX6_begin 37 = .ok (.goto (-20), 3) := by decide +kernel
theorem dX6_begin_40 : decode cX6_begin 40 = .ok (.return_, 1) := by decide +kernel
theorem dX6_cancelledRides_0 : decode cX6_cancelledRides 0 = .ok (.iconst 0, 1) := by decide +kernel
theorem dX6_cancelledRides_1 : decode cX6_cancelledRides 1 = .ok (.istore_n 1, 1) := by decide +kernel
theorem dX6_cancelledRides_2 : decode cX6_cancelledRides 2 = .ok (.iconst 0, 1) := by decide +kernel
theorem dX6_cancelledRides_3 : decode cX6_cancelledRides 3 = .ok (.istore_n 2, 1) := by decide +kernel
theorem dX6_cancelledRides_4 : decode cX6_cancelledRides 4 = .ok (.iload_n 2, 1) := by decide +kernel
theorem dX6_cancelledRides_5 : decode cX6_cancelledRides 5 = .ok (.aload_n 0, 1) := by decide +kernel
theorem dX6_cancelledRides_6 : decode cX6_cancelledRides 6 = .ok (.getfield 22, 3) := by decide +kernel
theorem dX6_cancelledRides_9 : decode cX6_cancelledRides 9 = .ok (.getfield 34, 3) := by decide +kernel
theorem dX6_cancelledRides_12 : decode cX6_cancelledRides 12 = .ok (.if_icmp .ge 20, 3) := by decide +kernel
theorem dX6_cancelledRides_15 : decode cX6_cancelledRides 15 = .ok (.aload_n 0, 1) := by decide +kernel
theorem dX6_cancelledRides_16 : decode cX6_cancelledRides 16 = .ok (.iload_n 2, 1) := by decide +kernel
theorem dX6_cancelledRides_17 : decode cX6_cancelledRides 17 = .ok (.invokevirtual 57, 3) := by decide +kernel
theorem dX6_cancelledRides_20 : decode cX6_cancelledRides 20 = .ok (.ifCond .eq 6, 3) := by decide +kernel
theorem dX6_cancelledRides_23 : decode cX6_cancelledRides 23 = .ok (.iinc 1 1, 3) := by decide +kernel
theorem dX6_cancelledRides_26 : decode cX6_cancelledRides 26 = .ok (.iinc 2 1, 3) := by decide +kernel
theorem dX6_cancelledRides_29 : decode cX6_cancelledRides 29 = .ok (.goto (-25), 3) := by decide +kernel
theorem dX6_cancelledRides_32 : decode cX6_cancelledRides 32 = .ok (.iload_n 1, 1) := by decide +kernel
theorem dX6_cancelledRides_33 : decode cX6_cancelledRides 33 = .ok (.ireturn, 1) := by decide +kernel
theorem dX6_copy_0 : decode cX6_copy 0 = .ok (.aload_n 1, 1) := by decide +kernel
theorem dX6_copy_1 : decode cX6_copy 1 = .ok (.invokevirtual 44, 3) := by decide +kernel
theorem dX6_copy_4 : decode cX6_copy 4 = .ok (.aload_n 0, 1) := by decide +kernel
theorem dX6_copy_5 : decode cX6_copy 5 = .ok (.aload_n 1, 1) := by decide +kernel
theorem dX6_copy_6 : decode cX6_copy 6 = .ok (.getfield 22, 3) := by decide +kernel
theorem dX6_copy_9 : decode cX6_copy 9 = .ok (.putfield 22, 3) := by decide +kernel
theorem dX6_copy_12 : decode cX6_copy 12 = .ok (.aload_n 0, 1) := by decide +kernel
theorem dX6_copy_13 : decode cX6_copy 13 = .ok (.aload_n 1, 1) := by decide +kernel
theorem dX6_copy_14 : decode cX6_copy 14 = .ok (.getfield 26, 3) := by decide +kernel
theorem dX6_copy_17 : decode cX6_copy 17 = .ok (.putfield 26, 3) := by decide +kernel
theorem dX6_copy_20 : decode cX6_copy 20 = .ok (.aload_n 0, 1) := by decide +kernel
theorem dX6_copy_21 : decode cX6_copy 21 = .ok (.iconst 1, 1) := by decide +kernel
theorem dX6_copy_22 : decode cX6_copy 22 = .ok (.putfield 30, 3) := by decide +kernel
theorem dX6_copy_25 : decode cX6_copy 25 = .ok (.iconst 0, 1) := by decide +kernel
theorem dX6_copy_26 : decode cX6_copy 26 = .ok (.istore_n 2, 1) := by decide +kernel
theorem dX6_copy_27 : decode cX6_copy 27 = .ok (.iload_n 2, 1) := by decide +kernel
theorem dX6_copy_28 : decode cX6_copy 28 = .ok (.aload_n 0, 1) := by decide +kernel
theorem dX6_copy_29 : decode cX6_copy 29 = .ok (.getfield 22, 3) := by decide +kernel
theorem dX6_copy_32 : decode cX6_copy 32 = .ok (.getfield 34, 3) := by decide +kernel
theorem dX6_copy_35 : decode cX6_copy 35 = .ok (.if_icmp .ge 45, 3) := by decide +kernel
theorem dX6_copy_38 : decode cX6_copy 38 = .ok (.aload_n 0, 1) := by decide +kernel
theorem dX6_copy_39 : decode cX6_copy 39 = .ok (.getfield 9, 3) := by decide +kernel
theorem dX6_copy_42 : decode cX6_copy 42 = .ok (.iload_n 2, 1) := by decide +kernel
theorem dX6_copy_43 : decode cX6_copy 43 = .ok (.aload_n 1, 1) := by decide +kernel
theorem dX6_copy_44 : decode cX6_copy 44 = .ok (.getfield 9, 3) := by decide +kernel
theorem dX6_copy_47 : decode cX6_copy 47 = .ok (.iload_n 2, 1) := by decide +kernel
theorem dX6_copy_48 : decode cX6_copy 48 = .ok (.iaload, 1) := by decide +kernel
theorem dX6_copy_49 : decode cX6_copy 49 = .ok (.iastore, 1) := by decide +kernel
theorem dX6_copy_50 : decode cX6_copy 50 = .ok (.aload_n 0, 1) := by decide +kernel
theorem dX6_copy_51 : decode cX6_copy 51 = .ok (.getfield 15, 3) := by decide +kernel
theorem dX6_copy_54 : decode cX6_copy 54 = .ok (.iload_n 2, 1) := by decide +kernel
theorem dX6_copy_55 : decode cX6_copy 55 = .ok (.aload_n 1, 1) := by decide +kernel
theorem dX6_copy_56 : decode cX6_copy 56 = .ok (.getfield 15, 3) := by decide +kernel
theorem dX6_copy_59 : decode cX6_copy 59 = .ok (.iload_n 2, 1) := by decide +kernel
theorem dX6_copy_60 : decode cX6_copy 60 = .ok (.iaload, 1) := by decide +kernel
theorem dX6_copy_61 : decode cX6_copy 61 = .ok (.iastore, 1) := by decide +kernel
theorem dX6_copy_62 : decode cX6_copy 62 = .ok (.aload_n 0, 1) := by decide +kernel
theorem dX6_copy_63 : decode cX6_copy 63 = .ok (.getfield 18, 3) := by decide +kernel
theorem dX6_copy_66 : decode cX6_copy 66 = .ok (.iload_n 2, 1) := by decide +kernel
theorem dX6_copy_67 : decode cX6_copy 67 = .ok (.aload_n 1, 1) := by decide +kernel
theorem dX6_copy_68 : decode cX6_copy 68 = .ok (.getfield 18, 3) := by decide +kernel
theorem dX6_copy_71 : decode cX6_copy 71 = .ok (.iload_n 2, 1) := by decide +kernel
theorem dX6_copy_72 : decode cX6_copy 72 = .ok (.laload, 1) := by decide +kernel
theorem dX6_copy_73 : decode cX6_copy 73 = .ok (.lastore, 1) := by decide +kernel
theorem dX6_copy_74 : decode cX6_copy 74 = .ok (.iinc 2 1, 3) := by decide +kernel
theorem dX6_copy_77 : decode cX6_copy 77 = .ok (.goto (-50), 3) := by decide +kernel
theorem dX6_copy_80 : decode cX6_copy 80 = .ok (.return_, 1) := by decide +kernel
theorem dX6_init_0 : decode cX6_init 0 = .ok (.aload_n 0, 1) := by decide +kernel
theorem dX6_init_1 : decode cX6_init 1 = .ok (.invokespecial 3, 3) := by decide +kernel
theorem dX6_init_4 : decode cX6_init 4 = .ok (.aload_n 0, 1) := by decide +kernel
theorem dX6_init_5 : decode cX6_init 5 = .ok (.bipush 60, 2) := by decide +kernel
theorem dX6_init_7 : decode cX6_init 7 = .ok (.newarray .int, 2) := by decide +kernel
theorem dX6_init_9 : decode cX6_init 9 = .ok (.putfield 9, 3) := by decide +kernel
theorem dX6_init_12 : decode cX6_init 12 = .ok (.aload_n 0, 1) := by decide +kernel
theorem dX6_init_13 : decode cX6_init 13 = .ok (.bipush 60, 2) := by decide +kernel
theorem dX6_init_15 : decode cX6_init 15 = .ok (.newarray .int, 2) := by decide +kernel
theorem dX6_init_17 : decode cX6_init 17 = .ok (.putfield 15, 3) := by decide +kernel
theorem dX6_init_20 : decode cX6_init 20 = .ok (.aload_n 0, 1) := by decide +kernel
theorem dX6_init_21 : decode cX6_init 21 = .ok (.bipush 60, 2) := by decide +kernel
theorem dX6_init_23 : decode cX6_init 23 = .ok (.newarray .long, 2) := by decide +kernel
theorem dX6_init_25 : decode cX6_init 25 = .ok (.putfield 18, 3) := by decide +kernel
theorem dX6_init_28 : decode cX6_init 28 = .ok (.aload_n 0, 1) := by decide +kernel
theorem dX6_init_29 : decode cX6_init 29 = .ok (.aload_n 1, 1) := by decide +kernel
theorem dX6_init_30 : decode cX6_init 30 = .ok (.putfield 22, 3) := by decide +kernel
theorem dX6_init_33 : decode cX6_init 33 = .ok (.return_, 1) := by decide +kernel
theorem dX6_isCancelled_0 : decode cX6_isCancelled 0 = .ok (.aload_n 0, 1) := by decide +kernel
theorem dX6_isCancelled_1 : decode cX6_isCancelled 1 = .ok (.getfield 26, 3) := by decide +kernel
theorem dX6_isCancelled_4 : decode cX6_isCancelled 4 = .ok (.iload_n 1, 1) := by decide +kernel
theorem dX6_isCancelled_5 : decode cX6_isCancelled 5 = .ok (.lshr, 1) := by decide +kernel
theorem dX6_isCancelled_6 : decode cX6_isCancelled 6 = .ok (.lconst 1, 1) := by decide +kernel
theorem dX6_isCancelled_7 : decode cX6_isCancelled 7 = .ok (.land, 1) := by decide +kernel
theorem dX6_isCancelled_8 : decode cX6_isCancelled 8 = .ok (.lconst 0, 1) := by decide +kernel
theorem dX6_isCancelled_9 : decode cX6_isCancelled 9 = .ok (.lcmp, 1) := by decide +kernel
theorem dX6_isCancelled_10 : decode cX6_isCancelled 10 = .ok (.ifCond .eq 7, 3) := by decide +kernel
theorem dX6_isCancelled_13 : decode cX6_isCancelled 13 = .ok (.iconst 1, 1) := by decide +kernel
theorem dX6_isCancelled_14 : decode cX6_isCancelled 14 = .ok (.goto 4, 3) := by decide +kernel
theorem dX6_isCancelled_17 : decode cX6_isCancelled 17 = .ok (.iconst 0, 1) := by decide +kernel
theorem dX6_isCancelled_18 : decode cX6_isCancelled 18 = .ok (.ireturn, 1) := by decide +kernel
theorem dX6_link_0 : decode cX6_link 0 = .ok (.aload_n 0, 1) := by decide +kernel
theorem dX6_link_1 : decode cX6_link 1 = .ok (.getfield 30, 3) := by decide +kernel
theorem dX6_link_4 : decode cX6_link 4 = .ok (.ifCond .eq 4, 3) := by decide +kernel
theorem dX6_link_7 : decode cX6_link 7 = .ok (.return_, 1) := by decide +kernel
theorem dX6_link_8 : decode cX6_link 8 = .ok (.iconst 0, 1) := by decide +kernel
theorem dX6_link_9 : decode cX6_link 9 = .ok (.istore_n 1, 1) := by decide +kernel
theorem dX6_link_10 : decode cX6_link 10 = .ok (.iload_n 1, 1) := by decide +kernel
theorem dX6_link_11 : decode cX6_link 11 = .ok (.aload_n 0, 1) := by decide +kernel
theorem dX6_link_12 : decode cX6_link 12 = .ok (.getfield 22, 3) := by decide +kernel
theorem dX6_link_15 : decode cX6_link 15 = .ok (.getfield 34, 3) := by decide +kernel
theorem dX6_link_18 : decode cX6_link 18 = .ok (.if_icmp .ge 41, 3) := by decide +kernel
theorem dX6_link_21 : decode cX6_link 21 = .ok (.aload_n 0, 1) := by decide +kernel
theorem dX6_link_22 : decode cX6_link 22 = .ok (.getfield 18, 3) := by decide +kernel
theorem dX6_link_25 : decode cX6_link 25 = .ok (.iload_n 1, 1) := by decide +kernel
theorem dX6_link_26 : decode cX6_link 26 = .ok (.lconst 0, 1) := by decide +kernel
theorem dX6_link_27 : decode cX6_link 27 = .ok (.lastore, 1) := by decide +kernel
theorem dX6_link_28 : decode cX6_link 28 = .ok (.iconst 0, 1) := by decide +kernel
theorem dX6_link_29 : decode cX6_link 29 = .ok (.istore_n 2, 1) := by decide +kernel
theorem dX6_link_30 : decode cX6_link 30 = .ok (.iload_n 2, 1) := by decide +kernel
theorem dX6_link_31 : decode cX6_link 31 = .ok (.aload_n 0, 1) := by decide +kernel
theorem dX6_link_32 : decode cX6_link 32 = .ok (.getfield 22, 3) := by decide +kernel
theorem dX6_link_35 : decode cX6_link 35 = .ok (.getfield 34, 3) := by decide +kernel
theorem dX6_link_38 : decode cX6_link 38 = .ok (.if_icmp .ge 15, 3) := by decide +kernel
theorem dX6_link_41 : decode cX6_link 41 = .ok (.aload_n 0, 1) := by decide +kernel
theorem dX6_link_42 : decode cX6_link 42 = .ok (.iload_n 1, 1) := by decide +kernel
theorem dX6_link_43 : decode cX6_link 43 = .ok (.iload_n 2, 1) := by decide +kernel
theorem dX6_link_44 : decode cX6_link 44 = .ok (.invokevirtual 74, 3) := by decide +kernel
theorem dX6_link_47 : decode cX6_link 47 = .ok (.iinc 2 1, 3) := by decide +kernel
theorem dX6_link_50 : decode cX6_link 50 = .ok (.goto (-20), 3) := by decide +kernel
theorem dX6_link_53 : decode cX6_link 53 = .ok (.iinc 1 1, 3) := by decide +kernel
theorem dX6_link_56 : decode cX6_link 56 = .ok (.goto (-46), 3) := by decide +kernel
theorem dX6_link_59 : decode cX6_link 59 = .ok (.aload_n 0, 1) := by decide +kernel
theorem dX6_link_60 : decode cX6_link 60 = .ok (.iconst 1, 1) := by decide +kernel
theorem dX6_link_61 : decode cX6_link 61 = .ok (.putfield 30, 3) := by decide +kernel
theorem dX6_link_64 : decode cX6_link 64 = .ok (.return_, 1) := by decide +kernel
theorem dX6_linkOne_0 : decode cX6_linkOne 0 = .ok (.aload_n 0, 1) := by decide +kernel
theorem dX6_linkOne_1 : decode cX6_linkOne 1 = .ok (.iload_n 2, 1) := by decide +kernel
theorem dX6_linkOne_2 : decode cX6_linkOne 2 = .ok (.invokevirtual 57, 3) := by decide +kernel
theorem dX6_linkOne_5 : decode cX6_linkOne 5 = .ok (.ifCond .ne 27, 3) := by decide +kernel
theorem dX6_linkOne_8 : decode cX6_linkOne 8 = .ok (.aload_n 0, 1) := by decide +kernel
theorem dX6_linkOne_9 : decode cX6_linkOne 9 = .ok (.iload_n 1, 1) := by decide +kernel
theorem dX6_linkOne_10 : decode cX6_linkOne 10 = .ok (.iload_n 2, 1) := by decide +kernel
theorem dX6_linkOne_11 : decode cX6_linkOne 11 = .ok (.invokevirtual 77, 3) := by decide +kernel
theorem dX6_linkOne_14 : decode cX6_linkOne 14 = .ok (.ifCond .lt 18, 3) := by decide +kernel
theorem dX6_linkOne_17 : decode cX6_linkOne 17 = .ok (.aload_n 0, 1) := by decide +kernel
theorem dX6_linkOne_18 : decode cX6_linkOne 18 = .ok (.getfield 18, 3) := by decide +kernel
theorem dX6_linkOne_21 : decode cX6_linkOne 21 = .ok (.iload_n 1, 1) := by decide +kernel
theorem dX6_linkOne_22 : decode cX6_linkOne 22 = .ok (.dup2, 1) := by decide +kernel
theorem dX6_linkOne_23 : decode cX6_linkOne 23 = .ok (.laload, 1) := by decide +kernel
theorem dX6_linkOne_24 : decode cX6_linkOne 24 = .ok (.lconst 1, 1) := by decide +kernel
theorem dX6_linkOne_25 : decode cX6_linkOne 25 = .ok (.iload_n 2, 1) := by decide +kernel
theorem dX6_linkOne_26 : decode cX6_linkOne 26 = .ok (.lshl, 1) := by decide +kernel
theorem dX6_linkOne_27 : decode cX6_linkOne 27 = .ok (.lor, 1) := by decide +kernel
theorem dX6_linkOne_28 : decode cX6_linkOne 28 = .ok (.lastore, 1) := by decide +kernel
theorem dX6_linkOne_29 : decode cX6_linkOne 29 = .ok (.goto 19, 3) := by decide +kernel
theorem dX6_linkOne_32 : decode cX6_linkOne 32 = .ok (.aload_n 0, 1) := by decide +kernel
theorem dX6_linkOne_33 : decode cX6_linkOne 33 = .ok (.getfield 18, 3) := by decide +kernel
theorem dX6_linkOne_36 : decode cX6_linkOne 36 = .ok (.iload_n 1, 1) := by decide +kernel
theorem dX6_linkOne_37 : decode cX6_linkOne 37 = .ok (.dup2, 1) := by decide +kernel
theorem dX6_linkOne_38 : decode cX6_linkOne 38 = .ok (.laload, 1) := by decide +kernel
theorem dX6_linkOne_39 : decode cX6_linkOne 39 = .ok (.lconst 1, 1) := by decide +kernel
theorem dX6_linkOne_40 : decode cX6_linkOne 40 = .ok (.iload_n 2, 1) := by decide +kernel
theorem dX6_linkOne_41 : decode cX6_linkOne 41 = .ok (.lshl, 1) := by decide +kernel
theorem dX6_linkOne_42 : decode cX6_linkOne 42 = .ok (.ldc2_w 81, 3) := by decide +kernel
theorem dX6_linkOne_45 : decode cX6_linkOne 45 = .ok (.lxor, 1) := by decide +kernel
theorem dX6_linkOne_46 : decode cX6_linkOne 46 = .ok (.land, 1) := by decide +kernel
theorem dX6_linkOne_47 : decode cX6_linkOne 47 = .ok (.lastore, 1) := by decide +kernel
theorem dX6_linkOne_48 : decode cX6_linkOne 48 = .ok (.return_, 1) := by decide +kernel
theorem dX6_minutesLate_0 : decode cX6_minutesLate 0 = .ok (.aload_n 0, 1) := by decide +kernel
theorem dX6_minutesLate_1 : decode cX6_minutesLate 1 = .ok (.getfield 9, 3) := by decide +kernel
theorem dX6_minutesLate_4 : decode cX6_minutesLate 4 = .ok (.iload_n 1, 1) := by decide +kernel
theorem dX6_minutesLate_5 : decode cX6_minutesLate 5 = .ok (.iaload, 1) := by decide +kernel
theorem dX6_minutesLate_6 : decode cX6_minutesLate 6 = .ok (.aload_n 0, 1) := by decide +kernel
theorem dX6_minutesLate_7 : decode cX6_minutesLate 7 = .ok (.getfield 22, 3) := by decide +kernel
theorem dX6_minutesLate_10 : decode cX6_minutesLate 10 = .ok (.getfield 47, 3) := by decide +kernel
theorem dX6_minutesLate_13 : decode cX6_minutesLate 13 = .ok (.iload_n 1, 1) := by decide +kernel
theorem dX6_minutesLate_14 : decode cX6_minutesLate 14 = .ok (.iaload, 1) := by decide +kernel
theorem dX6_minutesLate_15 : decode cX6_minutesLate 15 = .ok (.isub, 1) := by decide +kernel
theorem dX6_minutesLate_16 : decode cX6_minutesLate 16 = .ok (.ireturn, 1) := by decide +kernel
theorem dX6_refuses_0 : decode cX6_refuses 0 = .ok (.aload_n 0, 1) := by decide +kernel
theorem dX6_refuses_1 : decode cX6_refuses 1 = .ok (.getfield 22, 3) := by decide +kernel
theorem dX6_refuses_4 : decode cX6_refuses 4 = .ok (.getfield 47, 3) := by decide +kernel
theorem dX6_refuses_7 : decode cX6_refuses 7 = .ok (.iload_n 1, 1) := by decide +kernel
theorem dX6_refuses_8 : decode cX6_refuses 8 = .ok (.iaload, 1) := by decide +kernel
theorem dX6_refuses_9 : decode cX6_refuses 9 = .ok (.iload_n 2, 1) := by decide +kernel
theorem dX6_refuses_10 : decode cX6_refuses 10 = .ok (.iadd, 1) := by decide +kernel
theorem dX6_refuses_11 : decode cX6_refuses 11 = .ok (.istore_n 3, 1) := by decide +kernel
theorem dX6_refuses_12 : decode cX6_refuses 12 = .ok (.iload_n 3, 1) := by decide +kernel
theorem dX6_refuses_13 : decode cX6_refuses 13 = .ok (.ifCond .ge 5, 3) := by decide +kernel
theorem dX6_refuses_16 : decode cX6_refuses 16 = .ok (.iconst 1, 1) := by decide +kernel
theorem dX6_refuses_17 : decode cX6_refuses 17 = .ok (.ireturn, 1) := by decide +kernel
theorem dX6_refuses_18 : decode cX6_refuses 18 = .ok (.iload_n 1, 1) := by decide +kernel
theorem dX6_refuses_19 : decode cX6_refuses 19 = .ok (.ifCond .le 32, 3) := by decide +kernel
theorem dX6_refuses_22 : decode cX6_refuses 22 = .ok (.aload_n 0, 1) := by decide +kernel
theorem dX6_refuses_23 : decode cX6_refuses 23 = .ok (.getfield 22, 3) := by decide +kernel
theorem dX6_refuses_26 : decode cX6_refuses 26 = .ok (.iload_n 1, 1) := by decide +kernel
theorem dX6_refuses_27 : decode cX6_refuses 27 = .ok (.iconst 1, 1) := by decide +kernel
theorem dX6_refuses_28 : decode cX6_refuses 28 = .ok (.isub, 1) := by decide +kernel
theorem dX6_refuses_29 : decode cX6_refuses 29 = .ok (.invokevirtual 53, 3) := by decide +kernel
theorem dX6_refuses_32 : decode cX6_refuses 32 = .ok (.ifCond .eq 19, 3) := by decide +kernel
theorem dX6_refuses_35 : decode cX6_refuses 35 = .ok (.iload_n 3, 1) := by decide +kernel
theorem dX6_refuses_36 : decode cX6_refuses 36 = .ok (.aload_n 0, 1) := by decide +kernel
theorem dX6_refuses_37 : decode cX6_refuses 37 = .ok (.getfield 15, 3) := by decide +kernel
theorem dX6_refuses_40 : decode cX6_refuses 40 = .ok (.iload_n 1, 1) := by decide +kernel
theorem dX6_refuses_41 : decode cX6_refuses 41 = .ok (.iconst 1, 1) := by decide +kernel
theorem dX6_refuses_42 : decode cX6_refuses 42 = .ok (.isub, 1) := by decide +kernel
theorem dX6_refuses_43 : decode cX6_refuses 43 = .ok (.iaload, 1) := by decide +kernel
theorem dX6_refuses_44 : decode cX6_refuses 44 = .ok (.if_icmp .ge 7, 3) := by decide +kernel
theorem dX6_refuses_47 : decode cX6_refuses 47 = .ok (.iconst 1, 1) := by decide +kernel
theorem dX6_refuses_48 : decode cX6_refuses 48 = .ok (.goto 4, 3) := by decide +kernel
theorem dX6_refuses_51 : decode cX6_refuses 51 = .ok (.iconst 0, 1) := by decide +kernel
theorem dX6_refuses_52 : decode cX6_refuses 52 = .ok (.ireturn, 1) := by decide +kernel
theorem dX6_ridden_0 : decode cX6_ridden 0 = .ok (.aload_n 0, 1) := by decide +kernel
theorem dX6_ridden_1 : decode cX6_ridden 1 = .ok (.invokevirtual 44, 3) := by decide +kernel
theorem dX6_ridden_4 : decode cX6_ridden 4 = .ok (.aload_n 0, 1) := by decide +kernel
theorem dX6_ridden_5 : decode cX6_ridden 5 = .ok (.getfield 26, 3) := by decide +kernel
theorem dX6_ridden_8 : decode cX6_ridden 8 = .ok (.lload 4, 2) := by decide +kernel
theorem dX6_ridden_10 : decode cX6_ridden 10 = .ok (.lor, 1) := by decide +kernel
theorem dX6_ridden_11 : decode cX6_ridden 11 = .ok (.lstore 6, 2) := by decide +kernel
theorem dX6_ridden_13 : decode cX6_ridden 13 = .ok (.lconst 0, 1) := by decide +kernel
theorem dX6_ridden_14 : decode cX6_ridden 14 = .ok (.lstore 8, 2) := by decide +kernel
theorem dX6_ridden_16 : decode cX6_ridden 16 = .ok (.iconst 0, 1) := by decide +kernel
theorem dX6_ridden_17 : decode cX6_ridden 17 = .ok (.istore 10, 2) := by decide +kernel
theorem dX6_ridden_19 : decode cX6_ridden 19 = .ok (.iload 10, 2) := by decide +kernel
theorem dX6_ridden_21 : decode cX6_ridden 21 = .ok (.aload_n 0, 1) := by decide +kernel
theorem dX6_ridden_22 : decode cX6_ridden 22 = .ok (.getfield 22, 3) := by decide +kernel
theorem dX6_ridden_25 : decode cX6_ridden 25 = .ok (.getfield 34, 3) := by decide +kernel
theorem dX6_ridden_28 : decode cX6_ridden 28 = .ok (.if_icmp .ge 62, 3) := by decide +kernel
theorem dX6_ridden_31 : decode cX6_ridden 31 = .ok (.lload 6, 2) := by decide +kernel
theorem dX6_ridden_33 : decode cX6_ridden 33 = .ok (.iload 10, 2) := by decide +kernel
theorem dX6_ridden_35 : decode cX6_ridden 35 = .ok (.lshr, 1) := by decide +kernel
theorem dX6_ridden_36 : decode cX6_ridden 36 = .ok (.lconst 1, 1) := by decide +kernel
theorem dX6_ridden_37 : decode cX6_ridden 37 = .ok (.land, 1) := by decide +kernel
theorem dX6_ridden_38 : decode cX6_ridden 38 = .ok (.lconst 0, 1) := by decide +kernel
theorem dX6_ridden_39 : decode cX6_ridden 39 = .ok (.lcmp, 1) := by decide +kernel
theorem dX6_ridden_40 : decode cX6_ridden 40 = .ok (.ifCond .ne 44, 3) := by decide +kernel
theorem dX6_ridden_43 : decode cX6_ridden 43 = .ok (.aload_n 0, 1) := by decide +kernel
theorem dX6_ridden_44 : decode cX6_ridden 44 = .ok (.getfield 9, 3) := by decide +kernel
theorem dX6_ridden_47 : decode cX6_ridden 47 = .ok (.iload 10, 2) := by decide +kernel
theorem dX6_ridden_49 : decode cX6_ridden 49 = .ok (.iaload, 1) := by decide +kernel
theorem dX6_ridden_50 : decode cX6_ridden 50 = .ok (.aload_n 0, 1) := by decide +kernel
theorem dX6_ridden_51 : decode cX6_ridden 51 = .ok (.getfield 22, 3) := by decide +kernel
theorem dX6_ridden_54 : decode cX6_ridden 54 = .ok (.getfield 95, 3) := by decide +kernel
theorem dX6_ridden_57 : decode cX6_ridden 57 = .ok (.iload_n 1, 1) := by decide +kernel
theorem dX6_ridden_58 : decode cX6_ridden 58 = .ok (.aaload, 1) := by decide +kernel
theorem dX6_ridden_59 : decode cX6_ridden 59 = .ok (.aload_n 0, 1) := by decide +kernel
theorem dX6_ridden_60 : decode cX6_ridden 60 = .ok (.getfield 22, 3) := by decide +kernel
theorem dX6_ridden_63 : decode cX6_ridden 63 = .ok (.getfield 71, 3) := by decide +kernel
theorem dX6_ridden_66 : decode cX6_ridden 66 = .ok (.iload 10, 2) := by decide +kernel
theorem dX6_ridden_68 : decode cX6_ridden 68 = .ok (.iaload, 1) := by decide +kernel
theorem dX6_ridden_69 : decode cX6_ridden 69 = .ok (.iaload, 1) := by decide +kernel
theorem dX6_ridden_70 : decode cX6_ridden 70 = .ok (.isub, 1) := by decide +kernel
theorem dX6_ridden_71 : decode cX6_ridden 71 = .ok (.iload_n 2, 1) := by decide +kernel
theorem dX6_ridden_72 : decode cX6_ridden 72 = .ok (.if_icmp .lt 12, 3) := by decide +kernel
theorem dX6_ridden_75 : decode cX6_ridden 75 = .ok (.lload 8, 2) := by decide +kernel
theorem dX6_ridden_77 : decode cX6_ridden 77 = .ok (.lconst 1, 1) := by decide +kernel
theorem dX6_ridden_78 : decode cX6_ridden 78 = .ok (.iload 10, 2) := by decide +kernel
theorem dX6_ridden_80 : decode cX6_ridden 80 = .ok (.lshl, 1) := by decide +kernel
theorem dX6_ridden_81 : decode cX6_ridden 81 = .ok (.lor, 1) := by decide +kernel
theorem dX6_ridden_82 : decode cX6_ridden 82 = .ok (.lstore 8, 2) := by decide +kernel
theorem dX6_ridden_84 : decode cX6_ridden 84 = .ok (.iinc 10 1, 3) := by decide +kernel
theorem dX6_ridden_87 : decode cX6_ridden 87 = .ok (.goto (-68), 3) := by decide +kernel
theorem dX6_ridden_90 : decode cX6_ridden 90 = .ok (.aload_n 0, 1) := by decide +kernel
theorem dX6_ridden_91 : decode cX6_ridden 91 = .ok (.lload 8, 2) := by decide +kernel
theorem dX6_ridden_93 : decode cX6_ridden 93 = .ok (.lload 6, 2) := by decide +kernel
theorem dX6_ridden_95 : decode cX6_ridden 95 = .ok (.invokevirtual 103, 3) := by decide +kernel
theorem dX6_ridden_98 : decode cX6_ridden 98 = .ok (.lstore 8, 2) := by decide +kernel
theorem dX6_ridden_100 : decode cX6_ridden 100 = .ok (.iconst 0, 1) := by decide +kernel
theorem dX6_ridden_101 : decode cX6_ridden 101 = .ok (.istore 10, 2) := by decide +kernel
theorem dX6_ridden_103 : decode cX6_ridden 103 = .ok (.iload 10, 2) := by decide +kernel
theorem dX6_ridden_105 : decode cX6_ridden 105 = .ok (.iload_n 3, 1) := by decide +kernel
theorem dX6_ridden_106 : decode cX6_ridden 106 = .ok (.if_icmp .ge 90, 3) := by decide +kernel
theorem dX6_ridden_109 : decode cX6_ridden 109 = .ok (.lload 8, 2) := by decide +kernel
theorem dX6_ridden_111 : decode cX6_ridden 111 = .ok (.lstore 11, 2) := by decide +kernel
theorem dX6_ridden_113 : decode cX6_ridden 113 = .ok (.iconst 0, 1) := by decide +kernel
theorem dX6_ridden_114 : decode cX6_ridden 114 = .ok (.istore 13, 2) := by decide +kernel
theorem dX6_ridden_116 : decode cX6_ridden 116 = .ok (.iload 13, 2) := by decide +kernel
theorem dX6_ridden_118 : decode cX6_ridden 118 = .ok (.aload_n 0, 1) := by decide +kernel
theorem dX6_ridden_119 : decode cX6_ridden 119 = .ok (.getfield 22, 3) := by decide +kernel
theorem dX6_ridden_122 : decode cX6_ridden 122 = .ok (.getfield 34, 3) := by decide +kernel
theorem dX6_ridden_125 : decode cX6_ridden 125 = .ok (.if_icmp .ge 40, 3) := by decide +kernel
theorem dX6_ridden_128 : decode cX6_ridden 128 = .ok (.lload 8, 2) := by decide +kernel
theorem dX6_ridden_130 : decode cX6_ridden 130 = .ok (.iload 13, 2) := by decide +kernel
theorem dX6_ridden_132 : decode cX6_ridden 132 = .ok (.lshr, 1) := by decide +kernel
theorem dX6_ridden_133 : decode cX6_ridden 133 = .ok (.lconst 1, 1) := by decide +kernel
theorem dX6_ridden_134 : decode cX6_ridden 134 = .ok (.land, 1) := by decide +kernel
theorem dX6_ridden_135 : decode cX6_ridden 135 = .ok (.lconst 0, 1) := by decide +kernel
theorem dX6_ridden_136 : decode cX6_ridden 136 = .ok (.lcmp, 1) := by decide +kernel
theorem dX6_ridden_137 : decode cX6_ridden 137 = .ok (.ifCond .eq 22, 3) := by decide +kernel
theorem dX6_ridden_140 : decode cX6_ridden 140 = .ok (.lload 11, 2) := by decide +kernel
theorem dX6_ridden_142 : decode cX6_ridden 142 = .ok (.aload_n 0, 1) := by decide +kernel
theorem dX6_ridden_143 : decode cX6_ridden 143 = .ok (.getfield 18, 3) := by decide +kernel
theorem dX6_ridden_146 : decode cX6_ridden 146 = .ok (.iload 13, 2) := by decide +kernel
theorem dX6_ridden_148 : decode cX6_ridden 148 = .ok (.laload, 1) := by decide +kernel
theorem dX6_ridden_149 : decode cX6_ridden 149 = .ok (.lload 6, 2) := by decide +kernel
theorem dX6_ridden_151 : decode cX6_ridden 151 = .ok (.ldc2_w 81, 3) := by decide +kernel
theorem dX6_ridden_154 : decode cX6_ridden 154 = .ok (.lxor, 1) := by decide +kernel
theorem dX6_ridden_155 : decode cX6_ridden 155 = .ok (.land, 1) := by decide +kernel
theorem dX6_ridden_156 : decode cX6_ridden 156 = .ok (.lor, 1) := by decide +kernel
theorem dX6_ridden_157 : decode cX6_ridden 157 = .ok (.lstore 11, 2) := by decide +kernel
theorem dX6_ridden_159 : decode cX6_ridden 159 = .ok (.iinc 13 1, 3) := by decide +kernel
theorem dX6_ridden_162 : decode cX6_ridden 162 = .ok (.goto (-46), 3) := by decide +kernel
theorem dX6_ridden_165 : decode cX6_ridden 165 = .ok (.aload_n 0, 1) := by decide +kernel
theorem dX6_ridden_166 : decode cX6_ridden 166 = .ok (.lload 11, 2) := by decide +kernel
theorem dX6_ridden_168 : decode cX6_ridden 168 = .ok (.lload 6, 2) := by decide +kernel
theorem dX6_ridden_170 : decode cX6_ridden 170 = .ok (.invokevirtual 103, 3) := by decide +kernel
theorem dX6_ridden_173 : decode cX6_ridden 173 = .ok (.lstore 11, 2) := by decide +kernel
theorem dX6_ridden_175 : decode cX6_ridden 175 = .ok (.lload 11, 2) := by decide +kernel
theorem dX6_ridden_177 : decode cX6_ridden 177 = .ok (.lload 8, 2) := by decide +kernel
theorem dX6_ridden_179 : decode cX6_ridden 179 = .ok (.lcmp, 1) := by decide +kernel
theorem dX6_ridden_180 : decode cX6_ridden 180 = .ok (.ifCond .ne 6, 3) := by decide +kernel
theorem dX6_ridden_183 : decode cX6_ridden 183 = .ok (.goto 13, 3) := by decide +kernel
theorem dX6_ridden_186 : decode cX6_ridden 186 = .ok (.lload 11, 2) := by decide +kernel
theorem dX6_ridden_188 : decode cX6_ridden 188 = .ok (.lstore 8, 2) := by decide +kernel
theorem dX6_ridden_190 : decode cX6_ridden 190 = .ok (.iinc 10 1, 3) := by decide +kernel
theorem dX6_ridden_193 : decode cX6_ridden 193 = .ok (.goto (-90), 3) := by decide +kernel
theorem dX6_ridden_196 : decode cX6_ridden 196 = .ok (.lload 8, 2) := by decide +kernel
theorem dX6_ridden_198 : decode cX6_ridden 198 = .ok (.lreturn, 1) := by decide +kernel
theorem dX6_setMinutesLate_0 : decode cX6_setMinutesLate 0 = .ok (.aload_n 0, 1) := by decide +kernel
theorem dX6_setMinutesLate_1 : decode cX6_setMinutesLate 1 = .ok (.getfield 9, 3) := by decide +kernel
theorem dX6_setMinutesLate_4 : decode cX6_setMinutesLate 4 = .ok (.iload_n 1, 1) := by decide +kernel
theorem dX6_setMinutesLate_5 : decode cX6_setMinutesLate 5 = .ok (.aload_n 0, 1) := by decide +kernel
theorem dX6_setMinutesLate_6 : decode cX6_setMinutesLate 6 = .ok (.getfield 22, 3) := by decide +kernel
theorem dX6_setMinutesLate_9 : decode cX6_setMinutesLate 9 = .ok (.getfield 47, 3) := by decide +kernel
theorem dX6_setMinutesLate_12 : decode cX6_setMinutesLate 12 = .ok (.iload_n 1, 1) := by decide +kernel
theorem dX6_setMinutesLate_13 : decode cX6_setMinutesLate 13 = .ok (.iaload, 1) := by decide +kernel
theorem dX6_setMinutesLate_14 : decode cX6_setMinutesLate 14 = .ok (.iload_n 2, 1) := by decide +kernel
theorem dX6_setMinutesLate_15 : decode cX6_setMinutesLate 15 = .ok (.iadd, 1) := by decide +kernel
theorem dX6_setMinutesLate_16 : decode cX6_setMinutesLate 16 = .ok (.iastore, 1) := by decide +kernel
theorem dX6_setMinutesLate_17 : decode cX6_setMinutesLate 17 = .ok (.aload_n 0, 1) := by decide +kernel
theorem dX6_setMinutesLate_18 : decode cX6_setMinutesLate 18 = .ok (.getfield 15, 3) := by decide +kernel
theorem dX6_setMinutesLate_21 : decode cX6_setMinutesLate 21 = .ok (.iload_n 1, 1) := by decide +kernel
theorem dX6_setMinutesLate_22 : decode cX6_setMinutesLate 22 = .ok (.aload_n 0, 1) := by decide +kernel
theorem dX6_setMinutesLate_23 : decode cX6_setMinutesLate 23 = .ok (.getfield 22, 3) := by decide +kernel
theorem dX6_setMinutesLate_26 : decode cX6_setMinutesLate 26 = .ok (.getfield 50, 3) := by decide +kernel
theorem dX6_setMinutesLate_29 : decode cX6_setMinutesLate 29 = .ok (.iload_n 1, 1) := by decide +kernel
theorem dX6_setMinutesLate_30 : decode cX6_setMinutesLate 30 = .ok (.iaload, 1) := by decide +kernel
theorem dX6_setMinutesLate_31 : decode cX6_setMinutesLate 31 = .ok (.iload_n 2, 1) := by decide +kernel
theorem dX6_setMinutesLate_32 : decode cX6_setMinutesLate 32 = .ok (.iadd, 1) := by decide +kernel
theorem dX6_setMinutesLate_33 : decode cX6_setMinutesLate 33 = .ok (.iastore, 1) := by decide +kernel
theorem dX6_setMinutesLate_34 : decode cX6_setMinutesLate 34 = .ok (.return_, 1) := by decide +kernel
theorem dX6_shift_0 : decode cX6_shift 0 = .ok (.aload_n 0, 1) := by decide +kernel
theorem dX6_shift_1 : decode cX6_shift 1 = .ok (.getfield 22, 3) := by decide +kernel
theorem dX6_shift_4 : decode cX6_shift 4 = .ok (.getfield 83, 3) := by decide +kernel
theorem dX6_shift_7 : decode cX6_shift 7 = .ok (.iload_n 1, 1) := by decide +kernel
theorem dX6_shift_8 : decode cX6_shift 8 = .ok (.iaload, 1) := by decide +kernel
theorem dX6_shift_9 : decode cX6_shift 9 = .ok (.istore_n 3, 1) := by decide +kernel
theorem dX6_shift_10 : decode cX6_shift 10 = .ok (.aload_n 0, 1) := by decide +kernel
theorem dX6_shift_11 : decode cX6_shift 11 = .ok (.getfield 22, 3) := by decide +kernel
theorem dX6_shift_14 : decode cX6_shift 14 = .ok (.getfield 83, 3) := by decide +kernel
theorem dX6_shift_17 : decode cX6_shift 17 = .ok (.iload_n 1, 1) := by decide +kernel
theorem dX6_shift_18 : decode cX6_shift 18 = .ok (.iconst 1, 1) := by decide +kernel
theorem dX6_shift_19 : decode cX6_shift 19 = .ok (.iadd, 1) := by decide +kernel
theorem dX6_shift_20 : decode cX6_shift 20 = .ok (.iaload, 1) := by decide +kernel
theorem dX6_shift_21 : decode cX6_shift 21 = .ok (.istore 4, 2) := by decide +kernel
theorem dX6_shift_23 : decode cX6_shift 23 = .ok (.iload_n 3, 1) := by decide +kernel
theorem dX6_shift_24 : decode cX6_shift 24 = .ok (.istore 5, 2) := by decide +kernel
theorem dX6_shift_26 : decode cX6_shift 26 = .ok (.iload 5, 2) := by decide +kernel
theorem dX6_shift_28 : decode cX6_shift 28 = .ok (.iload 4, 2) := by decide +kernel
theorem dX6_shift_30 : decode cX6_shift 30 = .ok (.if_icmp .ge 31, 3) := by decide +kernel
theorem dX6_shift_33 : decode cX6_shift 33 = .ok (.aload_n 0, 1) := by decide +kernel
theorem dX6_shift_34 : decode cX6_shift 34 = .ok (.getfield 9, 3) := by decide +kernel
theorem dX6_shift_37 : decode cX6_shift 37 = .ok (.iload 5, 2) := by decide +kernel
theorem dX6_shift_39 : decode cX6_shift 39 = .ok (.dup2, 1) := by decide +kernel
theorem dX6_shift_40 : decode cX6_shift 40 = .ok (.iaload, 1) := by decide +kernel
theorem dX6_shift_41 : decode cX6_shift 41 = .ok (.iload_n 2, 1) := by decide +kernel
theorem dX6_shift_42 : decode cX6_shift 42 = .ok (.iadd, 1) := by decide +kernel
theorem dX6_shift_43 : decode cX6_shift 43 = .ok (.iastore, 1) := by decide +kernel
theorem dX6_shift_44 : decode cX6_shift 44 = .ok (.aload_n 0, 1) := by decide +kernel
theorem dX6_shift_45 : decode cX6_shift 45 = .ok (.getfield 15, 3) := by decide +kernel
theorem dX6_shift_48 : decode cX6_shift 48 = .ok (.iload 5, 2) := by decide +kernel
theorem dX6_shift_50 : decode cX6_shift 50 = .ok (.dup2, 1) := by decide +kernel
theorem dX6_shift_51 : decode cX6_shift 51 = .ok (.iaload, 1) := by decide +kernel
theorem dX6_shift_52 : decode cX6_shift 52 = .ok (.iload_n 2, 1) := by decide +kernel
theorem dX6_shift_53 : decode cX6_shift 53 = .ok (.iadd, 1) := by decide +kernel
theorem dX6_shift_54 : decode cX6_shift 54 = .ok (.iastore, 1) := by decide +kernel
theorem dX6_shift_55 : decode cX6_shift 55 = .ok (.iinc 5 1, 3) := by decide +kernel
theorem dX6_shift_58 : decode cX6_shift 58 = .ok (.goto (-32), 3) := by decide +kernel
theorem dX6_shift_61 : decode cX6_shift 61 = .ok (.iload_n 3, 1) := by decide +kernel
theorem dX6_shift_62 : decode cX6_shift 62 = .ok (.istore 5, 2) := by decide +kernel
theorem dX6_shift_64 : decode cX6_shift 64 = .ok (.iload 5, 2) := by decide +kernel
theorem dX6_shift_66 : decode cX6_shift 66 = .ok (.iload 4, 2) := by decide +kernel
theorem dX6_shift_68 : decode cX6_shift 68 = .ok (.if_icmp .ge 46, 3) := by decide +kernel
theorem dX6_shift_71 : decode cX6_shift 71 = .ok (.iconst 0, 1) := by decide +kernel
theorem dX6_shift_72 : decode cX6_shift 72 = .ok (.istore 6, 2) := by decide +kernel
theorem dX6_shift_74 : decode cX6_shift 74 = .ok (.iload 6, 2) := by decide +kernel
theorem dX6_shift_76 : decode cX6_shift 76 = .ok (.aload_n 0, 1) := by decide +kernel
theorem dX6_shift_77 : decode cX6_shift 77 = .ok (.getfield 22, 3) := by decide +kernel
theorem dX6_shift_80 : decode cX6_shift 80 = .ok (.getfield 34, 3) := by decide +kernel
theorem dX6_shift_83 : decode cX6_shift 83 = .ok (.if_icmp .ge 25, 3) := by decide +kernel
theorem dX6_shift_86 : decode cX6_shift 86 = .ok (.aload_n 0, 1) := by decide +kernel
theorem dX6_shift_87 : decode cX6_shift 87 = .ok (.iload 5, 2) := by decide +kernel
theorem dX6_shift_89 : decode cX6_shift 89 = .ok (.iload 6, 2) := by decide +kernel
theorem dX6_shift_91 : decode cX6_shift 91 = .ok (.invokevirtual 74, 3) := by decide +kernel
theorem dX6_shift_94 : decode cX6_shift 94 = .ok (.aload_n 0, 1) := by decide +kernel
theorem dX6_shift_95 : decode cX6_shift 95 = .ok (.iload 6, 2) := by decide +kernel
theorem dX6_shift_97 : decode cX6_shift 97 = .ok (.iload 5, 2) := by decide +kernel
theorem dX6_shift_99 : decode cX6_shift 99 = .ok (.invokevirtual 74, 3) := by decide +kernel
theorem dX6_shift_102 : decode cX6_shift 102 = .ok (.iinc 6 1, 3) := by decide +kernel
theorem dX6_shift_105 : decode cX6_shift 105 = .ok (.goto (-31), 3) := by decide +kernel
theorem dX6_shift_108 : decode cX6_shift 108 = .ok (.iinc 5 1, 3) := by decide +kernel
theorem dX6_shift_111 : decode cX6_shift 111 = .ok (.goto (-47), 3) := by decide +kernel
theorem dX6_shift_114 : decode cX6_shift 114 = .ok (.return_, 1) := by decide +kernel
theorem dX6_shiftedRides_0 : decode cX6_shiftedRides 0 = .ok (.iconst 0, 1) := by decide +kernel
theorem dX6_shiftedRides_1 : decode cX6_shiftedRides 1 = .ok (.istore_n 1, 1) := by decide +kernel
theorem dX6_shiftedRides_2 : decode cX6_shiftedRides 2 = .ok (.iconst 0, 1) := by decide +kernel
theorem dX6_shiftedRides_3 : decode cX6_shiftedRides 3 = .ok (.istore_n 2, 1) := by decide +kernel
theorem dX6_shiftedRides_4 : decode cX6_shiftedRides 4 = .ok (.iload_n 2, 1) := by decide +kernel
theorem dX6_shiftedRides_5 : decode cX6_shiftedRides 5 = .ok (.aload_n 0, 1) := by decide +kernel
theorem dX6_shiftedRides_6 : decode cX6_shiftedRides 6 = .ok (.getfield 22, 3) := by decide +kernel
theorem dX6_shiftedRides_9 : decode cX6_shiftedRides 9 = .ok (.getfield 34, 3) := by decide +kernel
theorem dX6_shiftedRides_12 : decode cX6_shiftedRides 12 = .ok (.if_icmp .ge 20, 3) := by decide +kernel
theorem dX6_shiftedRides_15 : decode cX6_shiftedRides 15 = .ok (.aload_n 0, 1) := by decide +kernel
theorem dX6_shiftedRides_16 : decode cX6_shiftedRides 16 = .ok (.iload_n 2, 1) := by decide +kernel
theorem dX6_shiftedRides_17 : decode cX6_shiftedRides 17 = .ok (.invokevirtual 60, 3) := by decide +kernel
theorem dX6_shiftedRides_20 : decode cX6_shiftedRides 20 = .ok (.ifCond .eq 6, 3) := by decide +kernel
theorem dX6_shiftedRides_23 : decode cX6_shiftedRides 23 = .ok (.iinc 1 1, 3) := by decide +kernel
theorem dX6_shiftedRides_26 : decode cX6_shiftedRides 26 = .ok (.iinc 2 1, 3) := by decide +kernel
theorem dX6_shiftedRides_29 : decode cX6_shiftedRides 29 = .ok (.goto (-25), 3) := by decide +kernel
theorem dX6_shiftedRides_32 : decode cX6_shiftedRides 32 = .ok (.iload_n 1, 1) := by decide +kernel
theorem dX6_shiftedRides_33 : decode cX6_shiftedRides 33 = .ok (.ireturn, 1) := by decide +kernel
theorem dX6_slackOf_0 : decode cX6_slackOf 0 = .ok (.aload_n 0, 1) := by decide +kernel
theorem dX6_slackOf_1 : decode cX6_slackOf 1 = .ok (.getfield 9, 3) := by decide +kernel
theorem dX6_slackOf_4 : decode cX6_slackOf 4 = .ok (.iload_n 2, 1) := by decide +kernel
theorem dX6_slackOf_5 : decode cX6_slackOf 5 = .ok (.iaload, 1) := by decide +kernel
theorem dX6_slackOf_6 : decode cX6_slackOf 6 = .ok (.aload_n 0, 1) := by decide +kernel
theorem dX6_slackOf_7 : decode cX6_slackOf 7 = .ok (.getfield 15, 3) := by decide +kernel
theorem dX6_slackOf_10 : decode cX6_slackOf 10 = .ok (.iload_n 1, 1) := by decide +kernel
theorem dX6_slackOf_11 : decode cX6_slackOf 11 = .ok (.iaload, 1) := by decide +kernel
theorem dX6_slackOf_12 : decode cX6_slackOf 12 = .ok (.isub, 1) := by decide +kernel
theorem dX6_slackOf_13 : decode cX6_slackOf 13 = .ok (.aload_n 0, 1) := by decide +kernel
theorem dX6_slackOf_14 : decode cX6_slackOf 14 = .ok (.getfield 22, 3) := by decide +kernel
theorem dX6_slackOf_17 : decode cX6_slackOf 17 = .ok (.getfield 64, 3) := by decide +kernel
theorem dX6_slackOf_20 : decode cX6_slackOf 20 = .ok (.aload_n 0, 1) := by decide +kernel
theorem dX6_slackOf_21 : decode cX6_slackOf 21 = .ok (.getfield 22, 3) := by decide +kernel
theorem dX6_slackOf_24 : decode cX6_slackOf 24 = .ok (.getfield 68, 3) := by decide +kernel
theorem dX6_slackOf_27 : decode cX6_slackOf 27 = .ok (.iload_n 1, 1) := by decide +kernel
theorem dX6_slackOf_28 : decode cX6_slackOf 28 = .ok (.iaload, 1) := by decide +kernel
theorem dX6_slackOf_29 : decode cX6_slackOf 29 = .ok (.aaload, 1) := by decide +kernel
theorem dX6_slackOf_30 : decode cX6_slackOf 30 = .ok (.aload_n 0, 1) := by decide +kernel
theorem dX6_slackOf_31 : decode cX6_slackOf 31 = .ok (.getfield 22, 3) := by decide +kernel
theorem dX6_slackOf_34 : decode cX6_slackOf 34 = .ok (.getfield 71, 3) := by decide +kernel
theorem dX6_slackOf_37 : decode cX6_slackOf 37 = .ok (.iload_n 2, 1) := by decide +kernel
theorem dX6_slackOf_38 : decode cX6_slackOf 38 = .ok (.iaload, 1) := by decide +kernel
theorem dX6_slackOf_39 : decode cX6_slackOf 39 = .ok (.iaload, 1) := by decide +kernel
theorem dX6_slackOf_40 : decode cX6_slackOf 40 = .ok (.isub, 1) := by decide +kernel
theorem dX6_slackOf_41 : decode cX6_slackOf 41 = .ok (.ireturn, 1) := by decide +kernel
theorem dX6_soonest_0 : decode cX6_soonest 0 = .ok (.aload_n 0, 1) := by decide +kernel
theorem dX6_soonest_1 : decode cX6_soonest 1 = .ok (.aload_n 0, 1) := by decide +kernel
theorem dX6_soonest_2 : decode cX6_soonest 2 = .ok (.iload_n 1, 1) := by decide +kernel
theorem dX6_soonest_3 : decode cX6_soonest 3 = .ok (.iload_n 3, 1) := by decide +kernel
theorem dX6_soonest_4 : decode cX6_soonest 4 = .ok (.iload 4, 2) := by decide +kernel
theorem dX6_soonest_6 : decode cX6_soonest 6 = .ok (.lload 5, 2) := by decide +kernel
theorem dX6_soonest_8 : decode cX6_soonest 8 = .ok (.invokevirtual 86, 3) := by decide +kernel
theorem dX6_soonest_11 : decode cX6_soonest 11 = .ok (.iload_n 1, 1) := by decide +kernel
theorem dX6_soonest_12 : decode cX6_soonest 12 = .ok (.iload_n 2, 1) := by decide +kernel
theorem dX6_soonest_13 : decode cX6_soonest 13 = .ok (.iload_n 3, 1) := by decide +kernel
theorem dX6_soonest_14 : decode cX6_soonest 14 = .ok (.invokevirtual 90, 3) := by decide +kernel
theorem dX6_soonest_17 : decode cX6_soonest 17 = .ok (.ireturn, 1) := by decide +kernel
theorem dX6_soonestOf_0 : decode cX6_soonestOf 0 = .ok (.ldc 94, 2) := by decide +kernel
theorem dX6_soonestOf_2 : decode cX6_soonestOf 2 = .ok (.iload 5, 2) := by decide +kernel
theorem dX6_soonestOf_4 : decode cX6_soonestOf 4 = .ok (.aload_n 0, 1) := by decide +kernel
theorem dX6_soonestOf_5 : decode cX6_soonestOf 5 = .ok (.getfield 22, 3) := by decide +kernel
theorem dX6_soonestOf_8 : decode cX6_soonestOf 8 = .ok (.getfield 95, 3) := by decide +kernel
theorem dX6_soonestOf_11 : decode cX6_soonestOf 11 = .ok (.iload_n 3, 1) := by decide +kernel
theorem dX6_soonestOf_12 : decode cX6_soonestOf 12 = .ok (.aaload, 1) := by decide +kernel
theorem dX6_soonestOf_13 : decode cX6_soonestOf 13 = .ok (.iload 4, 2) := by decide +kernel
theorem dX6_soonestOf_15 : decode cX6_soonestOf 15 = .ok (.iaload, 1) := by decide +kernel
theorem dX6_soonestOf_16 : decode cX6_soonestOf 16 = .ok (.iadd, 1) := by decide +kernel
theorem dX6_soonestOf_17 : decode cX6_soonestOf 17 = .ok (.invokestatic 98, 3) := by decide +kernel
theorem dX6_soonestOf_20 : decode cX6_soonestOf 20 = .ok (.istore 6, 2) := by decide +kernel
theorem dX6_soonestOf_22 : decode cX6_soonestOf 22 = .ok (.iconst 0, 1) := by decide +kernel
theorem dX6_soonestOf_23 : decode cX6_soonestOf 23 = .ok (.istore 7, 2) := by decide +kernel
theorem dX6_soonestOf_25 : decode cX6_soonestOf 25 = .ok (.iload 7, 2) := by decide +kernel
theorem dX6_soonestOf_27 : decode cX6_soonestOf 27 = .ok (.aload_n 0, 1) := by decide +kernel
theorem dX6_soonestOf_28 : decode cX6_soonestOf 28 = .ok (.getfield 22, 3) := by decide +kernel
theorem dX6_soonestOf_31 : decode cX6_soonestOf 31 = .ok (.getfield 34, 3) := by decide +kernel
theorem dX6_soonestOf_34 : decode cX6_soonestOf 34 = .ok (.if_icmp .ge 56, 3) := by decide +kernel
theorem dX6_soonestOf_37 : decode cX6_soonestOf 37 = .ok (.lload_n 1, 1) := by decide +kernel
theorem dX6_soonestOf_38 : decode cX6_soonestOf 38 = .ok (.iload 7, 2) := by decide +kernel
theorem dX6_soonestOf_40 : decode cX6_soonestOf 40 = .ok (.lshr, 1) := by decide +kernel
theorem dX6_soonestOf_41 : decode cX6_soonestOf 41 = .ok (.lconst 1, 1) := by decide +kernel
theorem dX6_soonestOf_42 : decode cX6_soonestOf 42 = .ok (.land, 1) := by decide +kernel
theorem dX6_soonestOf_43 : decode cX6_soonestOf 43 = .ok (.lconst 0, 1) := by decide +kernel
theorem dX6_soonestOf_44 : decode cX6_soonestOf 44 = .ok (.lcmp, 1) := by decide +kernel
theorem dX6_soonestOf_45 : decode cX6_soonestOf 45 = .ok (.ifCond .eq 39, 3) := by decide +kernel
theorem dX6_soonestOf_48 : decode cX6_soonestOf 48 = .ok (.iload 6, 2) := by decide +kernel
theorem dX6_soonestOf_50 : decode cX6_soonestOf 50 = .ok (.aload_n 0, 1) := by decide +kernel
theorem dX6_soonestOf_51 : decode cX6_soonestOf 51 = .ok (.getfield 15, 3) := by decide +kernel
theorem dX6_soonestOf_54 : decode cX6_soonestOf 54 = .ok (.iload 7, 2) := by decide +kernel
theorem dX6_soonestOf_56 : decode cX6_soonestOf 56 = .ok (.iaload, 1) := by decide +kernel
theorem dX6_soonestOf_57 : decode cX6_soonestOf 57 = .ok (.aload_n 0, 1) := by decide +kernel
theorem dX6_soonestOf_58 : decode cX6_soonestOf 58 = .ok (.getfield 22, 3) := by decide +kernel
theorem dX6_soonestOf_61 : decode cX6_soonestOf 61 = .ok (.getfield 95, 3) := by decide +kernel
theorem dX6_soonestOf_64 : decode cX6_soonestOf 64 = .ok (.aload_n 0, 1) := by decide +kernel
theorem dX6_soonestOf_65 : decode cX6_soonestOf 65 = .ok (.getfield 22, 3) := by decide +kernel
theorem dX6_soonestOf_68 : decode cX6_soonestOf 68 = .ok (.getfield 68, 3) := by decide +kernel
theorem dX6_soonestOf_71 : decode cX6_soonestOf 71 = .ok (.iload 7, 2) := by decide +kernel
theorem dX6_soonestOf_73 : decode cX6_soonestOf 73 = .ok (.iaload, 1) := by decide +kernel
theorem dX6_soonestOf_74 : decode cX6_soonestOf 74 = .ok (.aaload, 1) := by decide +kernel
theorem dX6_soonestOf_75 : decode cX6_soonestOf 75 = .ok (.iload 4, 2) := by decide +kernel
theorem dX6_soonestOf_77 : decode cX6_soonestOf 77 = .ok (.iaload, 1) := by decide +kernel
theorem dX6_soonestOf_78 : decode cX6_soonestOf 78 = .ok (.iadd, 1) := by decide +kernel
theorem dX6_soonestOf_79 : decode cX6_soonestOf 79 = .ok (.invokestatic 98, 3) := by decide +kernel
theorem dX6_soonestOf_82 : decode cX6_soonestOf 82 = .ok (.istore 6, 2) := by decide +kernel
theorem dX6_soonestOf_84 : decode cX6_soonestOf 84 = .ok (.iinc 7 1, 3) := by decide +kernel
theorem dX6_soonestOf_87 : decode cX6_soonestOf 87 = .ok (.goto (-62), 3) := by decide +kernel
theorem dX6_soonestOf_90 : decode cX6_soonestOf 90 = .ok (.iload 6, 2) := by decide +kernel
theorem dX6_soonestOf_92 : decode cX6_soonestOf 92 = .ok (.ireturn, 1) := by decide +kernel
theorem dX6_withNextOnes_0 : decode cX6_withNextOnes 0 = .ok (.lload_n 1, 1) := by decide +kernel
theorem dX6_withNextOnes_1 : decode cX6_withNextOnes 1 = .ok (.lstore 5, 2) := by decide +kernel
theorem dX6_withNextOnes_3 : decode cX6_withNextOnes 3 = .ok (.iconst 0, 1) := by decide +kernel
theorem dX6_withNextOnes_4 : decode cX6_withNextOnes 4 = .ok (.istore 7, 2) := by decide +kernel
theorem dX6_withNextOnes_6 : decode cX6_withNextOnes 6 = .ok (.iload 7, 2) := by decide +kernel
theorem dX6_withNextOnes_8 : decode cX6_withNextOnes 8 = .ok (.iconst 1, 1) := by decide +kernel
theorem dX6_withNextOnes_9 : decode cX6_withNextOnes 9 = .ok (.iadd, 1) := by decide +kernel
theorem dX6_withNextOnes_10 : decode cX6_withNextOnes 10 = .ok (.aload_n 0, 1) := by decide +kernel
theorem dX6_withNextOnes_11 : decode cX6_withNextOnes 11 = .ok (.getfield 22, 3) := by decide +kernel
theorem dX6_withNextOnes_14 : decode cX6_withNextOnes 14 = .ok (.getfield 34, 3) := by decide +kernel
theorem dX6_withNextOnes_17 : decode cX6_withNextOnes 17 = .ok (.if_icmp .ge 69, 3) := by decide +kernel
theorem dX6_withNextOnes_20 : decode cX6_withNextOnes 20 = .ok (.lload_n 3, 1) := by decide +kernel
theorem dX6_withNextOnes_21 : decode cX6_withNextOnes 21 = .ok (.iload 7, 2) := by decide +kernel
theorem dX6_withNextOnes_23 : decode cX6_withNextOnes 23 = .ok (.iconst 1, 1) := by decide +kernel
theorem dX6_withNextOnes_24 : decode cX6_withNextOnes 24 = .ok (.iadd, 1) := by decide +kernel
theorem dX6_withNextOnes_25 : decode cX6_withNextOnes 25 = .ok (.lshr, 1) := by decide +kernel
theorem dX6_withNextOnes_26 : decode cX6_withNextOnes 26 = .ok (.lconst 1, 1) := by decide +kernel
theorem dX6_withNextOnes_27 : decode cX6_withNextOnes 27 = .ok (.land, 1) := by decide +kernel
theorem dX6_withNextOnes_28 : decode cX6_withNextOnes 28 = .ok (.lconst 0, 1) := by decide +kernel
theorem dX6_withNextOnes_29 : decode cX6_withNextOnes 29 = .ok (.lcmp, 1) := by decide +kernel
theorem dX6_withNextOnes_30 : decode cX6_withNextOnes 30 = .ok (.ifCond .ne 7, 3) := by decide +kernel
theorem dX6_withNextOnes_33 : decode cX6_withNextOnes 33 = .ok (.iconst 1, 1) := by decide +kernel
theorem dX6_withNextOnes_34 : decode cX6_withNextOnes 34 = .ok (.goto 4, 3) := by decide +kernel
theorem dX6_withNextOnes_37 : decode cX6_withNextOnes 37 = .ok (.iconst 0, 1) := by decide +kernel
theorem dX6_withNextOnes_38 : decode cX6_withNextOnes 38 = .ok (.istore 8, 2) := by decide +kernel
theorem dX6_withNextOnes_40 : decode cX6_withNextOnes 40 = .ok (.iload 8, 2) := by decide +kernel
theorem dX6_withNextOnes_42 : decode cX6_withNextOnes 42 = .ok (.ifCond .eq 38, 3) := by decide +kernel
theorem dX6_withNextOnes_45 : decode cX6_withNextOnes 45 = .ok (.lload 5, 2) := by decide +kernel
theorem dX6_withNextOnes_47 : decode cX6_withNextOnes 47 = .ok (.iload 7, 2) := by decide +kernel
theorem dX6_withNextOnes_49 : decode cX6_withNextOnes 49 = .ok (.lshr, 1) := by decide +kernel
theorem dX6_withNextOnes_50 : decode cX6_withNextOnes 50 = .ok (.lconst 1, 1) := by decide +kernel
theorem dX6_withNextOnes_51 : decode cX6_withNextOnes 51 = .ok (.land, 1) := by decide +kernel
theorem dX6_withNextOnes_52 : decode cX6_withNextOnes 52 = .ok (.lconst 0, 1) := by decide +kernel
theorem dX6_withNextOnes_53 : decode cX6_withNextOnes 53 = .ok (.lcmp, 1) := by decide +kernel
theorem dX6_withNextOnes_54 : decode cX6_withNextOnes 54 = .ok (.ifCond .eq 26, 3) := by decide +kernel
theorem dX6_withNextOnes_57 : decode cX6_withNextOnes 57 = .ok (.aload_n 0, 1) := by decide +kernel
theorem dX6_withNextOnes_58 : decode cX6_withNextOnes 58 = .ok (.getfield 22, 3) := by decide +kernel
theorem dX6_withNextOnes_61 : decode cX6_withNextOnes 61 = .ok (.iload 7, 2) := by decide +kernel
theorem dX6_withNextOnes_63 : decode cX6_withNextOnes 63 = .ok (.invokevirtual 53, 3) := by decide +kernel
theorem dX6_withNextOnes_66 : decode cX6_withNextOnes 66 = .ok (.ifCond .eq 14, 3) := by decide +kernel
theorem dX6_withNextOnes_69 : decode cX6_withNextOnes 69 = .ok (.lload 5, 2) := by decide +kernel
theorem dX6_withNextOnes_71 : decode cX6_withNextOnes 71 = .ok (.lconst 1, 1) := by decide +kernel
theorem dX6_withNextOnes_72 : decode cX6_withNextOnes 72 = .ok (.iload 7, 2) := by decide +kernel
theorem dX6_withNextOnes_74 : decode cX6_withNextOnes 74 = .ok (.iconst 1, 1) := by decide +kernel
theorem dX6_withNextOnes_75 : decode cX6_withNextOnes 75 = .ok (.iadd, 1) := by decide +kernel
theorem dX6_withNextOnes_76 : decode cX6_withNextOnes 76 = .ok (.lshl, 1) := by decide +kernel
theorem dX6_withNextOnes_77 : decode cX6_withNextOnes 77 = .ok (.lor, 1) := by decide +kernel
theorem dX6_withNextOnes_78 : decode cX6_withNextOnes 78 = .ok (.lstore 5, 2) := by decide +kernel
theorem dX6_withNextOnes_80 : decode cX6_withNextOnes 80 = .ok (.iinc 7 1, 3) := by decide +kernel
theorem dX6_withNextOnes_83 : decode cX6_withNextOnes 83 = .ok (.goto (-77), 3) := by decide +kernel
theorem dX6_withNextOnes_86 : decode cX6_withNextOnes 86 = .ok (.lload 5, 2) := by decide +kernel
theorem dX6_withNextOnes_88 : decode cX6_withNextOnes 88 = .ok (.lreturn, 1) := by decide +kernel
theorem dX7_clear_0 : decode cX7_clear 0 = .ok (.aload_n 0, 1) := by decide +kernel
theorem dX7_clear_1 : decode cX7_clear 1 = .ok (.iconst 0, 1) := by decide +kernel
theorem dX7_clear_2 : decode cX7_clear 2 = .ok (.putfield 20, 3) := by decide +kernel
theorem dX7_clear_5 : decode cX7_clear 5 = .ok (.return_, 1) := by decide +kernel
theorem dX7_init_0 : decode cX7_init 0 = .ok (.aload_n 0, 1) := by decide +kernel
theorem dX7_init_1 : decode cX7_init 1 = .ok (.invokespecial 3, 3) := by decide +kernel
theorem dX7_init_4 : decode cX7_init 4 = .ok (.aload_n 0, 1) := by decide +kernel
theorem dX7_init_5 : decode cX7_init 5 = .ok (.bipush 20, 2) := by decide +kernel
theorem dX7_init_7 : decode cX7_init 7 = .ok (.bipush 60, 2) := by decide +kernel
theorem dX7_init_9 : decode cX7_init 9 = .ok (.multianewarray 9 2, 4) := by decide +kernel
theorem dX7_init_13 : decode cX7_init 13 = .ok (.putfield 11, 3) := by decide +kernel
theorem dX7_init_16 : decode cX7_init 16 = .ok (.aload_n 0, 1) := by decide +kernel
theorem dX7_init_17 : decode cX7_init 17 = .ok (.bipush 20, 2) := by decide +kernel
theorem dX7_init_19 : decode cX7_init 19 = .ok (.newarray .long, 2) := by decide +kernel
theorem dX7_init_21 : decode cX7_init 21 = .ok (.putfield 16, 3) := by decide +kernel
theorem dX7_init_24 : decode cX7_init 24 = .ok (.return_, 1) := by decide +kernel
theorem dX7_keep_0 : decode cX7_keep 0 = .ok (.iconst 0, 1) := by decide +kernel
theorem dX7_keep_1 : decode cX7_keep 1 = .ok (.istore_n 2, 1) := by decide +kernel
theorem dX7_keep_2 : decode cX7_keep 2 = .ok (.iload_n 2, 1) := by decide +kernel
theorem dX7_keep_3 : decode cX7_keep 3 = .ok (.aload_n 1, 1) := by decide +kernel
theorem dX7_keep_4 : decode cX7_keep 4 = .ok (.getfield 24, 3) := by decide +kernel
theorem dX7_keep_7 : decode cX7_keep 7 = .ok (.getfield 30, 3) := by decide +kernel
theorem dX7_keep_10 : decode cX7_keep 10 = .ok (.if_icmp .ge 25, 3) := by decide +kernel
theorem dX7_keep_13 : decode cX7_keep 13 = .ok (.aload_n 0, 1) := by decide +kernel
theorem dX7_keep_14 : decode cX7_keep 14 = .ok (.getfield 11, 3) := by decide +kernel
theorem dX7_keep_17 : decode cX7_keep 17 = .ok (.aload_n 0, 1) := by decide +kernel
theorem dX7_keep_18 : decode cX7_keep 18 = .ok (.getfield 35, 3) := by decide +kernel
theorem dX7_keep_21 : decode cX7_keep 21 = .ok (.aaload, 1) := by decide +kernel
theorem dX7_keep_22 : decode cX7_keep 22 = .ok (.iload_n 2, 1) := by decide +kernel
theorem dX7_keep_23 : decode cX7_keep 23 = .ok (.aload_n 1, 1) := by decide +kernel
theorem dX7_keep_24 : decode cX7_keep 24 = .ok (.iload_n 2, 1) := by decide +kernel
theorem dX7_keep_25 : decode cX7_keep 25 = .ok (.invokevirtual 38, 3) := by decide +kernel
theorem dX7_keep_28 : decode cX7_keep 28 = .ok (.iastore, 1) := by decide +kernel
theorem dX7_keep_29 : decode cX7_keep 29 = .ok (.iinc 2 1, 3) := by decide +kernel
theorem dX7_keep_32 : decode cX7_keep 32 = .ok (.goto (-30), 3) := by decide +kernel
theorem dX7_keep_35 : decode cX7_keep 35 = .ok (.aload_n 0, 1) := by decide +kernel
theorem dX7_keep_36 : decode cX7_keep 36 = .ok (.getfield 16, 3) := by decide +kernel
theorem dX7_keep_39 : decode cX7_keep 39 = .ok (.aload_n 0, 1) := by decide +kernel
theorem dX7_keep_40 : decode cX7_keep 40 = .ok (.getfield 35, 3) := by decide +kernel
theorem dX7_keep_43 : decode cX7_keep 43 = .ok (.aload_n 1, 1) := by decide +kernel
theorem dX7_keep_44 : decode cX7_keep 44 = .ok (.getfield 41, 3) := by decide +kernel
theorem dX7_keep_47 : decode cX7_keep 47 = .ok (.lastore, 1) := by decide +kernel
theorem dX7_keep_48 : decode cX7_keep 48 = .ok (.aload_n 0, 1) := by decide +kernel
theorem dX7_keep_49 : decode cX7_keep 49 = .ok (.aload_n 0, 1) := by decide +kernel
theorem dX7_keep_50 : decode cX7_keep 50 = .ok (.getfield 35, 3) := by decide +kernel
theorem dX7_keep_53 : decode cX7_keep 53 = .ok (.iconst 1, 1) := by decide +kernel
theorem dX7_keep_54 : decode cX7_keep 54 = .ok (.iadd, 1) := by decide +kernel
theorem dX7_keep_55 : decode cX7_keep 55 = .ok (.bipush 20, 2) := by decide +kernel
theorem dX7_keep_57 : decode cX7_keep 57 = .ok (.if_icmp .ge 12, 3) := by decide +kernel
theorem dX7_keep_60 : decode cX7_keep 60 = .ok (.aload_n 0, 1) := by decide +kernel
theorem dX7_keep_61 : decode cX7_keep 61 = .ok (.getfield 35, 3) := by decide +kernel
theorem dX7_keep_64 : decode cX7_keep 64 = .ok (.iconst 1, 1) := by decide +kernel
theorem dX7_keep_65 : decode cX7_keep 65 = .ok (.iadd, 1) := by decide +kernel
theorem dX7_keep_66 : decode cX7_keep 66 = .ok (.goto 4, 3) := by decide +kernel
theorem dX7_keep_69 : decode cX7_keep 69 = .ok (.iconst 0, 1) := by decide +kernel
theorem dX7_keep_70 : decode cX7_keep 70 = .ok (.putfield 35, 3) := by decide +kernel
theorem dX7_keep_73 : decode cX7_keep 73 = .ok (.aload_n 0, 1) := by decide +kernel
theorem dX7_keep_74 : decode cX7_keep 74 = .ok (.aload_n 0, 1) := by decide +kernel
theorem dX7_keep_75 : decode cX7_keep 75 = .ok (.getfield 20, 3) := by decide +kernel
theorem dX7_keep_78 : decode cX7_keep 78 = .ok (.iconst 1, 1) := by decide +kernel
theorem dX7_keep_79 : decode cX7_keep 79 = .ok (.iadd, 1) := by decide +kernel
theorem dX7_keep_80 : decode cX7_keep 80 = .ok (.bipush 20, 2) := by decide +kernel
theorem dX7_keep_82 : decode cX7_keep 82 = .ok (.invokestatic 44, 3) := by decide +kernel
theorem dX7_keep_85 : decode cX7_keep 85 = .ok (.putfield 20, 3) := by decide +kernel
theorem dX7_keep_88 : decode cX7_keep 88 = .ok (.return_, 1) := by decide +kernel
theorem dX7_takeBack_0 : decode cX7_takeBack 0 = .ok (.aload_n 0, 1) := by decide +kernel
theorem dX7_takeBack_1 : decode cX7_takeBack 1 = .ok (.getfield 20, 3) := by decide +kernel
theorem dX7_takeBack_4 : decode cX7_takeBack 4 = .ok (.ifCond .ne 5, 3) := by decide +kernel
theorem dX7_takeBack_7 : decode cX7_takeBack 7 = .ok (.iconst 0, 1) := by decide +kernel
theorem dX7_takeBack_8 : decode cX7_takeBack 8 = .ok (.ireturn, 1) := by decide +kernel
theorem dX7_takeBack_9 : decode cX7_takeBack 9 = .ok (.aload_n 0, 1) := by decide +kernel
theorem dX7_takeBack_10 : decode cX7_takeBack 10 = .ok (.dup, 1) := by decide +kernel
theorem dX7_takeBack_11 : decode cX7_takeBack 11 = .ok (.getfield 20, 3) := by decide +kernel
theorem dX7_takeBack_14 : decode cX7_takeBack 14 = .ok (.iconst 1, 1) := by decide +kernel
theorem dX7_takeBack_15 : decode cX7_takeBack 15 = .ok (.isub, 1) := by decide +kernel
theorem dX7_takeBack_16 : decode cX7_takeBack 16 = .ok (.putfield 20, 3) := by decide +kernel
theorem dX7_takeBack_19 : decode cX7_takeBack 19 = .ok (.aload_n 0, 1) := by decide +kernel
theorem dX7_takeBack_20 : decode cX7_takeBack 20 = .ok (.aload_n 0, 1) := by decide +kernel
theorem dX7_takeBack_21 : decode cX7_takeBack 21 = .ok (.getfield 35, 3) := by decide +kernel
theorem dX7_takeBack_24 : decode cX7_takeBack 24 = .ok (.ifCond .le 12, 3) := by decide +kernel
theorem dX7_takeBack_27 : decode cX7_takeBack 27 = .ok (.aload_n 0, 1) := by decide +kernel
theorem dX7_takeBack_28 : decode cX7_takeBack 28 = .ok (.getfield 35, 3) := by decide +kernel
theorem dX7_takeBack_31 : decode cX7_takeBack 31 = .ok (.iconst 1, 1) := by decide +kernel
theorem dX7_takeBack_32 : decode cX7_takeBack 32 = .ok (.isub, 1) := by decide +kernel
theorem dX7_takeBack_33 : decode cX7_takeBack 33 = .ok (.goto 5, 3) := by decide +kernel
theorem dX7_takeBack_36 : decode cX7_takeBack 36 = .ok (.bipush 19, 2) := by decide +kernel
theorem dX7_takeBack_38 : decode cX7_takeBack 38 = .ok (.putfield 35, 3) := by decide +kernel
theorem dX7_takeBack_41 : decode cX7_takeBack 41 = .ok (.iconst 0, 1) := by decide +kernel
theorem dX7_takeBack_42 : decode cX7_takeBack 42 = .ok (.istore_n 2, 1) := by decide +kernel
theorem dX7_takeBack_43 : decode cX7_takeBack 43 = .ok (.iload_n 2, 1) := by decide +kernel
theorem dX7_takeBack_44 : decode cX7_takeBack 44 = .ok (.aload_n 1, 1) := by decide +kernel
theorem dX7_takeBack_45 : decode cX7_takeBack 45 = .ok (.getfield 24, 3) := by decide +kernel
