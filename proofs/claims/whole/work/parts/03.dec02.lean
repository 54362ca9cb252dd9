theorem dX7_takeBack_48 : decode cX7_takeBack 48 = .ok (.getfield 30, 3) := by decide +kernel
theorem dX7_takeBack_51 : decode cX7_takeBack 51 = .ok (.if_icmp .ge 25, 3) := by decide +kernel
theorem dX7_takeBack_54 : decode cX7_takeBack 54 = .ok (.aload_n 1, 1) := by decide +kernel
theorem dX7_takeBack_55 : decode cX7_takeBack 55 = .ok (.iload_n 2, 1) := by decide +kernel
theorem dX7_takeBack_56 : decode cX7_takeBack 56 = .ok (.aload_n 0, 1) := by decide +kernel
theorem dX7_takeBack_57 : decode cX7_takeBack 57 = .ok (.getfield 11, 3) := by decide +kernel
theorem dX7_takeBack_60 : decode cX7_takeBack 60 = .ok (.aload_n 0, 1) := by decide +kernel
theorem dX7_takeBack_61 : decode cX7_takeBack 61 = .ok (.getfield 35, 3) := by decide +kernel
theorem dX7_takeBack_64 : decode cX7_takeBack 64 = .ok (.aaload, 1) := by decide +kernel
theorem dX7_takeBack_65 : decode cX7_takeBack 65 = .ok (.iload_n 2, 1) := by decide +kernel
theorem dX7_takeBack_66 : decode cX7_takeBack 66 = .ok (.iaload, 1) := by decide +kernel
theorem dX7_takeBack_67 : decode cX7_takeBack 67 = .ok (.invokevirtual 50, 3) := by decide +kernel
theorem dX7_takeBack_70 : decode cX7_takeBack 70 = .ok (.iinc 2 1, 3) := by decide +kernel
theorem dX7_takeBack_73 : decode cX7_takeBack 73 = .ok (.goto (-30), 3) := by decide +kernel
theorem dX7_takeBack_76 : decode cX7_takeBack 76 = .ok (.aload_n 1, 1) := by decide +kernel
theorem dX7_takeBack_77 : decode cX7_takeBack 77 = .ok (.aload_n 0, 1) := by decide +kernel
theorem dX7_takeBack_78 : decode cX7_takeBack 78 = .ok (.getfield 16, 3) := by decide +kernel
theorem dX7_takeBack_81 : decode cX7_takeBack 81 = .ok (.aload_n 0, 1) := by decide +kernel
theorem dX7_takeBack_82 : decode cX7_takeBack 82 = .ok (.getfield 35, 3) := by decide +kernel
theorem dX7_takeBack_85 : decode cX7_takeBack 85 = .ok (.laload, 1) := by decide +kernel
theorem dX7_takeBack_86 : decode cX7_takeBack 86 = .ok (.putfield 41, 3) := by decide +kernel
theorem dX7_takeBack_89 : decode cX7_takeBack 89 = .ok (.iconst 1, 1) := by decide +kernel
theorem dX7_takeBack_90 : decode cX7_takeBack 90 = .ok (.ireturn, 1) := by decide +kernel
theorem dX8_append_0 : decode cX8_append 0 = .ok (.bipush 24, 2) := by decide +kernel
theorem dX8_append_2 : decode cX8_append 2 = .ok (.istore_n 2, 1) := by decide +kernel
theorem dX8_append_3 : decode cX8_append 3 = .ok (.iload_n 2, 1) := by decide +kernel
theorem dX8_append_4 : decode cX8_append 4 = .ok (.ifCond .lt 42, 3) := by decide +kernel
theorem dX8_append_7 : decode cX8_append 7 = .ok (.aload_n 0, 1) := by decide +kernel
theorem dX8_append_8 : decode cX8_append 8 = .ok (.getfield 87, 3) := by decide +kernel
theorem dX8_append_11 : decode cX8_append 11 = .ok (.sipush 900, 3) := by decide +kernel
theorem dX8_append_14 : decode cX8_append 14 = .ok (.if_icmp .ge 26, 3) := by decide +kernel
theorem dX8_append_17 : decode cX8_append 17 = .ok (.aload_n 0, 1) := by decide +kernel
theorem dX8_append_18 : decode cX8_append 18 = .ok (.getfield 9, 3) := by decide +kernel
theorem dX8_append_21 : decode cX8_append 21 = .ok (.aload_n 0, 1) := by decide +kernel
theorem dX8_append_22 : decode cX8_append 22 = .ok (.getfield 87, 3) := by decide +kernel
theorem dX8_append_25 : decode cX8_append 25 = .ok (.iload_n 1, 1) := by decide +kernel
theorem dX8_append_26 : decode cX8_append 26 = .ok (.iload_n 2, 1) := by decide +kernel
theorem dX8_append_27 : decode cX8_append 27 = .ok (.ishr, 1) := by decide +kernel
theorem dX8_append_28 : decode cX8_append 28 = .ok (.i2b, 1) := by decide +kernel
theorem dX8_append_29 : decode cX8_append 29 = .ok (.bastore, 1) := by decide +kernel
theorem dX8_append_30 : decode cX8_append 30 = .ok (.aload_n 0, 1) := by decide +kernel
theorem dX8_append_31 : decode cX8_append 31 = .ok (.dup, 1) := by decide +kernel
theorem dX8_append_32 : decode cX8_append 32 = .ok (.getfield 87, 3) := by decide +kernel
theorem dX8_append_35 : decode cX8_append 35 = .ok (.iconst 1, 1) := by decide +kernel
theorem dX8_append_36 : decode cX8_append 36 = .ok (.iadd, 1) := by decide +kernel
theorem dX8_append_37 : decode cX8_append 37 = .ok (.putfield 87, 3) := by decide +kernel
theorem dX8_append_40 : decode cX8_append 40 = .ok (.iinc 2 (-8), 3) := by decide +kernel
theorem dX8_append_43 : decode cX8_append 43 = .ok (.goto (-40), 3) := by decide +kernel
theorem dX8_append_46 : decode cX8_append 46 = .ok (.return_, 1) := by decide +kernel
theorem dX8_arePair_0 : decode cX8_arePair 0 = .ok (.aload_n 0, 1) := by decide +kernel
theorem dX8_arePair_1 : decode cX8_arePair 1 = .ok (.iload_n 1, 1) := by decide +kernel
theorem dX8_arePair_2 : decode cX8_arePair 2 = .ok (.invokevirtual 161, 3) := by decide +kernel
theorem dX8_arePair_5 : decode cX8_arePair 5 = .ok (.ifCond .eq 20, 3) := by decide +kernel
theorem dX8_arePair_8 : decode cX8_arePair 8 = .ok (.aload_n 0, 1) := by decide +kernel
theorem dX8_arePair_9 : decode cX8_arePair 9 = .ok (.iload_n 2, 1) := by decide +kernel
theorem dX8_arePair_10 : decode cX8_arePair 10 = .ok (.invokevirtual 161, 3) := by decide +kernel
theorem dX8_arePair_13 : decode cX8_arePair 13 = .ok (.ifCond .eq 12, 3) := by decide +kernel
theorem dX8_arePair_16 : decode cX8_arePair 16 = .ok (.iload_n 1, 1) := by decide +kernel
theorem dX8_arePair_17 : decode cX8_arePair 17 = .ok (.iload_n 2, 1) := by decide +kernel
theorem dX8_arePair_18 : decode cX8_arePair 18 = .ok (.if_icmp .eq 7, 3) := by decide +kernel
theorem dX8_arePair_21 : decode cX8_arePair 21 = .ok (.iconst 1, 1) := by decide +kernel
theorem dX8_arePair_22 : decode cX8_arePair 22 = .ok (.goto 4, 3) := by decide +kernel
theorem dX8_arePair_25 : decode cX8_arePair 25 = .ok (.iconst 0, 1) := by decide +kernel
theorem dX8_arePair_26 : decode cX8_arePair 26 = .ok (.ireturn, 1) := by decide +kernel
theorem dX8_at_0 : decode cX8_at 0 = .ok (.aload_n 0, 1) := by decide +kernel
theorem dX8_at_1 : decode cX8_at 1 = .ok (.iload_n 1, 1) := by decide +kernel
theorem dX8_at_2 : decode cX8_at 2 = .ok (.iload_n 2, 1) := by decide +kernel
theorem dX8_at_3 : decode cX8_at 3 = .ok (.iconst 4, 1) := by decide +kernel
theorem dX8_at_4 : decode cX8_at 4 = .ok (.iload_n 3, 1) := by decide +kernel
theorem dX8_at_5 : decode cX8_at 5 = .ok (.iload 4, 2) := by decide +kernel
theorem dX8_at_7 : decode cX8_at 7 = .ok (.invokevirtual 234, 3) := by decide +kernel
theorem dX8_at_10 : decode cX8_at 10 = .ok (.ireturn, 1) := by decide +kernel
theorem dX8_atBy_0 : decode cX8_atBy 0 = .ok (.aload_n 0, 1) := by decide +kernel
theorem dX8_atBy_1 : decode cX8_atBy 1 = .ok (.iload_n 1, 1) := by decide +kernel
theorem dX8_atBy_2 : decode cX8_atBy 2 = .ok (.iload_n 2, 1) := by decide +kernel
theorem dX8_atBy_3 : decode cX8_atBy 3 = .ok (.invokevirtual 238, 3) := by decide +kernel
theorem dX8_atBy_6 : decode cX8_atBy 6 = .ok (.ifCond .eq 27, 3) := by decide +kernel
theorem dX8_atBy_9 : decode cX8_atBy 9 = .ok (.iload_n 3, 1) := by decide +kernel
theorem dX8_atBy_10 : decode cX8_atBy 10 = .ok (.iconst 0, 1) := by decide +kernel
theorem dX8_atBy_11 : decode cX8_atBy 11 = .ok (.iconst 4, 1) := by decide +kernel
theorem dX8_atBy_12 : decode cX8_atBy 12 = .ok (.invokestatic 179, 3) := by decide +kernel
theorem dX8_atBy_15 : decode cX8_atBy 15 = .ok (.ifCond .eq 18, 3) := by decide +kernel
theorem dX8_atBy_18 : decode cX8_atBy 18 = .ok (.iload 4, 2) := by decide +kernel
theorem dX8_atBy_20 : decode cX8_atBy 20 = .ok (.ifCond .lt 13, 3) := by decide +kernel
theorem dX8_atBy_23 : decode cX8_atBy 23 = .ok (.iload 5, 2) := by decide +kernel
theorem dX8_atBy_25 : decode cX8_atBy 25 = .ok (.iconst 0, 1) := by decide +kernel
theorem dX8_atBy_26 : decode cX8_atBy 26 = .ok (.iconst 2, 1) := by decide +kernel
theorem dX8_atBy_27 : decode cX8_atBy 27 = .ok (.invokestatic 179, 3) := by decide +kernel
theorem dX8_atBy_30 : decode cX8_atBy 30 = .ok (.ifCond .ne 5, 3) := by decide +kernel
theorem dX8_atBy_33 : decode cX8_atBy 33 = .ok (.iconst (-1), 1) := by decide +kernel
theorem dX8_atBy_34 : decode cX8_atBy 34 = .ok (.ireturn, 1) := by decide +kernel
theorem dX8_atBy_35 : decode cX8_atBy 35 = .ok (.aload_n 0, 1) := by decide +kernel
theorem dX8_atBy_36 : decode cX8_atBy 36 = .ok (.getfield 37, 3) := by decide +kernel
theorem dX8_atBy_39 : decode cX8_atBy 39 = .ok (.aload_n 0, 1) := by decide +kernel
theorem dX8_atBy_40 : decode cX8_atBy 40 = .ok (.getfield 81, 3) := by decide +kernel
theorem dX8_atBy_43 : decode cX8_atBy 43 = .ok (.aload_n 0, 1) := by decide +kernel
theorem dX8_atBy_44 : decode cX8_atBy 44 = .ok (.getfield 30, 3) := by decide +kernel
theorem dX8_atBy_47 : decode cX8_atBy 47 = .ok (.iload_n 1, 1) := by decide +kernel
theorem dX8_atBy_48 : decode cX8_atBy 48 = .ok (.iload_n 2, 1) := by decide +kernel
theorem dX8_atBy_49 : decode cX8_atBy 49 = .ok (.iload_n 3, 1) := by decide +kernel
theorem dX8_atBy_50 : decode cX8_atBy 50 = .ok (.invokevirtual 241, 3) := by decide +kernel
theorem dX8_atBy_53 : decode cX8_atBy 53 = .ok (.iload 4, 2) := by decide +kernel
theorem dX8_atBy_55 : decode cX8_atBy 55 = .ok (.aload_n 0, 1) := by decide +kernel
theorem dX8_atBy_56 : decode cX8_atBy 56 = .ok (.getfield 37, 3) := by decide +kernel
theorem dX8_atBy_59 : decode cX8_atBy 59 = .ok (.getfield 245, 3) := by decide +kernel
theorem dX8_atBy_62 : decode cX8_atBy 62 = .ok (.if_icmp .lt 6, 3) := by decide +kernel
theorem dX8_atBy_65 : decode cX8_atBy 65 = .ok (.bipush (-2), 2) := by decide +kernel
theorem dX8_atBy_67 : decode cX8_atBy 67 = .ok (.ireturn, 1) := by decide +kernel
theorem dX8_atBy_68 : decode cX8_atBy 68 = .ok (.iload 5, 2) := by decide +kernel
theorem dX8_atBy_70 : decode cX8_atBy 70 = .ok (.ifCond .ne 13, 3) := by decide +kernel
theorem dX8_atBy_73 : decode cX8_atBy 73 = .ok (.aload_n 0, 1) := by decide +kernel
theorem dX8_atBy_74 : decode cX8_atBy 74 = .ok (.getfield 37, 3) := by decide +kernel
theorem dX8_atBy_77 : decode cX8_atBy 77 = .ok (.iload 4, 2) := by decide +kernel
theorem dX8_atBy_79 : decode cX8_atBy 79 = .ok (.invokevirtual 246, 3) := by decide +kernel
theorem dX8_atBy_82 : decode cX8_atBy 82 = .ok (.ireturn, 1) := by decide +kernel
theorem dX8_atBy_83 : decode cX8_atBy 83 = .ok (.iload 5, 2) := by decide +kernel
theorem dX8_atBy_85 : decode cX8_atBy 85 = .ok (.iconst 1, 1) := by decide +kernel
theorem dX8_atBy_86 : decode cX8_atBy 86 = .ok (.if_icmp .ne 15, 3) := by decide +kernel
theorem dX8_atBy_89 : decode cX8_atBy 89 = .ok (.aload_n 0, 1) := by decide +kernel
theorem dX8_atBy_90 : decode cX8_atBy 90 = .ok (.getfield 37, 3) := by decide +kernel
theorem dX8_atBy_93 : decode cX8_atBy 93 = .ok (.iload 4, 2) := by decide +kernel
theorem dX8_atBy_95 : decode cX8_atBy 95 = .ok (.invokevirtual 249, 3) := by decide +kernel
theorem dX8_atBy_98 : decode cX8_atBy 98 = .ok (.goto 12, 3) := by decide +kernel
theorem dX8_atBy_101 : decode cX8_atBy 101 = .ok (.aload_n 0, 1) := by decide +kernel
theorem dX8_atBy_102 : decode cX8_atBy 102 = .ok (.getfield 37, 3) := by decide +kernel
theorem dX8_atBy_105 : decode cX8_atBy 105 = .ok (.iload 4, 2) := by decide +kernel
theorem dX8_atBy_107 : decode cX8_atBy 107 = .ok (.invokevirtual 252, 3) := by decide +kernel
theorem dX8_atBy_110 : decode cX8_atBy 110 = .ok (.ireturn, 1) := by decide +kernel
theorem dX8_bitsOf_0 : decode cX8_bitsOf 0 = .ok (.lconst 0, 1) := by decide +kernel
theorem dX8_bitsOf_1 : decode cX8_bitsOf 1 = .ok (.lstore_n 2, 1) := by decide +kernel
theorem dX8_bitsOf_2 : decode cX8_bitsOf 2 = .ok (.iload_n 0, 1) := by decide +kernel
theorem dX8_bitsOf_3 : decode cX8_bitsOf 3 = .ok (.istore 4, 2) := by decide +kernel
theorem dX8_bitsOf_5 : decode cX8_bitsOf 5 = .ok (.iload 4, 2) := by decide +kernel
theorem dX8_bitsOf_7 : decode cX8_bitsOf 7 = .ok (.iload_n 1, 1) := by decide +kernel
theorem dX8_bitsOf_8 : decode cX8_bitsOf 8 = .ok (.if_icmp .ge 16, 3) := by decide +kernel
theorem dX8_bitsOf_11 : decode cX8_bitsOf 11 = .ok (.lload_n 2, 1) := by decide +kernel
theorem dX8_bitsOf_12 : decode cX8_bitsOf 12 = .ok (.lconst 1, 1) := by decide +kernel
theorem dX8_bitsOf_13 : decode cX8_bitsOf 13 = .ok (.iload 4, 2) := by decide +kernel
theorem dX8_bitsOf_15 : decode cX8_bitsOf 15 = .ok (.lshl, 1) := by decide +kernel
theorem dX8_bitsOf_16 : decode cX8_bitsOf 16 = .ok (.lor, 1) := by decide +kernel
theorem dX8_bitsOf_17 : decode cX8_bitsOf 17 = .ok (.lstore_n 2, 1) := by decide +kernel
theorem dX8_bitsOf_18 : decode cX8_bitsOf 18 = .ok (.iinc 4 1, 3) := by decide +kernel
theorem dX8_bitsOf_21 : decode cX8_bitsOf 21 = .ok (.goto (-16), 3) := by decide +kernel
theorem dX8_bitsOf_24 : decode cX8_bitsOf 24 = .ok (.lload_n 2, 1) := by decide +kernel
theorem dX8_bitsOf_25 : decode cX8_bitsOf 25 = .ok (.lreturn, 1) := by decide +kernel
theorem dX8_board_0 : decode cX8_board 0 = .ok (.aload_n 0, 1) := by decide +kernel
theorem dX8_board_1 : decode cX8_board 1 = .ok (.iload_n 1, 1) := by decide +kernel
theorem dX8_board_2 : decode cX8_board 2 = .ok (.invokevirtual 161, 3) := by decide +kernel
theorem dX8_board_5 : decode cX8_board 5 = .ok (.ifCond .eq 15, 3) := by decide +kernel
theorem dX8_board_8 : decode cX8_board 8 = .ok (.iload_n 2, 1) := by decide +kernel
theorem dX8_board_9 : decode cX8_board 9 = .ok (.invokestatic 307, 3) := by decide +kernel
theorem dX8_board_12 : decode cX8_board 12 = .ok (.ifCond .eq 8, 3) := by decide +kernel
theorem dX8_board_15 : decode cX8_board 15 = .ok (.iload 4, 2) := by decide +kernel
theorem dX8_board_17 : decode cX8_board 17 = .ok (.ifCond .ge 5, 3) := by decide +kernel
theorem dX8_board_20 : decode cX8_board 20 = .ok (.iconst (-1), 1) := by decide +kernel
theorem dX8_board_21 : decode cX8_board 21 = .ok (.ireturn, 1) := by decide +kernel
theorem dX8_board_22 : decode cX8_board 22 = .ok (.iload_n 3, 1) := by decide +kernel
theorem dX8_board_23 : decode cX8_board 23 = .ok (.ifCond .eq 13, 3) := by decide +kernel
theorem dX8_board_26 : decode cX8_board 26 = .ok (.aload_n 0, 1) := by decide +kernel
theorem dX8_board_27 : decode cX8_board 27 = .ok (.getfield 65, 3) := by decide +kernel
theorem dX8_board_30 : decode cX8_board 30 = .ok (.getfield 135, 3) := by decide +kernel
theorem dX8_board_33 : decode cX8_board 33 = .ok (.goto 10, 3) := by decide +kernel
theorem dX8_board_36 : decode cX8_board 36 = .ok (.aload_n 0, 1) := by decide +kernel
theorem dX8_board_37 : decode cX8_board 37 = .ok (.getfield 65, 3) := by decide +kernel
theorem dX8_board_40 : decode cX8_board 40 = .ok (.getfield 132, 3) := by decide +kernel
theorem dX8_board_43 : decode cX8_board 43 = .ok (.astore 5, 2) := by decide +kernel
theorem dX8_board_45 : decode cX8_board 45 = .ok (.iload_n 3, 1) := by decide +kernel
theorem dX8_board_46 : decode cX8_board 46 = .ok (.ifCond .eq 13, 3) := by decide +kernel
theorem dX8_board_49 : decode cX8_board 49 = .ok (.aload_n 0, 1) := by decide +kernel
theorem dX8_board_50 : decode cX8_board 50 = .ok (.getfield 81, 3) := by decide +kernel
theorem dX8_board_53 : decode cX8_board 53 = .ok (.getfield 147, 3) := by decide +kernel
theorem dX8_board_56 : decode cX8_board 56 = .ok (.goto 10, 3) := by decide +kernel
theorem dX8_board_59 : decode cX8_board 59 = .ok (.aload_n 0, 1) := by decide +kernel
theorem dX8_board_60 : decode cX8_board 60 = .ok (.getfield 81, 3) := by decide +kernel
theorem dX8_board_63 : decode cX8_board 63 = .ok (.getfield 144, 3) := by decide +kernel
theorem dX8_board_66 : decode cX8_board 66 = .ok (.astore 6, 2) := by decide +kernel
theorem dX8_board_68 : decode cX8_board 68 = .ok (.bipush (-2), 2) := by decide +kernel
theorem dX8_board_70 : decode cX8_board 70 = .ok (.istore 7, 2) := by decide +kernel
theorem dX8_board_72 : decode cX8_board 72 = .ok (.iload_n 2, 1) := by decide +kernel
theorem dX8_board_73 : decode cX8_board 73 = .ok (.istore 8, 2) := by decide +kernel
theorem dX8_board_75 : decode cX8_board 75 = .ok (.iconst 0, 1) := by decide +kernel
theorem dX8_board_76 : decode cX8_board 76 = .ok (.istore 9, 2) := by decide +kernel
theorem dX8_board_78 : decode cX8_board 78 = .ok (.iload 9, 2) := by decide +kernel
theorem dX8_board_80 : decode cX8_board 80 = .ok (.iload 4, 2) := by decide +kernel
theorem dX8_board_82 : decode cX8_board 82 = .ok (.if_icmp .gt 51, 3) := by decide +kernel
theorem dX8_board_85 : decode cX8_board 85 = .ok (.iload 9, 2) := by decide +kernel
theorem dX8_board_87 : decode cX8_board 87 = .ok (.aload_n 0, 1) := by decide +kernel
theorem dX8_board_88 : decode cX8_board 88 = .ok (.getfield 65, 3) := by decide +kernel
theorem dX8_board_91 : decode cX8_board 91 = .ok (.getfield 359, 3) := by decide +kernel
theorem dX8_board_94 : decode cX8_board 94 = .ok (.if_icmp .gt 39, 3) := by decide +kernel
theorem dX8_board_97 : decode cX8_board 97 = .ok (.aload_n 0, 1) := by decide +kernel
theorem dX8_board_98 : decode cX8_board 98 = .ok (.aload 5, 2) := by decide +kernel
theorem dX8_board_100 : decode cX8_board 100 = .ok (.aload 6, 2) := by decide +kernel
theorem dX8_board_102 : decode cX8_board 102 = .ok (.iload_n 1, 1) := by decide +kernel
theorem dX8_board_103 : decode cX8_board 103 = .ok (.iload 7, 2) := by decide +kernel
theorem dX8_board_105 : decode cX8_board 105 = .ok (.iload 8, 2) := by decide +kernel
theorem dX8_board_107 : decode cX8_board 107 = .ok (.invokevirtual 361, 3) := by decide +kernel
theorem dX8_board_110 : decode cX8_board 110 = .ok (.istore 7, 2) := by decide +kernel
theorem dX8_board_112 : decode cX8_board 112 = .ok (.iload 7, 2) := by decide +kernel
theorem dX8_board_114 : decode cX8_board 114 = .ok (.ifCond .ge 6, 3) := by decide +kernel
theorem dX8_board_117 : decode cX8_board 117 = .ok (.bipush (-2), 2) := by decide +kernel
theorem dX8_board_119 : decode cX8_board 119 = .ok (.ireturn, 1) := by decide +kernel
theorem dX8_board_120 : decode cX8_board 120 = .ok (.aload 6, 2) := by decide +kernel
theorem dX8_board_122 : decode cX8_board 122 = .ok (.iload 7, 2) := by decide +kernel
theorem dX8_board_124 : decode cX8_board 124 = .ok (.iaload, 1) := by decide +kernel
theorem dX8_board_125 : decode cX8_board 125 = .ok (.istore 8, 2) := by decide +kernel
theorem dX8_board_127 : decode cX8_board 127 = .ok (.iinc 9 1, 3) := by decide +kernel
theorem dX8_board_130 : decode cX8_board 130 = .ok (.goto (-52), 3) := by decide +kernel
theorem dX8_board_133 : decode cX8_board 133 = .ok (.iload 7, 2) := by decide +kernel
theorem dX8_board_135 : decode cX8_board 135 = .ok (.ireturn, 1) := by decide +kernel
theorem dX8_breaks_0 : decode cX8_breaks 0 = .ok (.aload_n 0, 1) := by decide +kernel
theorem dX8_breaks_1 : decode cX8_breaks 1 = .ok (.iload_n 1, 1) := by decide +kernel
theorem dX8_breaks_2 : decode cX8_breaks 2 = .ok (.invokevirtual 287, 3) := by decide +kernel
theorem dX8_breaks_5 : decode cX8_breaks 5 = .ok (.ifCond .eq 22, 3) := by decide +kernel
theorem dX8_breaks_8 : decode cX8_breaks 8 = .ok (.aload_n 0, 1) := by decide +kernel
theorem dX8_breaks_9 : decode cX8_breaks 9 = .ok (.iload_n 3, 1) := by decide +kernel
theorem dX8_breaks_10 : decode cX8_breaks 10 = .ok (.invokevirtual 161, 3) := by decide +kernel
theorem dX8_breaks_13 : decode cX8_breaks 13 = .ok (.ifCond .eq 14, 3) := by decide +kernel
theorem dX8_breaks_16 : decode cX8_breaks 16 = .ok (.iload_n 2, 1) := by decide +kernel
theorem dX8_breaks_17 : decode cX8_breaks 17 = .ok (.iconst 1, 1) := by decide +kernel
theorem dX8_breaks_18 : decode cX8_breaks 18 = .ok (.sipush 240, 3) := by decide +kernel
theorem dX8_breaks_21 : decode cX8_breaks 21 = .ok (.invokestatic 179, 3) := by decide +kernel
theorem dX8_breaks_24 : decode cX8_breaks 24 = .ok (.ifCond .ne 5, 3) := by decide +kernel
theorem dX8_breaks_27 : decode cX8_breaks 27 = .ok (.iconst (-1), 1) := by decide +kernel
theorem dX8_breaks_28 : decode cX8_breaks 28 = .ok (.ireturn, 1) := by decide +kernel
theorem dX8_breaks_29 : decode cX8_breaks 29 = .ok (.aload_n 0, 1) := by decide +kernel
theorem dX8_breaks_30 : decode cX8_breaks 30 = .ok (.iload_n 3, 1) := by decide +kernel
theorem dX8_breaks_31 : decode cX8_breaks 31 = .ok (.iload_n 1, 1) := by decide +kernel
theorem dX8_breaks_32 : decode cX8_breaks 32 = .ok (.iload_n 2, 1) := by decide +kernel
theorem dX8_breaks_33 : decode cX8_breaks 33 = .ok (.invokevirtual 290, 3) := by decide +kernel
theorem dX8_breaks_36 : decode cX8_breaks 36 = .ok (.ireturn, 1) := by decide +kernel
theorem dX8_breaksInTime_0 : decode cX8_breaksInTime 0 = .ok (.aload_n 0, 1) := by decide +kernel
theorem dX8_breaksInTime_1 : decode cX8_breaksInTime 1 = .ok (.getfield 48, 3) := by decide +kernel
theorem dX8_breaksInTime_4 : decode cX8_breaksInTime 4 = .ok (.getfield 258, 3) := by decide +kernel
theorem dX8_breaksInTime_7 : decode cX8_breaksInTime 7 = .ok (.ifCond .ne 5, 3) := by decide +kernel
theorem dX8_breaksInTime_10 : decode cX8_breaksInTime 10 = .ok (.iconst 0, 1) := by decide +kernel
theorem dX8_breaksInTime_11 : decode cX8_breaksInTime 11 = .ok (.ireturn, 1) := by decide +kernel
theorem dX8_breaksInTime_12 : decode cX8_breaksInTime 12 = .ok (.aload_n 0, 1) := by decide +kernel
theorem dX8_breaksInTime_13 : decode cX8_breaksInTime 13 = .ok (.getfield 54, 3) := by decide +kernel
theorem dX8_breaksInTime_16 : decode cX8_breaksInTime 16 = .ok (.aload_n 0, 1) := by decide +kernel
theorem dX8_breaksInTime_17 : decode cX8_breaksInTime 17 = .ok (.getfield 48, 3) := by decide +kernel
theorem dX8_breaksInTime_20 : decode cX8_breaksInTime 20 = .ok (.aload_n 0, 1) := by decide +kernel
theorem dX8_breaksInTime_21 : decode cX8_breaksInTime 21 = .ok (.getfield 81, 3) := by decide +kernel
theorem dX8_breaksInTime_24 : decode cX8_breaksInTime 24 = .ok (.iload_n 1, 1) := by decide +kernel
theorem dX8_breaksInTime_25 : decode cX8_breaksInTime 25 = .ok (.iload_n 2, 1) := by decide +kernel
theorem dX8_breaksInTime_26 : decode cX8_breaksInTime 26 = .ok (.iload_n 3, 1) := by decide +kernel
theorem dX8_breaksInTime_27 : decode cX8_breaksInTime 27 = .ok (.invokevirtual 377, 3) := by decide +kernel
theorem dX8_breaksInTime_30 : decode cX8_breaksInTime 30 = .ok (.aload_n 0, 1) := by decide +kernel
theorem dX8_breaksInTime_31 : decode cX8_breaksInTime 31 = .ok (.getfield 54, 3) := by decide +kernel
theorem dX8_breaksInTime_34 : decode cX8_breaksInTime 34 = .ok (.getfield 381, 3) := by decide +kernel
theorem dX8_breaksInTime_37 : decode cX8_breaksInTime 37 = .ok (.iconst 2, 1) := by decide +kernel
theorem dX8_breaksInTime_38 : decode cX8_breaksInTime 38 = .ok (.if_icmp .ne 7, 3) := by decide +kernel
theorem dX8_breaksInTime_41 : decode cX8_breaksInTime 41 = .ok (.iconst 1, 1) := by decide +kernel
theorem dX8_breaksInTime_42 : decode cX8_breaksInTime 42 = .ok (.goto 4, 3) := by decide +kernel
theorem dX8_breaksInTime_45 : decode cX8_breaksInTime 45 = .ok (.iconst 0, 1) := by decide +kernel
theorem dX8_breaksInTime_46 : decode cX8_breaksInTime 46 = .ok (.ireturn, 1) := by decide +kernel
theorem dX8_cancel_0 : decode cX8_cancel 0 = .ok (.aload_n 0, 1) := by decide +kernel
theorem dX8_cancel_1 : decode cX8_cancel 1 = .ok (.iload_n 1, 1) := by decide +kernel
theorem dX8_cancel_2 : decode cX8_cancel 2 = .ok (.iload_n 2, 1) := by decide +kernel
theorem dX8_cancel_3 : decode cX8_cancel 3 = .ok (.invokevirtual 175, 3) := by decide +kernel
theorem dX8_cancel_6 : decode cX8_cancel 6 = .ok (.ifCond .eq 8, 3) := by decide +kernel
theorem dX8_cancel_9 : decode cX8_cancel 9 = .ok (.iload_n 3, 1) := by decide +kernel
theorem dX8_cancel_10 : decode cX8_cancel 10 = .ok (.iconst 1, 1) := by decide +kernel
theorem dX8_cancel_11 : decode cX8_cancel 11 = .ok (.if_icmp .ge 5, 3) := by decide +kernel
theorem dX8_cancel_14 : decode cX8_cancel 14 = .ok (.iconst (-1), 1) := by decide +kernel
theorem dX8_cancel_15 : decode cX8_cancel 15 = .ok (.ireturn, 1) := by decide +kernel
theorem dX8_cancel_16 : decode cX8_cancel 16 = .ok (.aload_n 0, 1) := by decide +kernel
theorem dX8_cancel_17 : decode cX8_cancel 17 = .ok (.getfield 65, 3) := by decide +kernel
theorem dX8_cancel_20 : decode cX8_cancel 20 = .ok (.getfield 183, 3) := by decide +kernel
theorem dX8_cancel_23 : decode cX8_cancel 23 = .ok (.iload_n 1, 1) := by decide +kernel
theorem dX8_cancel_24 : decode cX8_cancel 24 = .ok (.iaload, 1) := by decide +kernel
theorem dX8_cancel_25 : decode cX8_cancel 25 = .ok (.iload_n 2, 1) := by decide +kernel
theorem dX8_cancel_26 : decode cX8_cancel 26 = .ok (.iadd, 1) := by decide +kernel
theorem dX8_cancel_27 : decode cX8_cancel 27 = .ok (.istore 5, 2) := by decide +kernel
theorem dX8_cancel_29 : decode cX8_cancel 29 = .ok (.iload 5, 2) := by decide +kernel
theorem dX8_cancel_31 : decode cX8_cancel 31 = .ok (.iload_n 3, 1) := by decide +kernel
theorem dX8_cancel_32 : decode cX8_cancel 32 = .ok (.aload_n 0, 1) := by decide +kernel
theorem dX8_cancel_33 : decode cX8_cancel 33 = .ok (.getfield 65, 3) := by decide +kernel
theorem dX8_cancel_36 : decode cX8_cancel 36 = .ok (.getfield 183, 3) := by decide +kernel
theorem dX8_cancel_39 : decode cX8_cancel 39 = .ok (.iload_n 1, 1) := by decide +kernel
theorem dX8_cancel_40 : decode cX8_cancel 40 = .ok (.iconst 1, 1) := by decide +kernel
theorem dX8_cancel_41 : decode cX8_cancel 41 = .ok (.iadd, 1) := by decide +kernel
theorem dX8_cancel_42 : decode cX8_cancel 42 = .ok (.iaload, 1) := by decide +kernel
theorem dX8_cancel_43 : decode cX8_cancel 43 = .ok (.iload 5, 2) := by decide +kernel
theorem dX8_cancel_45 : decode cX8_cancel 45 = .ok (.isub, 1) := by decide +kernel
theorem dX8_cancel_46 : decode cX8_cancel 46 = .ok (.invokestatic 203, 3) := by decide +kernel
theorem dX8_cancel_49 : decode cX8_cancel 49 = .ok (.iadd, 1) := by decide +kernel
theorem dX8_cancel_50 : decode cX8_cancel 50 = .ok (.istore 6, 2) := by decide +kernel
theorem dX8_cancel_52 : decode cX8_cancel 52 = .ok (.iconst 0, 1) := by decide +kernel
theorem dX8_cancel_53 : decode cX8_cancel 53 = .ok (.istore 7, 2) := by decide +kernel
theorem dX8_cancel_55 : decode cX8_cancel 55 = .ok (.iload 5, 2) := by decide +kernel
theorem dX8_cancel_57 : decode cX8_cancel 57 = .ok (.istore 8, 2) := by decide +kernel
theorem dX8_cancel_59 : decode cX8_cancel 59 = .ok (.iload 8, 2) := by decide +kernel
theorem dX8_cancel_61 : decode cX8_cancel 61 = .ok (.iload 6, 2) := by decide +kernel
theorem dX8_cancel_63 : decode cX8_cancel 63 = .ok (.if_icmp .ge 26, 3) := by decide +kernel
theorem dX8_cancel_66 : decode cX8_cancel 66 = .ok (.aload_n 0, 1) := by decide +kernel
theorem dX8_cancel_67 : decode cX8_cancel 67 = .ok (.getfield 81, 3) := by decide +kernel
theorem dX8_cancel_70 : decode cX8_cancel 70 = .ok (.iload 8, 2) := by decide +kernel
theorem dX8_cancel_72 : decode cX8_cancel 72 = .ok (.invokevirtual 150, 3) := by decide +kernel
theorem dX8_cancel_75 : decode cX8_cancel 75 = .ok (.iload 4, 2) := by decide +kernel
theorem dX8_cancel_77 : decode cX8_cancel 77 = .ok (.if_icmp .eq 6, 3) := by decide +kernel
theorem dX8_cancel_80 : decode cX8_cancel 80 = .ok (.iinc 7 1, 3) := by decide +kernel
theorem dX8_cancel_83 : decode cX8_cancel 83 = .ok (.iinc 8 1, 3) := by decide +kernel
theorem dX8_cancel_86 : decode cX8_cancel 86 = .ok (.goto (-27), 3) := by decide +kernel
theorem dX8_cancel_89 : decode cX8_cancel 89 = .ok (.iload 7, 2) := by decide +kernel
theorem dX8_cancel_91 : decode cX8_cancel 91 = .ok (.ifCond .le 66, 3) := by decide +kernel
theorem dX8_cancel_94 : decode cX8_cancel 94 = .ok (.aload_n 0, 1) := by decide +kernel
theorem dX8_cancel_95 : decode cX8_cancel 95 = .ok (.getfield 23, 3) := by decide +kernel
theorem dX8_cancel_98 : decode cX8_cancel 98 = .ok (.aload_n 0, 1) := by decide +kernel
theorem dX8_cancel_99 : decode cX8_cancel 99 = .ok (.getfield 81, 3) := by decide +kernel
theorem dX8_cancel_102 : decode cX8_cancel 102 = .ok (.invokevirtual 192, 3) := by decide +kernel
theorem dX8_cancel_105 : decode cX8_cancel 105 = .ok (.iload 5, 2) := by decide +kernel
theorem dX8_cancel_107 : decode cX8_cancel 107 = .ok (.iload 6, 2) := by decide +kernel
theorem dX8_cancel_109 : decode cX8_cancel 109 = .ok (.invokestatic 209, 3) := by decide +kernel
theorem dX8_cancel_112 : decode cX8_cancel 112 = .ok (.lstore 8, 2) := by decide +kernel
theorem dX8_cancel_114 : decode cX8_cancel 114 = .ok (.aload_n 0, 1) := by decide +kernel
theorem dX8_cancel_115 : decode cX8_cancel 115 = .ok (.getfield 81, 3) := by decide +kernel
theorem dX8_cancel_118 : decode cX8_cancel 118 = .ok (.iload 4, 2) := by decide +kernel
theorem dX8_cancel_120 : decode cX8_cancel 120 = .ok (.ifCond .eq 16, 3) := by decide +kernel
theorem dX8_cancel_123 : decode cX8_cancel 123 = .ok (.aload_n 0, 1) := by decide +kernel
theorem dX8_cancel_124 : decode cX8_cancel 124 = .ok (.getfield 81, 3) := by decide +kernel
theorem dX8_cancel_127 : decode cX8_cancel 127 = .ok (.getfield 213, 3) := by decide +kernel
theorem dX8_cancel_130 : decode cX8_cancel 130 = .ok (.lload 8, 2) := by decide +kernel
theorem dX8_cancel_132 : decode cX8_cancel 132 = .ok (.lor, 1) := by decide +kernel
theorem dX8_cancel_133 : decode cX8_cancel 133 = .ok (.goto 17, 3) := by decide +kernel
theorem dX8_cancel_136 : decode cX8_cancel 136 = .ok (.aload_n 0, 1) := by decide +kernel
theorem dX8_cancel_137 : decode cX8_cancel 137 = .ok (.getfield 81, 3) := by decide +kernel
theorem dX8_cancel_140 : decode cX8_cancel 140 = .ok (.getfield 213, 3) := by decide +kernel
theorem dX8_cancel_143 : decode cX8_cancel 143 = .ok (.lload 8, 2) := by decide +kernel
theorem dX8_cancel_145 : decode cX8_cancel 145 = .ok (.ldc2_w 217, 3) := by decide +kernel
theorem dX8_cancel_148 : decode cX8_cancel 148 = .ok (.lxor, 1) := by decide +kernel
theorem dX8_cancel_149 : decode cX8_cancel 149 = .ok (.land, 1) := by decide +kernel
theorem dX8_cancel_150 : decode cX8_cancel 150 = .ok (.putfield 213, 3) := by decide +kernel
theorem dX8_cancel_153 : decode cX8_cancel 153 = .ok (.aload_n 0, 1) := by decide +kernel
theorem dX8_cancel_154 : decode cX8_cancel 154 = .ok (.invokevirtual 200, 3) := by decide +kernel
theorem dX8_cancel_157 : decode cX8_cancel 157 = .ok (.iload 7, 2) := by decide +kernel
theorem dX8_cancel_159 : decode cX8_cancel 159 = .ok (.ireturn, 1) := by decide +kernel
theorem dX8_cause_0 : decode cX8_cause 0 = .ok (.aload_n 0, 1) := by decide +kernel
theorem dX8_cause_1 : decode cX8_cause 1 = .ok (.iload_n 1, 1) := by decide +kernel
theorem dX8_cause_2 : decode cX8_cause 2 = .ok (.invokevirtual 161, 3) := by decide +kernel
theorem dX8_cause_5 : decode cX8_cause 5 = .ok (.ifCond .eq 18, 3) := by decide +kernel
theorem dX8_cause_8 : decode cX8_cause 8 = .ok (.aload_n 0, 1) := by decide +kernel
theorem dX8_cause_9 : decode cX8_cause 9 = .ok (.iload_n 2, 1) := by decide +kernel
theorem dX8_cause_10 : decode cX8_cause 10 = .ok (.invokevirtual 161, 3) := by decide +kernel
theorem dX8_cause_13 : decode cX8_cause 13 = .ok (.ifCond .eq 10, 3) := by decide +kernel
theorem dX8_cause_16 : decode cX8_cause 16 = .ok (.iload_n 3, 1) := by decide +kernel
theorem dX8_cause_17 : decode cX8_cause 17 = .ok (.invokestatic 307, 3) := by decide +kernel
theorem dX8_cause_20 : decode cX8_cause 20 = .ok (.ifCond .ne 5, 3) := by decide +kernel
theorem dX8_cause_23 : decode cX8_cause 23 = .ok (.iconst (-1), 1) := by decide +kernel
theorem dX8_cause_24 : decode cX8_cause 24 = .ok (.ireturn, 1) := by decide +kernel
theorem dX8_cause_25 : decode cX8_cause 25 = .ok (.aload_n 0, 1) := by decide +kernel
theorem dX8_cause_26 : decode cX8_cause 26 = .ok (.iload_n 1, 1) := by decide +kernel
theorem dX8_cause_27 : decode cX8_cause 27 = .ok (.iload_n 2, 1) := by decide +kernel
theorem dX8_cause_28 : decode cX8_cause 28 = .ok (.iload_n 3, 1) := by decide +kernel
theorem dX8_cause_29 : decode cX8_cause 29 = .ok (.invokevirtual 389, 3) := by decide +kernel
theorem dX8_cause_32 : decode cX8_cause 32 = .ok (.ifCond .ne 6, 3) := by decide +kernel
theorem dX8_cause_35 : decode cX8_cause 35 = .ok (.bipush (-2), 2) := by decide +kernel
theorem dX8_cause_37 : decode cX8_cause 37 = .ok (.ireturn, 1) := by decide +kernel
theorem dX8_cause_38 : decode cX8_cause 38 = .ok (.aload_n 0, 1) := by decide +kernel
theorem dX8_cause_39 : decode cX8_cause 39 = .ok (.getfield 48, 3) := by decide +kernel
theorem dX8_cause_42 : decode cX8_cause 42 = .ok (.aload_n 0, 1) := by decide +kernel
theorem dX8_cause_43 : decode cX8_cause 43 = .ok (.getfield 77, 3) := by decide +kernel
theorem dX8_cause_46 : decode cX8_cause 46 = .ok (.aload_n 0, 1) := by decide +kernel
theorem dX8_cause_47 : decode cX8_cause 47 = .ok (.getfield 54, 3) := by decide +kernel
theorem dX8_cause_50 : decode cX8_cause 50 = .ok (.getfield 384, 3) := by decide +kernel
theorem dX8_cause_53 : decode cX8_cause 53 = .ok (.iload_n 1, 1) := by decide +kernel
theorem dX8_cause_54 : decode cX8_cause 54 = .ok (.iload_n 3, 1) := by decide +kernel
theorem dX8_cause_55 : decode cX8_cause 55 = .ok (.invokevirtual 392, 3) := by decide +kernel
theorem dX8_cause_58 : decode cX8_cause 58 = .ok (.ifCond .ge 6, 3) := by decide +kernel
theorem dX8_cause_61 : decode cX8_cause 61 = .ok (.bipush (-3), 2) := by decide +kernel
theorem dX8_cause_63 : decode cX8_cause 63 = .ok (.ireturn, 1) := by decide +kernel
theorem dX8_cause_64 : decode cX8_cause 64 = .ok (.aload_n 0, 1) := by decide +kernel
theorem dX8_cause_65 : decode cX8_cause 65 = .ok (.getfield 54, 3) := by decide +kernel
theorem dX8_cause_68 : decode cX8_cause 68 = .ok (.getfield 384, 3) := by decide +kernel
theorem dX8_cause_71 : decode cX8_cause 71 = .ok (.iconst 1, 1) := by decide +kernel
theorem dX8_cause_72 : decode cX8_cause 72 = .ok (.isub, 1) := by decide +kernel
theorem dX8_cause_73 : decode cX8_cause 73 = .ok (.istore 4, 2) := by decide +kernel
theorem dX8_cause_75 : decode cX8_cause 75 = .ok (.iload 4, 2) := by decide +kernel
theorem dX8_cause_77 : decode cX8_cause 77 = .ok (.ifCond .lt 32, 3) := by decide +kernel
theorem dX8_cause_80 : decode cX8_cause 80 = .ok (.aload_n 0, 1) := by decide +kernel
theorem dX8_cause_81 : decode cX8_cause 81 = .ok (.getfield 81, 3) := by decide +kernel
theorem dX8_cause_84 : decode cX8_cause 84 = .ok (.aload_n 0, 1) := by decide +kernel
theorem dX8_cause_85 : decode cX8_cause 85 = .ok (.getfield 48, 3) := by decide +kernel
theorem dX8_cause_88 : decode cX8_cause 88 = .ok (.getfield 262, 3) := by decide +kernel
theorem dX8_cause_91 : decode cX8_cause 91 = .ok (.iload 4, 2) := by decide +kernel
theorem dX8_cause_93 : decode cX8_cause 93 = .ok (.iaload, 1) := by decide +kernel
theorem dX8_cause_94 : decode cX8_cause 94 = .ok (.invokevirtual 189, 3) := by decide +kernel
theorem dX8_cause_97 : decode cX8_cause 97 = .ok (.ifCond .eq 6, 3) := by decide +kernel
theorem dX8_cause_100 : decode cX8_cause 100 = .ok (.iload 4, 2) := by decide +kernel
theorem dX8_cause_102 : decode cX8_cause 102 = .ok (.ireturn, 1) := by decide +kernel
theorem dX8_cause_103 : decode cX8_cause 103 = .ok (.iinc 4 (-1), 3) := by decide +kernel
theorem dX8_cause_106 : decode cX8_cause 106 = .ok (.goto (-31), 3) := by decide +kernel
theorem dX8_cause_109 : decode cX8_cause 109 = .ok (.aload_n 0, 1) := by decide +kernel
theorem dX8_cause_110 : decode cX8_cause 110 = .ok (.getfield 54, 3) := by decide +kernel
theorem dX8_cause_113 : decode cX8_cause 113 = .ok (.getfield 384, 3) := by decide +kernel
theorem dX8_cause_116 : decode cX8_cause 116 = .ok (.ireturn, 1) := by decide +kernel
theorem dX8_change_0 : decode cX8_change 0 = .ok (.aload_n 0, 1) := by decide +kernel
theorem dX8_change_1 : decode cX8_change 1 = .ok (.iload_n 1, 1) := by decide +kernel
theorem dX8_change_2 : decode cX8_change 2 = .ok (.invokevirtual 161, 3) := by decide +kernel
theorem dX8_change_5 : decode cX8_change 5 = .ok (.ifCond .eq 15, 3) := by decide +kernel
theorem dX8_change_8 : decode cX8_change 8 = .ok (.aload_n 0, 1) := by decide +kernel
theorem dX8_change_9 : decode cX8_change 9 = .ok (.getfield 65, 3) := by decide +kernel
theorem dX8_change_12 : decode cX8_change 12 = .ok (.getfield 172, 3) := by decide +kernel
theorem dX8_change_15 : decode cX8_change 15 = .ok (.iload_n 1, 1) := by decide +kernel
theorem dX8_change_16 : decode cX8_change 16 = .ok (.iaload, 1) := by decide +kernel
theorem dX8_change_17 : decode cX8_change 17 = .ok (.goto 4, 3) := by decide +kernel
theorem dX8_change_20 : decode cX8_change 20 = .ok (.iconst (-1), 1) := by decide +kernel
theorem dX8_change_21 : decode cX8_change 21 = .ok (.ireturn, 1) := by decide +kernel
theorem dX8_checked_0 : decode cX8_checked 0 = .ok (.aload_n 0, 1) := by decide +kernel
theorem dX8_checked_1 : decode cX8_checked 1 = .ok (.iload_n 1, 1) := by decide +kernel
theorem dX8_checked_2 : decode cX8_checked 2 = .ok (.invokevirtual 161, 3) := by decide +kernel
theorem dX8_checked_5 : decode cX8_checked 5 = .ok (.ifCond .eq 28, 3) := by decide +kernel
theorem dX8_checked_8 : decode cX8_checked 8 = .ok (.aload_n 0, 1) := by decide +kernel
theorem dX8_checked_9 : decode cX8_checked 9 = .ok (.iload_n 2, 1) := by decide +kernel
theorem dX8_checked_10 : decode cX8_checked 10 = .ok (.invokevirtual 161, 3) := by decide +kernel
theorem dX8_checked_13 : decode cX8_checked 13 = .ok (.ifCond .eq 20, 3) := by decide +kernel
theorem dX8_checked_16 : decode cX8_checked 16 = .ok (.iload_n 3, 1) := by decide +kernel
theorem dX8_checked_17 : decode cX8_checked 17 = .ok (.invokestatic 307, 3) := by decide +kernel
theorem dX8_checked_20 : decode cX8_checked 20 = .ok (.ifCond .eq 13, 3) := by decide +kernel
theorem dX8_checked_23 : decode cX8_checked 23 = .ok (.iload 5, 2) := by decide +kernel
theorem dX8_checked_25 : decode cX8_checked 25 = .ok (.iconst 0, 1) := by decide +kernel
theorem dX8_checked_26 : decode cX8_checked 26 = .ok (.iconst 2, 1) := by decide +kernel
theorem dX8_checked_27 : decode cX8_checked 27 = .ok (.invokestatic 179, 3) := by decide +kernel
theorem dX8_checked_30 : decode cX8_checked 30 = .ok (.ifCond .ne 5, 3) := by decide +kernel
theorem dX8_checked_33 : decode cX8_checked 33 = .ok (.iconst (-1), 1) := by decide +kernel
theorem dX8_checked_34 : decode cX8_checked 34 = .ok (.ireturn, 1) := by decide +kernel
theorem dX8_checked_35 : decode cX8_checked 35 = .ok (.aload_n 0, 1) := by decide +kernel
theorem dX8_checked_36 : decode cX8_checked 36 = .ok (.getfield 48, 3) := by decide +kernel
theorem dX8_checked_39 : decode cX8_checked 39 = .ok (.getfield 258, 3) := by decide +kernel
theorem dX8_checked_42 : decode cX8_checked 42 = .ok (.ifCond .ne 6, 3) := by decide +kernel
theorem dX8_checked_45 : decode cX8_checked 45 = .ok (.bipush (-3), 2) := by decide +kernel
theorem dX8_checked_47 : decode cX8_checked 47 = .ok (.ireturn, 1) := by decide +kernel
theorem dX8_checked_48 : decode cX8_checked 48 = .ok (.aload_n 0, 1) := by decide +kernel
theorem dX8_checked_49 : decode cX8_checked 49 = .ok (.getfield 54, 3) := by decide +kernel
theorem dX8_checked_52 : decode cX8_checked 52 = .ok (.aload_n 0, 1) := by decide +kernel
theorem dX8_checked_53 : decode cX8_checked 53 = .ok (.getfield 48, 3) := by decide +kernel
theorem dX8_checked_56 : decode cX8_checked 56 = .ok (.iload 4, 2) := by decide +kernel
theorem dX8_checked_58 : decode cX8_checked 58 = .ok (.ifCond .eq 10, 3) := by decide +kernel
theorem dX8_checked_61 : decode cX8_checked 61 = .ok (.aload_n 0, 1) := by decide +kernel
theorem dX8_checked_62 : decode cX8_checked 62 = .ok (.getfield 77, 3) := by decide +kernel
theorem dX8_checked_65 : decode cX8_checked 65 = .ok (.goto 7, 3) := by decide +kernel
theorem dX8_checked_68 : decode cX8_checked 68 = .ok (.aload_n 0, 1) := by decide +kernel
theorem dX8_checked_69 : decode cX8_checked 69 = .ok (.getfield 81, 3) := by decide +kernel
theorem dX8_checked_72 : decode cX8_checked 72 = .ok (.iload_n 1, 1) := by decide +kernel
theorem dX8_checked_73 : decode cX8_checked 73 = .ok (.iload_n 2, 1) := by decide +kernel
theorem dX8_checked_74 : decode cX8_checked 74 = .ok (.iload_n 3, 1) := by decide +kernel
theorem dX8_checked_75 : decode cX8_checked 75 = .ok (.invokevirtual 377, 3) := by decide +kernel
theorem dX8_checked_78 : decode cX8_checked 78 = .ok (.iload 5, 2) := by decide +kernel
theorem dX8_checked_80 : decode cX8_checked 80 = .ok (.ifCond .ne 11, 3) := by decide +kernel
theorem dX8_checked_83 : decode cX8_checked 83 = .ok (.aload_n 0, 1) := by decide +kernel
theorem dX8_checked_84 : decode cX8_checked 84 = .ok (.getfield 54, 3) := by decide +kernel
theorem dX8_checked_87 : decode cX8_checked 87 = .ok (.getfield 381, 3) := by decide +kernel
theorem dX8_checked_90 : decode cX8_checked 90 = .ok (.ireturn, 1) := by decide +kernel
theorem dX8_checked_91 : decode cX8_checked 91 = .ok (.aload_n 0, 1) := by decide +kernel
theorem dX8_checked_92 : decode cX8_checked 92 = .ok (.getfield 54, 3) := by decide +kernel
theorem dX8_checked_95 : decode cX8_checked 95 = .ok (.getfield 381, 3) := by decide +kernel
theorem dX8_checked_98 : decode cX8_checked 98 = .ok (.ifCond .eq 7, 3) := by decide +kernel
theorem dX8_checked_101 : decode cX8_checked 101 = .ok (.iconst 1, 1) := by decide +kernel
theorem dX8_checked_102 : decode cX8_checked 102 = .ok (.goto 4, 3) := by decide +kernel
theorem dX8_checked_105 : decode cX8_checked 105 = .ok (.iconst 0, 1) := by decide +kernel
theorem dX8_checked_106 : decode cX8_checked 106 = .ok (.istore 6, 2) := by decide +kernel
theorem dX8_checked_108 : decode cX8_checked 108 = .ok (.iload 5, 2) := by decide +kernel
theorem dX8_checked_110 : decode cX8_checked 110 = .ok (.iconst 1, 1) := by decide +kernel
theorem dX8_checked_111 : decode cX8_checked 111 = .ok (.if_icmp .ne 21, 3) := by decide +kernel
theorem dX8_checked_114 : decode cX8_checked 114 = .ok (.iload 6, 2) := by decide +kernel
theorem dX8_checked_116 : decode cX8_checked 116 = .ok (.ifCond .eq 13, 3) := by decide +kernel
theorem dX8_checked_119 : decode cX8_checked 119 = .ok (.aload_n 0, 1) := by decide +kernel
theorem dX8_checked_120 : decode cX8_checked 120 = .ok (.getfield 54, 3) := by decide +kernel
theorem dX8_checked_123 : decode cX8_checked 123 = .ok (.getfield 384, 3) := by decide +kernel
theorem dX8_checked_126 : decode cX8_checked 126 = .ok (.goto 5, 3) := by decide +kernel
theorem dX8_checked_129 : decode cX8_checked 129 = .ok (.bipush (-2), 2) := by decide +kernel
theorem dX8_checked_131 : decode cX8_checked 131 = .ok (.ireturn, 1) := by decide +kernel
theorem dX8_checked_132 : decode cX8_checked 132 = .ok (.iload 6, 2) := by decide +kernel
theorem dX8_checked_134 : decode cX8_checked 134 = .ok (.ifCond .eq 8, 3) := by decide +kernel
theorem dX8_checked_137 : decode cX8_checked 137 = .ok (.bipush (-2), 2) := by decide +kernel
theorem dX8_checked_139 : decode cX8_checked 139 = .ok (.goto 10, 3) := by decide +kernel
theorem dX8_checked_142 : decode cX8_checked 142 = .ok (.aload_n 0, 1) := by decide +kernel
theorem dX8_checked_143 : decode cX8_checked 143 = .ok (.getfield 54, 3) := by decide +kernel
theorem dX8_checked_146 : decode cX8_checked 146 = .ok (.getfield 387, 3) := by decide +kernel
theorem dX8_checked_149 : decode cX8_checked 149 = .ok (.ireturn, 1) := by decide +kernel
theorem dX8_costOfFewer_0 : decode cX8_costOfFewer 0 = .ok (.aload_n 0, 1) := by decide +kernel
theorem dX8_costOfFewer_1 : decode cX8_costOfFewer 1 = .ok (.iload_n 1, 1) := by decide +kernel
theorem dX8_costOfFewer_2 : decode cX8_costOfFewer 2 = .ok (.iload_n 2, 1) := by decide +kernel
theorem dX8_costOfFewer_3 : decode cX8_costOfFewer 3 = .ok (.invokevirtual 238, 3) := by decide +kernel
theorem dX8_costOfFewer_6 : decode cX8_costOfFewer 6 = .ok (.ifCond .eq 20, 3) := by decide +kernel
theorem dX8_costOfFewer_9 : decode cX8_costOfFewer 9 = .ok (.iload_n 3, 1) := by decide +kernel
theorem dX8_costOfFewer_10 : decode cX8_costOfFewer 10 = .ok (.invokestatic 307, 3) := by decide +kernel
theorem dX8_costOfFewer_13 : decode cX8_costOfFewer 13 = .ok (.ifCond .eq 13, 3) := by decide +kernel
theorem dX8_costOfFewer_16 : decode cX8_costOfFewer 16 = .ok (.iload 4, 2) := by decide +kernel
theorem dX8_costOfFewer_18 : decode cX8_costOfFewer 18 = .ok (.iconst 1, 1) := by decide +kernel
theorem dX8_costOfFewer_19 : decode cX8_costOfFewer 19 = .ok (.iconst 4, 1) := by decide +kernel
theorem dX8_costOfFewer_20 : decode cX8_costOfFewer 20 = .ok (.invokestatic 179, 3) := by decide +kernel
theorem dX8_costOfFewer_23 : decode cX8_costOfFewer 23 = .ok (.ifCond .ne 7, 3) := by decide +kernel
theorem dX8_costOfFewer_26 : decode cX8_costOfFewer 26 = .ok (.sipush (-1000), 3) := by decide +kernel
theorem dX8_costOfFewer_29 : decode cX8_costOfFewer 29 = .ok (.ireturn, 1) := by decide +kernel
theorem dX8_costOfFewer_30 : decode cX8_costOfFewer 30 = .ok (.aload_n 0, 1) := by decide +kernel
theorem dX8_costOfFewer_31 : decode cX8_costOfFewer 31 = .ok (.getfield 81, 3) := by decide +kernel
theorem dX8_costOfFewer_34 : decode cX8_costOfFewer 34 = .ok (.iload_n 1, 1) := by decide +kernel
theorem dX8_costOfFewer_35 : decode cX8_costOfFewer 35 = .ok (.iload_n 2, 1) := by decide +kernel
theorem dX8_costOfFewer_36 : decode cX8_costOfFewer 36 = .ok (.iload_n 3, 1) := by decide +kernel
theorem dX8_costOfFewer_37 : decode cX8_costOfFewer 37 = .ok (.iload 4, 2) := by decide +kernel
theorem dX8_costOfFewer_39 : decode cX8_costOfFewer 39 = .ok (.lconst 0, 1) := by decide +kernel
theorem dX8_costOfFewer_40 : decode cX8_costOfFewer 40 = .ok (.invokevirtual 310, 3) := by decide +kernel
theorem dX8_costOfFewer_43 : decode cX8_costOfFewer 43 = .ok (.istore 5, 2) := by decide +kernel
theorem dX8_costOfFewer_45 : decode cX8_costOfFewer 45 = .ok (.iload 5, 2) := by decide +kernel
theorem dX8_costOfFewer_47 : decode cX8_costOfFewer 47 = .ok (.ldc_w 286, 3) := by decide +kernel
theorem dX8_costOfFewer_50 : decode cX8_costOfFewer 50 = .ok (.if_icmp .lt 7, 3) := by decide +kernel
theorem dX8_costOfFewer_53 : decode cX8_costOfFewer 53 = .ok (.sipush (-1000), 3) := by decide +kernel
theorem dX8_costOfFewer_56 : decode cX8_costOfFewer 56 = .ok (.ireturn, 1) := by decide +kernel
theorem dX8_costOfFewer_57 : decode cX8_costOfFewer 57 = .ok (.aload_n 0, 1) := by decide +kernel
theorem dX8_costOfFewer_58 : decode cX8_costOfFewer 58 = .ok (.getfield 81, 3) := by decide +kernel
theorem dX8_costOfFewer_61 : decode cX8_costOfFewer 61 = .ok (.iload_n 1, 1) := by decide +kernel
theorem dX8_costOfFewer_62 : decode cX8_costOfFewer 62 = .ok (.iload_n 2, 1) := by decide +kernel
theorem dX8_costOfFewer_63 : decode cX8_costOfFewer 63 = .ok (.iload_n 3, 1) := by decide +kernel
theorem dX8_costOfFewer_64 : decode cX8_costOfFewer 64 = .ok (.iload 4, 2) := by decide +kernel
theorem dX8_costOfFewer_66 : decode cX8_costOfFewer 66 = .ok (.iconst 1, 1) := by decide +kernel
theorem dX8_costOfFewer_67 : decode cX8_costOfFewer 67 = .ok (.isub, 1) := by decide +kernel
theorem dX8_costOfFewer_68 : decode cX8_costOfFewer 68 = .ok (.lconst 0, 1) := by decide +kernel
theorem dX8_costOfFewer_69 : decode cX8_costOfFewer 69 = .ok (.invokevirtual 310, 3) := by decide +kernel
theorem dX8_costOfFewer_72 : decode cX8_costOfFewer 72 = .ok (.istore 6, 2) := by decide +kernel
theorem dX8_costOfFewer_74 : decode cX8_costOfFewer 74 = .ok (.iload 6, 2) := by decide +kernel
theorem dX8_costOfFewer_76 : decode cX8_costOfFewer 76 = .ok (.ldc_w 286, 3) := by decide +kernel
theorem dX8_costOfFewer_79 : decode cX8_costOfFewer 79 = .ok (.if_icmp .lt 9, 3) := by decide +kernel
theorem dX8_costOfFewer_82 : decode cX8_costOfFewer 82 = .ok (.sipush 5000, 3) := by decide +kernel
theorem dX8_costOfFewer_85 : decode cX8_costOfFewer 85 = .ok (.goto 8, 3) := by decide +kernel
theorem dX8_costOfFewer_88 : decode cX8_costOfFewer 88 = .ok (.iload 6, 2) := by decide +kernel
theorem dX8_costOfFewer_90 : decode cX8_costOfFewer 90 = .ok (.iload 5, 2) := by decide +kernel
theorem dX8_costOfFewer_92 : decode cX8_costOfFewer 92 = .ok (.isub, 1) := by decide +kernel
theorem dX8_costOfFewer_93 : decode cX8_costOfFewer 93 = .ok (.ireturn, 1) := by decide +kernel
theorem dX8_count_0 : decode cX8_count 0 = .ok (.iload_n 1, 1) := by decide +kernel
theorem dX8_count_1 : decode cX8_count 1 = .ok (.tableswitch 120 0 8 #[51, 59, 67, 75, 83, 91, 99, 107, 115], 51) := by decide +kernel
theorem dX8_count_52 : decode cX8_count 52 = .ok (.aload_n 0, 1) := by decide +kernel
theorem dX8_count_53 : decode cX8_count 53 = .ok (.getfield 65, 3) := by decide +kernel
theorem dX8_count_56 : decode cX8_count 56 = .ok (.getfield 293, 3) := by decide +kernel
theorem dX8_count_59 : decode cX8_count 59 = .ok (.ireturn, 1) := by decide +kernel
theorem dX8_count_60 : decode cX8_count 60 = .ok (.aload_n 0, 1) := by decide +kernel
theorem dX8_count_61 : decode cX8_count 61 = .ok (.getfield 65, 3) := by decide +kernel
theorem dX8_count_64 : decode cX8_count 64 = .ok (.getfield 402, 3) := by decide +kernel
theorem dX8_count_67 : decode cX8_count 67 = .ok (.ireturn, 1) := by decide +kernel
theorem dX8_count_68 : decode cX8_count 68 = .ok (.aload_n 0, 1) := by decide +kernel
theorem dX8_count_69 : decode cX8_count 69 = .ok (.getfield 65, 3) := by decide +kernel
theorem dX8_count_72 : decode cX8_count 72 = .ok (.getfield 356, 3) := by decide +kernel
theorem dX8_count_75 : decode cX8_count 75 = .ok (.ireturn, 1) := by decide +kernel
theorem dX8_count_76 : decode cX8_count 76 = .ok (.aload_n 0, 1) := by decide +kernel
theorem dX8_count_77 : decode cX8_count 77 = .ok (.getfield 65, 3) := by decide +kernel
theorem dX8_count_80 : decode cX8_count 80 = .ok (.getfield 359, 3) := by decide +kernel
theorem dX8_count_83 : decode cX8_count 83 = .ok (.ireturn, 1) := by decide +kernel
theorem dX8_count_84 : decode cX8_count 84 = .ok (.aload_n 0, 1) := by decide +kernel
theorem dX8_count_85 : decode cX8_count 85 = .ok (.getfield 81, 3) := by decide +kernel
theorem dX8_count_88 : decode cX8_count 88 = .ok (.invokevirtual 405, 3) := by decide +kernel
theorem dX8_count_91 : decode cX8_count 91 = .ok (.ireturn, 1) := by decide +kernel
theorem dX8_count_92 : decode cX8_count 92 = .ok (.aload_n 0, 1) := by decide +kernel
theorem dX8_count_93 : decode cX8_count 93 = .ok (.getfield 81, 3) := by decide +kernel
theorem dX8_count_96 : decode cX8_count 96 = .ok (.invokevirtual 408, 3) := by decide +kernel
theorem dX8_count_99 : decode cX8_count 99 = .ok (.ireturn, 1) := by decide +kernel
theorem dX8_count_100 : decode cX8_count 100 = .ok (.aload_n 0, 1) := by decide +kernel
theorem dX8_count_101 : decode cX8_count 101 = .ok (.getfield 48, 3) := by decide +kernel
theorem dX8_count_104 : decode cX8_count 104 = .ok (.getfield 258, 3) := by decide +kernel
theorem dX8_count_107 : decode cX8_count 107 = .ok (.ireturn, 1) := by decide +kernel
theorem dX8_count_108 : decode cX8_count 108 = .ok (.aload_n 0, 1) := by decide +kernel
theorem dX8_count_109 : decode cX8_count 109 = .ok (.getfield 23, 3) := by decide +kernel
theorem dX8_count_112 : decode cX8_count 112 = .ok (.getfield 223, 3) := by decide +kernel
theorem dX8_count_115 : decode cX8_count 115 = .ok (.ireturn, 1) := by decide +kernel
theorem dX8_count_116 : decode cX8_count 116 = .ok (.aload_n 0, 1) := by decide +kernel
theorem dX8_count_117 : decode cX8_count 117 = .ok (.getfield 87, 3) := by decide +kernel
theorem dX8_count_120 : decode cX8_count 120 = .ok (.ireturn, 1) := by decide +kernel
theorem dX8_count_121 : decode cX8_count 121 = .ok (.iconst (-1), 1) := by decide +kernel
theorem dX8_count_122 : decode cX8_count 122 = .ok (.ireturn, 1) := by decide +kernel
theorem dX8_countTo_0 : decode cX8_countTo 0 = .ok (.iconst 0, 1) := by decide +kernel
theorem dX8_countTo_1 : decode cX8_countTo 1 = .ok (.istore 4, 2) := by decide +kernel
theorem dX8_countTo_3 : decode cX8_countTo 3 = .ok (.iconst 0, 1) := by decide +kernel
theorem dX8_countTo_4 : decode cX8_countTo 4 = .ok (.istore 5, 2) := by decide +kernel
theorem dX8_countTo_6 : decode cX8_countTo 6 = .ok (.iload 5, 2) := by decide +kernel
theorem dX8_countTo_8 : decode cX8_countTo 8 = .ok (.aload_n 0, 1) := by decide +kernel
theorem dX8_countTo_9 : decode cX8_countTo 9 = .ok (.getfield 65, 3) := by decide +kernel
theorem dX8_countTo_12 : decode cX8_countTo 12 = .ok (.getfield 293, 3) := by decide +kernel
theorem dX8_countTo_15 : decode cX8_countTo 15 = .ok (.if_icmp .ge 116, 3) := by decide +kernel
theorem dX8_countTo_18 : decode cX8_countTo 18 = .ok (.iload 5, 2) := by decide +kernel
theorem dX8_countTo_20 : decode cX8_countTo 20 = .ok (.iload_n 1, 1) := by decide +kernel
theorem dX8_countTo_21 : decode cX8_countTo 21 = .ok (.if_icmp .ne 6, 3) := by decide +kernel
theorem dX8_countTo_24 : decode cX8_countTo 24 = .ok (.goto 101, 3) := by decide +kernel
theorem dX8_countTo_27 : decode cX8_countTo 27 = .ok (.aload_n 0, 1) := by decide +kernel
theorem dX8_countTo_28 : decode cX8_countTo 28 = .ok (.getfield 37, 3) := by decide +kernel
theorem dX8_countTo_31 : decode cX8_countTo 31 = .ok (.aload_n 0, 1) := by decide +kernel
theorem dX8_countTo_32 : decode cX8_countTo 32 = .ok (.getfield 81, 3) := by decide +kernel
theorem dX8_countTo_35 : decode cX8_countTo 35 = .ok (.aload_n 0, 1) := by decide +kernel
theorem dX8_countTo_36 : decode cX8_countTo 36 = .ok (.getfield 30, 3) := by decide +kernel
theorem dX8_countTo_39 : decode cX8_countTo 39 = .ok (.iload 5, 2) := by decide +kernel
theorem dX8_countTo_41 : decode cX8_countTo 41 = .ok (.iload_n 1, 1) := by decide +kernel
theorem dX8_countTo_42 : decode cX8_countTo 42 = .ok (.iconst 4, 1) := by decide +kernel
theorem dX8_countTo_43 : decode cX8_countTo 43 = .ok (.invokevirtual 241, 3) := by decide +kernel
theorem dX8_countTo_46 : decode cX8_countTo 46 = .ok (.iconst 0, 1) := by decide +kernel
theorem dX8_countTo_47 : decode cX8_countTo 47 = .ok (.istore 6, 2) := by decide +kernel
theorem dX8_countTo_49 : decode cX8_countTo 49 = .ok (.iload 6, 2) := by decide +kernel
theorem dX8_countTo_51 : decode cX8_countTo 51 = .ok (.aload_n 0, 1) := by decide +kernel
theorem dX8_countTo_52 : decode cX8_countTo 52 = .ok (.getfield 37, 3) := by decide +kernel
theorem dX8_countTo_55 : decode cX8_countTo 55 = .ok (.getfield 245, 3) := by decide +kernel
theorem dX8_countTo_58 : decode cX8_countTo 58 = .ok (.if_icmp .ge 67, 3) := by decide +kernel
theorem dX8_countTo_61 : decode cX8_countTo 61 = .ok (.aload_n 0, 1) := by decide +kernel
theorem dX8_countTo_62 : decode cX8_countTo 62 = .ok (.getfield 37, 3) := by decide +kernel
theorem dX8_countTo_65 : decode cX8_countTo 65 = .ok (.iload 6, 2) := by decide +kernel
theorem dX8_countTo_67 : decode cX8_countTo 67 = .ok (.aload_n 0, 1) := by decide +kernel
theorem dX8_countTo_68 : decode cX8_countTo 68 = .ok (.getfield 30, 3) := by decide +kernel
theorem dX8_countTo_71 : decode cX8_countTo 71 = .ok (.aload_n 0, 1) := by decide +kernel
theorem dX8_countTo_72 : decode cX8_countTo 72 = .ok (.getfield 44, 3) := by decide +kernel
theorem dX8_countTo_75 : decode cX8_countTo 75 = .ok (.invokevirtual 265, 3) := by decide +kernel
theorem dX8_countTo_78 : decode cX8_countTo 78 = .ok (.iload_n 3, 1) := by decide +kernel
theorem dX8_countTo_79 : decode cX8_countTo 79 = .ok (.ifCond .ne 21, 3) := by decide +kernel
theorem dX8_countTo_82 : decode cX8_countTo 82 = .ok (.aload_n 0, 1) := by decide +kernel
theorem dX8_countTo_83 : decode cX8_countTo 83 = .ok (.getfield 44, 3) := by decide +kernel
theorem dX8_countTo_86 : decode cX8_countTo 86 = .ok (.aload_n 0, 1) := by decide +kernel
theorem dX8_countTo_87 : decode cX8_countTo 87 = .ok (.getfield 65, 3) := by decide +kernel
theorem dX8_countTo_90 : decode cX8_countTo 90 = .ok (.iload_n 2, 1) := by decide +kernel
theorem dX8_countTo_91 : decode cX8_countTo 91 = .ok (.invokevirtual 296, 3) := by decide +kernel
theorem dX8_countTo_94 : decode cX8_countTo 94 = .ok (.ifCond .eq 25, 3) := by decide +kernel
theorem dX8_countTo_97 : decode cX8_countTo 97 = .ok (.goto 19, 3) := by decide +kernel
theorem dX8_countTo_100 : decode cX8_countTo 100 = .ok (.aload_n 0, 1) := by decide +kernel
theorem dX8_countTo_101 : decode cX8_countTo 101 = .ok (.getfield 44, 3) := by decide +kernel
theorem dX8_countTo_104 : decode cX8_countTo 104 = .ok (.aload_n 0, 1) := by decide +kernel
theorem dX8_countTo_105 : decode cX8_countTo 105 = .ok (.getfield 81, 3) := by decide +kernel
theorem dX8_countTo_108 : decode cX8_countTo 108 = .ok (.iload_n 2, 1) := by decide +kernel
theorem dX8_countTo_109 : decode cX8_countTo 109 = .ok (.iload_n 3, 1) := by decide +kernel
theorem dX8_countTo_110 : decode cX8_countTo 110 = .ok (.invokevirtual 300, 3) := by decide +kernel
theorem dX8_countTo_113 : decode cX8_countTo 113 = .ok (.ifCond .eq 6, 3) := by decide +kernel
theorem dX8_countTo_116 : decode cX8_countTo 116 = .ok (.iinc 4 1, 3) := by decide +kernel
theorem dX8_countTo_119 : decode cX8_countTo 119 = .ok (.iinc 6 1, 3) := by decide +kernel
theorem dX8_countTo_122 : decode cX8_countTo 122 = .ok (.goto (-73), 3) := by decide +kernel
theorem dX8_countTo_125 : decode cX8_countTo 125 = .ok (.iinc 5 1, 3) := by decide +kernel
theorem dX8_countTo_128 : decode cX8_countTo 128 = .ok (.goto (-122), 3) := by decide +kernel
theorem dX8_countTo_131 : decode cX8_countTo 131 = .ok (.iload 4, 2) := by decide +kernel
theorem dX8_countTo_133 : decode cX8_countTo 133 = .ok (.ireturn, 1) := by decide +kernel
theorem dX8_delay_0 : decode cX8_delay 0 = .ok (.aload_n 0, 1) := by decide +kernel
theorem dX8_delay_1 : decode cX8_delay 1 = .ok (.iload_n 1, 1) := by decide +kernel
theorem dX8_delay_2 : decode cX8_delay 2 = .ok (.iload_n 2, 1) := by decide +kernel
theorem dX8_delay_3 : decode cX8_delay 3 = .ok (.invokevirtual 175, 3) := by decide +kernel
theorem dX8_delay_6 : decode cX8_delay 6 = .ok (.ifCond .eq 15, 3) := by decide +kernel
theorem dX8_delay_9 : decode cX8_delay 9 = .ok (.iload_n 3, 1) := by decide +kernel
theorem dX8_delay_10 : decode cX8_delay 10 = .ok (.bipush (-60), 2) := by decide +kernel
theorem dX8_delay_12 : decode cX8_delay 12 = .ok (.sipush 240, 3) := by decide +kernel
theorem dX8_delay_15 : decode cX8_delay 15 = .ok (.invokestatic 179, 3) := by decide +kernel
theorem dX8_delay_18 : decode cX8_delay 18 = .ok (.ifCond .ne 5, 3) := by decide +kernel
theorem dX8_delay_21 : decode cX8_delay 21 = .ok (.iconst (-1), 1) := by decide +kernel
theorem dX8_delay_22 : decode cX8_delay 22 = .ok (.ireturn, 1) := by decide +kernel
theorem dX8_delay_23 : decode cX8_delay 23 = .ok (.aload_n 0, 1) := by decide +kernel
theorem dX8_delay_24 : decode cX8_delay 24 = .ok (.getfield 65, 3) := by decide +kernel
theorem dX8_delay_27 : decode cX8_delay 27 = .ok (.getfield 183, 3) := by decide +kernel
theorem dX8_delay_30 : decode cX8_delay 30 = .ok (.iload_n 1, 1) := by decide +kernel
theorem dX8_delay_31 : decode cX8_delay 31 = .ok (.iaload, 1) := by decide +kernel
theorem dX8_delay_32 : decode cX8_delay 32 = .ok (.iload_n 2, 1) := by decide +kernel
theorem dX8_delay_33 : decode cX8_delay 33 = .ok (.iadd, 1) := by decide +kernel
theorem dX8_delay_34 : decode cX8_delay 34 = .ok (.istore 4, 2) := by decide +kernel
theorem dX8_delay_36 : decode cX8_delay 36 = .ok (.aload_n 0, 1) := by decide +kernel
theorem dX8_delay_37 : decode cX8_delay 37 = .ok (.getfield 65, 3) := by decide +kernel
theorem dX8_delay_40 : decode cX8_delay 40 = .ok (.getfield 183, 3) := by decide +kernel
theorem dX8_delay_43 : decode cX8_delay 43 = .ok (.iload_n 1, 1) := by decide +kernel
theorem dX8_delay_44 : decode cX8_delay 44 = .ok (.iconst 1, 1) := by decide +kernel
theorem dX8_delay_45 : decode cX8_delay 45 = .ok (.iadd, 1) := by decide +kernel
theorem dX8_delay_46 : decode cX8_delay 46 = .ok (.iaload, 1) := by decide +kernel
theorem dX8_delay_47 : decode cX8_delay 47 = .ok (.istore 5, 2) := by decide +kernel
theorem dX8_delay_49 : decode cX8_delay 49 = .ok (.aload_n 0, 1) := by decide +kernel
theorem dX8_delay_50 : decode cX8_delay 50 = .ok (.getfield 81, 3) := by decide +kernel
theorem dX8_delay_53 : decode cX8_delay 53 = .ok (.iload 4, 2) := by decide +kernel
theorem dX8_delay_55 : decode cX8_delay 55 = .ok (.iload_n 3, 1) := by decide +kernel
theorem dX8_delay_56 : decode cX8_delay 56 = .ok (.invokevirtual 186, 3) := by decide +kernel
theorem dX8_delay_59 : decode cX8_delay 59 = .ok (.ifCond .eq 6, 3) := by decide +kernel
theorem dX8_delay_62 : decode cX8_delay 62 = .ok (.bipush (-2), 2) := by decide +kernel
theorem dX8_delay_64 : decode cX8_delay 64 = .ok (.ireturn, 1) := by decide +kernel
theorem dX8_delay_65 : decode cX8_delay 65 = .ok (.iconst 0, 1) := by decide +kernel
theorem dX8_delay_66 : decode cX8_delay 66 = .ok (.istore 6, 2) := by decide +kernel
theorem dX8_delay_68 : decode cX8_delay 68 = .ok (.iload 4, 2) := by decide +kernel
theorem dX8_delay_70 : decode cX8_delay 70 = .ok (.istore 7, 2) := by decide +kernel
theorem dX8_delay_72 : decode cX8_delay 72 = .ok (.iload 7, 2) := by decide +kernel
theorem dX8_delay_74 : decode cX8_delay 74 = .ok (.iload 5, 2) := by decide +kernel
theorem dX8_delay_76 : decode cX8_delay 76 = .ok (.if_icmp .ge 25, 3) := by decide +kernel
theorem dX8_delay_79 : decode cX8_delay 79 = .ok (.aload_n 0, 1) := by decide +kernel
theorem dX8_delay_80 : decode cX8_delay 80 = .ok (.getfield 81, 3) := by decide +kernel
theorem dX8_delay_83 : decode cX8_delay 83 = .ok (.iload 7, 2) := by decide +kernel
theorem dX8_delay_85 : decode cX8_delay 85 = .ok (.invokevirtual 189, 3) := by decide +kernel
theorem dX8_delay_88 : decode cX8_delay 88 = .ok (.iload_n 3, 1) := by decide +kernel
theorem dX8_delay_89 : decode cX8_delay 89 = .ok (.if_icmp .eq 6, 3) := by decide +kernel
theorem dX8_delay_92 : decode cX8_delay 92 = .ok (.iinc 6 1, 3) := by decide +kernel
theorem dX8_delay_95 : decode cX8_delay 95 = .ok (.iinc 7 1, 3) := by decide +kernel
theorem dX8_delay_98 : decode cX8_delay 98 = .ok (.goto (-26), 3) := by decide +kernel
theorem dX8_delay_101 : decode cX8_delay 101 = .ok (.iload 6, 2) := by decide +kernel
theorem dX8_delay_103 : decode cX8_delay 103 = .ok (.ifCond .le 45, 3) := by decide +kernel
theorem dX8_delay_106 : decode cX8_delay 106 = .ok (.aload_n 0, 1) := by decide +kernel
theorem dX8_delay_107 : decode cX8_delay 107 = .ok (.getfield 23, 3) := by decide +kernel
theorem dX8_delay_110 : decode cX8_delay 110 = .ok (.aload_n 0, 1) := by decide +kernel
theorem dX8_delay_111 : decode cX8_delay 111 = .ok (.getfield 81, 3) := by decide +kernel
theorem dX8_delay_114 : decode cX8_delay 114 = .ok (.invokevirtual 192, 3) := by decide +kernel
theorem dX8_delay_117 : decode cX8_delay 117 = .ok (.iload 4, 2) := by decide +kernel
theorem dX8_delay_119 : decode cX8_delay 119 = .ok (.istore 7, 2) := by decide +kernel
theorem dX8_delay_121 : decode cX8_delay 121 = .ok (.iload 7, 2) := by decide +kernel
theorem dX8_delay_123 : decode cX8_delay 123 = .ok (.iload 5, 2) := by decide +kernel
theorem dX8_delay_125 : decode cX8_delay 125 = .ok (.if_icmp .ge 19, 3) := by decide +kernel
theorem dX8_delay_128 : decode cX8_delay 128 = .ok (.aload_n 0, 1) := by decide +kernel
theorem dX8_delay_129 : decode cX8_delay 129 = .ok (.getfield 81, 3) := by decide +kernel
theorem dX8_delay_132 : decode cX8_delay 132 = .ok (.iload 7, 2) := by decide +kernel
theorem dX8_delay_134 : decode cX8_delay 134 = .ok (.iload_n 3, 1) := by decide +kernel
theorem dX8_delay_135 : decode cX8_delay 135 = .ok (.invokevirtual 196, 3) := by decide +kernel
theorem dX8_delay_138 : decode cX8_delay 138 = .ok (.iinc 7 1, 3) := by decide +kernel
theorem dX8_delay_141 : decode cX8_delay 141 = .ok (.goto (-20), 3) := by decide +kernel
theorem dX8_delay_144 : decode cX8_delay 144 = .ok (.aload_n 0, 1) := by decide +kernel
theorem dX8_delay_145 : decode cX8_delay 145 = .ok (.invokevirtual 200, 3) := by decide +kernel
theorem dX8_delay_148 : decode cX8_delay 148 = .ok (.iload 6, 2) := by decide +kernel
theorem dX8_delay_150 : decode cX8_delay 150 = .ok (.ireturn, 1) := by decide +kernel
theorem dX8_earliest_0 : decode cX8_earliest 0 = .ok (.aload_n 0, 1) := by decide +kernel
theorem dX8_earliest_1 : decode cX8_earliest 1 = .ok (.iload_n 1, 1) := by decide +kernel
theorem dX8_earliest_2 : decode cX8_earliest 2 = .ok (.invokevirtual 161, 3) := by decide +kernel
theorem dX8_earliest_5 : decode cX8_earliest 5 = .ok (.ifCond .eq 28, 3) := by decide +kernel
theorem dX8_earliest_8 : decode cX8_earliest 8 = .ok (.aload_n 0, 1) := by decide +kernel
theorem dX8_earliest_9 : decode cX8_earliest 9 = .ok (.iload_n 2, 1) := by decide +kernel
theorem dX8_earliest_10 : decode cX8_earliest 10 = .ok (.invokevirtual 161, 3) := by decide +kernel
theorem dX8_earliest_13 : decode cX8_earliest 13 = .ok (.ifCond .eq 20, 3) := by decide +kernel
theorem dX8_earliest_16 : decode cX8_earliest 16 = .ok (.iload_n 3, 1) := by decide +kernel
theorem dX8_earliest_17 : decode cX8_earliest 17 = .ok (.invokestatic 307, 3) := by decide +kernel
theorem dX8_earliest_20 : decode cX8_earliest 20 = .ok (.ifCond .eq 13, 3) := by decide +kernel
theorem dX8_earliest_23 : decode cX8_earliest 23 = .ok (.iload 4, 2) := by decide +kernel
theorem dX8_earliest_25 : decode cX8_earliest 25 = .ok (.iconst 0, 1) := by decide +kernel
theorem dX8_earliest_26 : decode cX8_earliest 26 = .ok (.iconst 4, 1) := by decide +kernel
theorem dX8_earliest_27 : decode cX8_earliest 27 = .ok (.invokestatic 179, 3) := by decide +kernel
theorem dX8_earliest_30 : decode cX8_earliest 30 = .ok (.ifCond .ne 5, 3) := by decide +kernel
theorem dX8_earliest_33 : decode cX8_earliest 33 = .ok (.iconst (-1), 1) := by decide +kernel
theorem dX8_earliest_34 : decode cX8_earliest 34 = .ok (.ireturn, 1) := by decide +kernel
theorem dX8_earliest_35 : decode cX8_earliest 35 = .ok (.aload_n 0, 1) := by decide +kernel
theorem dX8_earliest_36 : decode cX8_earliest 36 = .ok (.getfield 81, 3) := by decide +kernel
theorem dX8_earliest_39 : decode cX8_earliest 39 = .ok (.iload_n 1, 1) := by decide +kernel
theorem dX8_earliest_40 : decode cX8_earliest 40 = .ok (.iload_n 2, 1) := by decide +kernel
theorem dX8_earliest_41 : decode cX8_earliest 41 = .ok (.iload_n 3, 1) := by decide +kernel
theorem dX8_earliest_42 : decode cX8_earliest 42 = .ok (.iload 4, 2) := by decide +kernel
theorem dX8_earliest_44 : decode cX8_earliest 44 = .ok (.lconst 0, 1) := by decide +kernel
theorem dX8_earliest_45 : decode cX8_earliest 45 = .ok (.invokevirtual 310, 3) := by decide +kernel
theorem dX8_earliest_48 : decode cX8_earliest 48 = .ok (.invokestatic 168, 3) := by decide +kernel
theorem dX8_earliest_51 : decode cX8_earliest 51 = .ok (.ireturn, 1) := by decide +kernel
theorem dX8_fault_0 : decode cX8_fault 0 = .ok (.iload_n 1, 1) := by decide +kernel
theorem dX8_fault_1 : decode cX8_fault 1 = .ok (.ifCond .ne 11, 3) := by decide +kernel
theorem dX8_fault_4 : decode cX8_fault 4 = .ok (.aload_n 0, 1) := by decide +kernel
theorem dX8_fault_5 : decode cX8_fault 5 = .ok (.getfield 16, 3) := by decide +kernel
theorem dX8_fault_8 : decode cX8_fault 8 = .ok (.getfield 112, 3) := by decide +kernel
theorem dX8_fault_11 : decode cX8_fault 11 = .ok (.ireturn, 1) := by decide +kernel
theorem dX8_fault_12 : decode cX8_fault 12 = .ok (.iload_n 1, 1) := by decide +kernel
theorem dX8_fault_13 : decode cX8_fault 13 = .ok (.iconst 1, 1) := by decide +kernel
theorem dX8_fault_14 : decode cX8_fault 14 = .ok (.if_icmp .ne 13, 3) := by decide +kernel
theorem dX8_fault_17 : decode cX8_fault 17 = .ok (.aload_n 0, 1) := by decide +kernel
theorem dX8_fault_18 : decode cX8_fault 18 = .ok (.getfield 16, 3) := by decide +kernel
theorem dX8_fault_21 : decode cX8_fault 21 = .ok (.getfield 115, 3) := by decide +kernel
theorem dX8_fault_24 : decode cX8_fault 24 = .ok (.goto 4, 3) := by decide +kernel
theorem dX8_fault_27 : decode cX8_fault 27 = .ok (.iconst (-1), 1) := by decide +kernel
theorem dX8_fault_28 : decode cX8_fault 28 = .ok (.ireturn, 1) := by decide +kernel
theorem dX8_feed_0 : decode cX8_feed 0 = .ok (.aload_n 0, 1) := by decide +kernel
theorem dX8_feed_1 : decode cX8_feed 1 = .ok (.getfield 87, 3) := by decide +kernel
theorem dX8_feed_4 : decode cX8_feed 4 = .ok (.bipush 20, 2) := by decide +kernel
theorem dX8_feed_6 : decode cX8_feed 6 = .ok (.iadd, 1) := by decide +kernel
theorem dX8_feed_7 : decode cX8_feed 7 = .ok (.sipush 900, 3) := by decide +kernel
theorem dX8_feed_10 : decode cX8_feed 10 = .ok (.if_icmp .le 5, 3) := by decide +kernel
theorem dX8_feed_13 : decode cX8_feed 13 = .ok (.iconst (-1), 1) := by decide +kernel
theorem dX8_feed_14 : decode cX8_feed 14 = .ok (.ireturn, 1) := by decide +kernel
theorem dX8_feed_15 : decode cX8_feed 15 = .ok (.aload_n 0, 1) := by decide +kernel
theorem dX8_feed_16 : decode cX8_feed 16 = .ok (.iload_n 1, 1) := by decide +kernel
theorem dX8_feed_17 : decode cX8_feed 17 = .ok (.invokevirtual 91, 3) := by decide +kernel
theorem dX8_feed_20 : decode cX8_feed 20 = .ok (.aload_n 0, 1) := by decide +kernel
theorem dX8_feed_21 : decode cX8_feed 21 = .ok (.iload_n 2, 1) := by decide +kernel
theorem dX8_feed_22 : decode cX8_feed 22 = .ok (.invokevirtual 91, 3) := by decide +kernel
theorem dX8_feed_25 : decode cX8_feed 25 = .ok (.aload_n 0, 1) := by decide +kernel
theorem dX8_feed_26 : decode cX8_feed 26 = .ok (.iload_n 3, 1) := by decide +kernel
theorem dX8_feed_27 : decode cX8_feed 27 = .ok (.invokevirtual 91, 3) := by decide +kernel
theorem dX8_feed_30 : decode cX8_feed 30 = .ok (.aload_n 0, 1) := by decide +kernel
theorem dX8_feed_31 : decode cX8_feed 31 = .ok (.iload 4, 2) := by decide +kernel
theorem dX8_feed_33 : decode cX8_feed 33 = .ok (.invokevirtual 91, 3) := by decide +kernel
theorem dX8_feed_36 : decode cX8_feed 36 = .ok (.aload_n 0, 1) := by decide +kernel
theorem dX8_feed_37 : decode cX8_feed 37 = .ok (.iload 5, 2) := by decide +kernel
theorem dX8_feed_39 : decode cX8_feed 39 = .ok (.invokevirtual 91, 3) := by decide +kernel
theorem dX8_feed_42 : decode cX8_feed 42 = .ok (.aload_n 0, 1) := by decide +kernel
theorem dX8_feed_43 : decode cX8_feed 43 = .ok (.getfield 87, 3) := by decide +kernel
theorem dX8_feed_46 : decode cX8_feed 46 = .ok (.ireturn, 1) := by decide +kernel
theorem dX8_fewest_0 : decode cX8_fewest 0 = .ok (.aload_n 0, 1) := by decide +kernel
theorem dX8_fewest_1 : decode cX8_fewest 1 = .ok (.iload_n 1, 1) := by decide +kernel
theorem dX8_fewest_2 : decode cX8_fewest 2 = .ok (.iload_n 2, 1) := by decide +kernel
theorem dX8_fewest_3 : decode cX8_fewest 3 = .ok (.invokevirtual 238, 3) := by decide +kernel
theorem dX8_fewest_6 : decode cX8_fewest 6 = .ok (.ifCond .eq 22, 3) := by decide +kernel
theorem dX8_fewest_9 : decode cX8_fewest 9 = .ok (.iload_n 3, 1) := by decide +kernel
theorem dX8_fewest_10 : decode cX8_fewest 10 = .ok (.invokestatic 307, 3) := by decide +kernel
theorem dX8_fewest_13 : decode cX8_fewest 13 = .ok (.ifCond .eq 15, 3) := by decide +kernel
theorem dX8_fewest_16 : decode cX8_fewest 16 = .ok (.iload 4, 2) := by decide +kernel
theorem dX8_fewest_18 : decode cX8_fewest 18 = .ok (.iconst 0, 1) := by decide +kernel
theorem dX8_fewest_19 : decode cX8_fewest 19 = .ok (.sipush 2000, 3) := by decide +kernel
theorem dX8_fewest_22 : decode cX8_fewest 22 = .ok (.invokestatic 179, 3) := by decide +kernel
theorem dX8_fewest_25 : decode cX8_fewest 25 = .ok (.ifCond .ne 5, 3) := by decide +kernel
theorem dX8_fewest_28 : decode cX8_fewest 28 = .ok (.iconst (-1), 1) := by decide +kernel
theorem dX8_fewest_29 : decode cX8_fewest 29 = .ok (.ireturn, 1) := by decide +kernel
theorem dX8_fewest_30 : decode cX8_fewest 30 = .ok (.iconst 0, 1) := by decide +kernel
theorem dX8_fewest_31 : decode cX8_fewest 31 = .ok (.istore 5, 2) := by decide +kernel
theorem dX8_fewest_33 : decode cX8_fewest 33 = .ok (.iload 5, 2) := by decide +kernel
theorem dX8_fewest_35 : decode cX8_fewest 35 = .ok (.iconst 4, 1) := by decide +kernel
theorem dX8_fewest_36 : decode cX8_fewest 36 = .ok (.if_icmp .gt 30, 3) := by decide +kernel
theorem dX8_fewest_39 : decode cX8_fewest 39 = .ok (.aload_n 0, 1) := by decide +kernel
theorem dX8_fewest_40 : decode cX8_fewest 40 = .ok (.getfield 81, 3) := by decide +kernel
theorem dX8_fewest_43 : decode cX8_fewest 43 = .ok (.iload_n 1, 1) := by decide +kernel
theorem dX8_fewest_44 : decode cX8_fewest 44 = .ok (.iload_n 2, 1) := by decide +kernel
theorem dX8_fewest_45 : decode cX8_fewest 45 = .ok (.iload_n 3, 1) := by decide +kernel
theorem dX8_fewest_46 : decode cX8_fewest 46 = .ok (.iload 5, 2) := by decide +kernel
theorem dX8_fewest_48 : decode cX8_fewest 48 = .ok (.lconst 0, 1) := by decide +kernel
theorem dX8_fewest_49 : decode cX8_fewest 49 = .ok (.invokevirtual 310, 3) := by decide +kernel
theorem dX8_fewest_52 : decode cX8_fewest 52 = .ok (.iload 4, 2) := by decide +kernel
theorem dX8_fewest_54 : decode cX8_fewest 54 = .ok (.if_icmp .gt 6, 3) := by decide +kernel
theorem dX8_fewest_57 : decode cX8_fewest 57 = .ok (.iload 5, 2) := by decide +kernel
theorem dX8_fewest_59 : decode cX8_fewest 59 = .ok (.ireturn, 1) := by decide +kernel
theorem dX8_fewest_60 : decode cX8_fewest 60 = .ok (.iinc 5 1, 3) := by decide +kernel
theorem dX8_fewest_63 : decode cX8_fewest 63 = .ok (.goto (-30), 3) := by decide +kernel
theorem dX8_fewest_66 : decode cX8_fewest 66 = .ok (.bipush (-2), 2) := by decide +kernel
theorem dX8_fewest_68 : decode cX8_fewest 68 = .ok (.ireturn, 1) := by decide +kernel
theorem dX8_gap_0 : decode cX8_gap 0 = .ok (.aload_n 0, 1) := by decide +kernel
theorem dX8_gap_1 : decode cX8_gap 1 = .ok (.iload_n 1, 1) := by decide +kernel
theorem dX8_gap_2 : decode cX8_gap 2 = .ok (.iload_n 2, 1) := by decide +kernel
theorem dX8_gap_3 : decode cX8_gap 3 = .ok (.invokevirtual 238, 3) := by decide +kernel
theorem dX8_gap_6 : decode cX8_gap 6 = .ok (.ifCond .ne 5, 3) := by decide +kernel
theorem dX8_gap_9 : decode cX8_gap 9 = .ok (.iconst (-1), 1) := by decide +kernel
theorem dX8_gap_10 : decode cX8_gap 10 = .ok (.ireturn, 1) := by decide +kernel
theorem dX8_gap_11 : decode cX8_gap 11 = .ok (.aload_n 0, 1) := by decide +kernel
theorem dX8_gap_12 : decode cX8_gap 12 = .ok (.getfield 37, 3) := by decide +kernel
theorem dX8_gap_15 : decode cX8_gap 15 = .ok (.aload_n 0, 1) := by decide +kernel
theorem dX8_gap_16 : decode cX8_gap 16 = .ok (.getfield 81, 3) := by decide +kernel
theorem dX8_gap_19 : decode cX8_gap 19 = .ok (.aload_n 0, 1) := by decide +kernel
theorem dX8_gap_20 : decode cX8_gap 20 = .ok (.getfield 30, 3) := by decide +kernel
theorem dX8_gap_23 : decode cX8_gap 23 = .ok (.iload_n 1, 1) := by decide +kernel
theorem dX8_gap_24 : decode cX8_gap 24 = .ok (.iload_n 2, 1) := by decide +kernel
theorem dX8_gap_25 : decode cX8_gap 25 = .ok (.iconst 4, 1) := by decide +kernel
theorem dX8_gap_26 : decode cX8_gap 26 = .ok (.invokevirtual 241, 3) := by decide +kernel
theorem dX8_gap_29 : decode cX8_gap 29 = .ok (.iconst 0, 1) := by decide +kernel
theorem dX8_gap_30 : decode cX8_gap 30 = .ok (.istore_n 3, 1) := by decide +kernel
theorem dX8_gap_31 : decode cX8_gap 31 = .ok (.iconst 1, 1) := by decide +kernel
theorem dX8_gap_32 : decode cX8_gap 32 = .ok (.istore 4, 2) := by decide +kernel
theorem dX8_gap_34 : decode cX8_gap 34 = .ok (.iload 4, 2) := by decide +kernel
theorem dX8_gap_36 : decode cX8_gap 36 = .ok (.aload_n 0, 1) := by decide +kernel
theorem dX8_gap_37 : decode cX8_gap 37 = .ok (.getfield 37, 3) := by decide +kernel
theorem dX8_gap_40 : decode cX8_gap 40 = .ok (.getfield 245, 3) := by decide +kernel
theorem dX8_gap_43 : decode cX8_gap 43 = .ok (.if_icmp .ge 35, 3) := by decide +kernel
theorem dX8_gap_46 : decode cX8_gap 46 = .ok (.iload_n 3, 1) := by decide +kernel
theorem dX8_gap_47 : decode cX8_gap 47 = .ok (.aload_n 0, 1) := by decide +kernel
theorem dX8_gap_48 : decode cX8_gap 48 = .ok (.getfield 37, 3) := by decide +kernel
theorem dX8_gap_51 : decode cX8_gap 51 = .ok (.iload 4, 2) := by decide +kernel
theorem dX8_gap_53 : decode cX8_gap 53 = .ok (.invokevirtual 246, 3) := by decide +kernel
theorem dX8_gap_56 : decode cX8_gap 56 = .ok (.aload_n 0, 1) := by decide +kernel
theorem dX8_gap_57 : decode cX8_gap 57 = .ok (.getfield 37, 3) := by decide +kernel
theorem dX8_gap_60 : decode cX8_gap 60 = .ok (.iload 4, 2) := by decide +kernel
theorem dX8_gap_62 : decode cX8_gap 62 = .ok (.iconst 1, 1) := by decide +kernel
theorem dX8_gap_63 : decode cX8_gap 63 = .ok (.isub, 1) := by decide +kernel
theorem dX8_gap_64 : decode cX8_gap 64 = .ok (.invokevirtual 246, 3) := by decide +kernel
theorem dX8_gap_67 : decode cX8_gap 67 = .ok (.isub, 1) := by decide +kernel
theorem dX8_gap_68 : decode cX8_gap 68 = .ok (.invokestatic 283, 3) := by decide +kernel
theorem dX8_gap_71 : decode cX8_gap 71 = .ok (.istore_n 3, 1) := by decide +kernel
theorem dX8_gap_72 : decode cX8_gap 72 = .ok (.iinc 4 1, 3) := by decide +kernel
theorem dX8_gap_75 : decode cX8_gap 75 = .ok (.goto (-41), 3) := by decide +kernel
theorem dX8_gap_78 : decode cX8_gap 78 = .ok (.iload_n 3, 1) := by decide +kernel
theorem dX8_gap_79 : decode cX8_gap 79 = .ok (.ifCond .ne 8, 3) := by decide +kernel
theorem dX8_gap_82 : decode cX8_gap 82 = .ok (.bipush (-2), 2) := by decide +kernel
theorem dX8_gap_84 : decode cX8_gap 84 = .ok (.goto 4, 3) := by decide +kernel
theorem dX8_gap_87 : decode cX8_gap 87 = .ok (.iload_n 3, 1) := by decide +kernel
theorem dX8_gap_88 : decode cX8_gap 88 = .ok (.ireturn, 1) := by decide +kernel
theorem dX8_hub_0 : decode cX8_hub 0 = .ok (.iload_n 1, 1) := by decide +kernel
theorem dX8_hub_1 : decode cX8_hub 1 = .ok (.iconst 0, 1) := by decide +kernel
theorem dX8_hub_2 : decode cX8_hub 2 = .ok (.iconst 1, 1) := by decide +kernel
theorem dX8_hub_3 : decode cX8_hub 3 = .ok (.invokestatic 179, 3) := by decide +kernel
theorem dX8_hub_6 : decode cX8_hub 6 = .ok (.ifCond .ne 5, 3) := by decide +kernel
theorem dX8_hub_9 : decode cX8_hub 9 = .ok (.iconst (-1), 1) := by decide +kernel
theorem dX8_hub_10 : decode cX8_hub 10 = .ok (.ireturn, 1) := by decide +kernel
theorem dX8_hub_11 : decode cX8_hub 11 = .ok (.iconst 0, 1) := by decide +kernel
theorem dX8_hub_12 : decode cX8_hub 12 = .ok (.istore_n 2, 1) := by decide +kernel
theorem dX8_hub_13 : decode cX8_hub 13 = .ok (.iload_n 2, 1) := by decide +kernel
theorem dX8_hub_14 : decode cX8_hub 14 = .ok (.bipush 10, 2) := by decide +kernel
theorem dX8_hub_16 : decode cX8_hub 16 = .ok (.if_icmp .ge 16, 3) := by decide +kernel
theorem dX8_hub_19 : decode cX8_hub 19 = .ok (.aload_n 0, 1) := by decide +kernel
theorem dX8_hub_20 : decode cX8_hub 20 = .ok (.getfield 58, 3) := by decide +kernel
theorem dX8_hub_23 : decode cX8_hub 23 = .ok (.iload_n 2, 1) := by decide +kernel
theorem dX8_hub_24 : decode cX8_hub 24 = .ok (.iconst 0, 1) := by decide +kernel
theorem dX8_hub_25 : decode cX8_hub 25 = .ok (.iastore, 1) := by decide +kernel
theorem dX8_hub_26 : decode cX8_hub 26 = .ok (.iinc 2 1, 3) := by decide +kernel
theorem dX8_hub_29 : decode cX8_hub 29 = .ok (.goto (-16), 3) := by decide +kernel
theorem dX8_hub_32 : decode cX8_hub 32 = .ok (.iconst 0, 1) := by decide +kernel
theorem dX8_hub_33 : decode cX8_hub 33 = .ok (.istore_n 2, 1) := by decide +kernel
theorem dX8_hub_34 : decode cX8_hub 34 = .ok (.iload_n 2, 1) := by decide +kernel
theorem dX8_hub_35 : decode cX8_hub 35 = .ok (.aload_n 0, 1) := by decide +kernel
theorem dX8_hub_36 : decode cX8_hub 36 = .ok (.getfield 65, 3) := by decide +kernel
theorem dX8_hub_39 : decode cX8_hub 39 = .ok (.getfield 293, 3) := by decide +kernel
theorem dX8_hub_42 : decode cX8_hub 42 = .ok (.if_icmp .ge 39, 3) := by decide +kernel
theorem dX8_hub_45 : decode cX8_hub 45 = .ok (.iconst 0, 1) := by decide +kernel
theorem dX8_hub_46 : decode cX8_hub 46 = .ok (.istore_n 3, 1) := by decide +kernel
theorem dX8_hub_47 : decode cX8_hub 47 = .ok (.iload_n 3, 1) := by decide +kernel
theorem dX8_hub_48 : decode cX8_hub 48 = .ok (.aload_n 0, 1) := by decide +kernel
theorem dX8_hub_49 : decode cX8_hub 49 = .ok (.getfield 65, 3) := by decide +kernel
theorem dX8_hub_52 : decode cX8_hub 52 = .ok (.getfield 293, 3) := by decide +kernel
theorem dX8_hub_55 : decode cX8_hub 55 = .ok (.if_icmp .ge 20, 3) := by decide +kernel
theorem dX8_hub_58 : decode cX8_hub 58 = .ok (.iload_n 3, 1) := by decide +kernel
theorem dX8_hub_59 : decode cX8_hub 59 = .ok (.iload_n 2, 1) := by decide +kernel
theorem dX8_hub_60 : decode cX8_hub 60 = .ok (.if_icmp .eq 9, 3) := by decide +kernel
theorem dX8_hub_63 : decode cX8_hub 63 = .ok (.aload_n 0, 1) := by decide +kernel
theorem dX8_hub_64 : decode cX8_hub 64 = .ok (.iload_n 3, 1) := by decide +kernel
theorem dX8_hub_65 : decode cX8_hub 65 = .ok (.iload_n 2, 1) := by decide +kernel
theorem dX8_hub_66 : decode cX8_hub 66 = .ok (.invokevirtual 304, 3) := by decide +kernel
theorem dX8_hub_69 : decode cX8_hub 69 = .ok (.iinc 3 1, 3) := by decide +kernel
theorem dX8_hub_72 : decode cX8_hub 72 = .ok (.goto (-25), 3) := by decide +kernel
theorem dX8_hub_75 : decode cX8_hub 75 = .ok (.iinc 2 1, 3) := by decide +kernel
theorem dX8_hub_78 : decode cX8_hub 78 = .ok (.goto (-44), 3) := by decide +kernel
theorem dX8_hub_81 : decode cX8_hub 81 = .ok (.iconst 0, 1) := by decide +kernel
theorem dX8_hub_82 : decode cX8_hub 82 = .ok (.istore_n 2, 1) := by decide +kernel
theorem dX8_hub_83 : decode cX8_hub 83 = .ok (.iconst 1, 1) := by decide +kernel
theorem dX8_hub_84 : decode cX8_hub 84 = .ok (.istore_n 3, 1) := by decide +kernel
theorem dX8_hub_85 : decode cX8_hub 85 = .ok (.iload_n 3, 1) := by decide +kernel
theorem dX8_hub_86 : decode cX8_hub 86 = .ok (.aload_n 0, 1) := by decide +kernel
theorem dX8_hub_87 : decode cX8_hub 87 = .ok (.getfield 65, 3) := by decide +kernel
theorem dX8_hub_90 : decode cX8_hub 90 = .ok (.getfield 293, 3) := by decide +kernel
theorem dX8_hub_93 : decode cX8_hub 93 = .ok (.if_icmp .ge 26, 3) := by decide +kernel
theorem dX8_hub_96 : decode cX8_hub 96 = .ok (.aload_n 0, 1) := by decide +kernel
theorem dX8_hub_97 : decode cX8_hub 97 = .ok (.getfield 58, 3) := by decide +kernel
theorem dX8_hub_100 : decode cX8_hub 100 = .ok (.iload_n 3, 1) := by decide +kernel
theorem dX8_hub_101 : decode cX8_hub 101 = .ok (.iaload, 1) := by decide +kernel
theorem dX8_hub_102 : decode cX8_hub 102 = .ok (.aload_n 0, 1) := by decide +kernel
theorem dX8_hub_103 : decode cX8_hub 103 = .ok (.getfield 58, 3) := by decide +kernel
theorem dX8_hub_106 : decode cX8_hub 106 = .ok (.iload_n 2, 1) := by decide +kernel
theorem dX8_hub_107 : decode cX8_hub 107 = .ok (.iaload, 1) := by decide +kernel
theorem dX8_hub_108 : decode cX8_hub 108 = .ok (.if_icmp .le 5, 3) := by decide +kernel
theorem dX8_hub_111 : decode cX8_hub 111 = .ok (.iload_n 3, 1) := by decide +kernel
theorem dX8_hub_112 : decode cX8_hub 112 = .ok (.istore_n 2, 1) := by decide +kernel
theorem dX8_hub_113 : decode cX8_hub 113 = .ok (.iinc 3 1, 3) := by decide +kernel
theorem dX8_hub_116 : decode cX8_hub 116 = .ok (.goto (-31), 3) := by decide +kernel
theorem dX8_hub_119 : decode cX8_hub 119 = .ok (.aload_n 0, 1) := by decide +kernel
theorem dX8_hub_120 : decode cX8_hub 120 = .ok (.getfield 58, 3) := by decide +kernel
theorem dX8_hub_123 : decode cX8_hub 123 = .ok (.iload_n 2, 1) := by decide +kernel
theorem dX8_hub_124 : decode cX8_hub 124 = .ok (.iaload, 1) := by decide +kernel
theorem dX8_hub_125 : decode cX8_hub 125 = .ok (.ifCond .ne 6, 3) := by decide +kernel
theorem dX8_hub_128 : decode cX8_hub 128 = .ok (.bipush (-2), 2) := by decide +kernel
theorem dX8_hub_130 : decode cX8_hub 130 = .ok (.ireturn, 1) := by decide +kernel
theorem dX8_hub_131 : decode cX8_hub 131 = .ok (.iload_n 1, 1) := by decide +kernel
theorem dX8_hub_132 : decode cX8_hub 132 = .ok (.ifCond .ne 7, 3) := by decide +kernel
theorem dX8_hub_135 : decode cX8_hub 135 = .ok (.iload_n 2, 1) := by decide +kernel
theorem dX8_hub_136 : decode cX8_hub 136 = .ok (.goto 9, 3) := by decide +kernel
theorem dX8_hub_139 : decode cX8_hub 139 = .ok (.aload_n 0, 1) := by decide +kernel
theorem dX8_hub_140 : decode cX8_hub 140 = .ok (.getfield 58, 3) := by decide +kernel
theorem dX8_hub_143 : decode cX8_hub 143 = .ok (.iload_n 2, 1) := by decide +kernel
theorem dX8_hub_144 : decode cX8_hub 144 = .ok (.iaload, 1) := by decide +kernel
theorem dX8_hub_145 : decode cX8_hub 145 = .ok (.ireturn, 1) := by decide +kernel
theorem dX8_ifLate_0 : decode cX8_ifLate 0 = .ok (.aload_n 0, 1) := by decide +kernel
theorem dX8_ifLate_1 : decode cX8_ifLate 1 = .ok (.iload_n 1, 1) := by decide +kernel
theorem dX8_ifLate_2 : decode cX8_ifLate 2 = .ok (.invokevirtual 287, 3) := by decide +kernel
theorem dX8_ifLate_5 : decode cX8_ifLate 5 = .ok (.ifCond .eq 40, 3) := by decide +kernel
theorem dX8_ifLate_8 : decode cX8_ifLate 8 = .ok (.iload_n 2, 1) := by decide +kernel
theorem dX8_ifLate_9 : decode cX8_ifLate 9 = .ok (.bipush (-60), 2) := by decide +kernel
theorem dX8_ifLate_11 : decode cX8_ifLate 11 = .ok (.sipush 240, 3) := by decide +kernel
theorem dX8_ifLate_14 : decode cX8_ifLate 14 = .ok (.invokestatic 179, 3) := by decide +kernel
theorem dX8_ifLate_17 : decode cX8_ifLate 17 = .ok (.ifCond .eq 28, 3) := by decide +kernel
theorem dX8_ifLate_20 : decode cX8_ifLate 20 = .ok (.aload_n 0, 1) := by decide +kernel
theorem dX8_ifLate_21 : decode cX8_ifLate 21 = .ok (.iload_n 3, 1) := by decide +kernel
theorem dX8_ifLate_22 : decode cX8_ifLate 22 = .ok (.invokevirtual 161, 3) := by decide +kernel
theorem dX8_ifLate_25 : decode cX8_ifLate 25 = .ok (.ifCond .eq 20, 3) := by decide +kernel
theorem dX8_ifLate_28 : decode cX8_ifLate 28 = .ok (.aload_n 0, 1) := by decide +kernel
theorem dX8_ifLate_29 : decode cX8_ifLate 29 = .ok (.iload 4, 2) := by decide +kernel
theorem dX8_ifLate_31 : decode cX8_ifLate 31 = .ok (.invokevirtual 161, 3) := by decide +kernel
theorem dX8_ifLate_34 : decode cX8_ifLate 34 = .ok (.ifCond .eq 11, 3) := by decide +kernel
theorem dX8_ifLate_37 : decode cX8_ifLate 37 = .ok (.iload 5, 2) := by decide +kernel
theorem dX8_ifLate_39 : decode cX8_ifLate 39 = .ok (.invokestatic 307, 3) := by decide +kernel
theorem dX8_ifLate_42 : decode cX8_ifLate 42 = .ok (.ifCond .ne 5, 3) := by decide +kernel
theorem dX8_ifLate_45 : decode cX8_ifLate 45 = .ok (.iconst (-1), 1) := by decide +kernel
theorem dX8_ifLate_46 : decode cX8_ifLate 46 = .ok (.ireturn, 1) := by decide +kernel
theorem dX8_ifLate_47 : decode cX8_ifLate 47 = .ok (.aload_n 0, 1) := by decide +kernel
theorem dX8_ifLate_48 : decode cX8_ifLate 48 = .ok (.getfield 84, 3) := by decide +kernel
theorem dX8_ifLate_51 : decode cX8_ifLate 51 = .ok (.aload_n 0, 1) := by decide +kernel
theorem dX8_ifLate_52 : decode cX8_ifLate 52 = .ok (.getfield 81, 3) := by decide +kernel
theorem dX8_ifLate_55 : decode cX8_ifLate 55 = .ok (.invokevirtual 350, 3) := by decide +kernel
theorem dX8_ifLate_58 : decode cX8_ifLate 58 = .ok (.aload_n 0, 1) := by decide +kernel
theorem dX8_ifLate_59 : decode cX8_ifLate 59 = .ok (.getfield 84, 3) := by decide +kernel
theorem dX8_ifLate_62 : decode cX8_ifLate 62 = .ok (.iload_n 1, 1) := by decide +kernel
theorem dX8_ifLate_63 : decode cX8_ifLate 63 = .ok (.iload_n 2, 1) := by decide +kernel
theorem dX8_ifLate_64 : decode cX8_ifLate 64 = .ok (.invokevirtual 353, 3) := by decide +kernel
theorem dX8_ifLate_67 : decode cX8_ifLate 67 = .ok (.aload_n 0, 1) := by decide +kernel
theorem dX8_ifLate_68 : decode cX8_ifLate 68 = .ok (.getfield 84, 3) := by decide +kernel
theorem dX8_ifLate_71 : decode cX8_ifLate 71 = .ok (.iload_n 3, 1) := by decide +kernel
theorem dX8_ifLate_72 : decode cX8_ifLate 72 = .ok (.iload 4, 2) := by decide +kernel
theorem dX8_ifLate_74 : decode cX8_ifLate 74 = .ok (.iload 5, 2) := by decide +kernel
theorem dX8_ifLate_76 : decode cX8_ifLate 76 = .ok (.iconst 4, 1) := by decide +kernel
theorem dX8_ifLate_77 : decode cX8_ifLate 77 = .ok (.lconst 0, 1) := by decide +kernel
theorem dX8_ifLate_78 : decode cX8_ifLate 78 = .ok (.invokevirtual 310, 3) := by decide +kernel
theorem dX8_ifLate_81 : decode cX8_ifLate 81 = .ok (.invokestatic 168, 3) := by decide +kernel
theorem dX8_ifLate_84 : decode cX8_ifLate 84 = .ok (.ireturn, 1) := by decide +kernel
theorem dX8_init_0 : decode cX8_init 0 = .ok (.aload_n 0, 1) := by decide +kernel
theorem dX8_init_1 : decode cX8_init 1 = .ok (.invokespecial 1, 3) := by decide +kernel
theorem dX8_init_4 : decode cX8_init 4 = .ok (.aload_n 0, 1) := by decide +kernel
theorem dX8_init_5 : decode cX8_init 5 = .ok (.sipush 900, 3) := by decide +kernel
theorem dX8_init_8 : decode cX8_init 8 = .ok (.newarray .byte, 2) := by decide +kernel
theorem dX8_init_10 : decode cX8_init 10 = .ok (.putfield 9, 3) := by decide +kernel
theorem dX8_init_13 : decode cX8_init 13 = .ok (.aload_n 0, 1) := by decide +kernel
theorem dX8_init_14 : decode cX8_init 14 = .ok (.new 13, 3) := by decide +kernel
theorem dX8_init_17 : decode cX8_init 17 = .ok (.dup, 1) := by decide +kernel
theorem dX8_init_18 : decode cX8_init 18 = .ok (.invokespecial 15, 3) := by decide +kernel
theorem dX8_init_21 : decode cX8_init 21 = .ok (.putfield 16, 3) := by decide +kernel
theorem dX8_init_24 : decode cX8_init 24 = .ok (.aload_n 0, 1) := by decide +kernel
theorem dX8_init_25 : decode cX8_init 25 = .ok (.new 20, 3) := by decide +kernel
theorem dX8_init_28 : decode cX8_init 28 = .ok (.dup, 1) := by decide +kernel
theorem dX8_init_29 : decode cX8_init 29 = .ok (.invokespecial 22, 3) := by decide +kernel
theorem dX8_init_32 : decode cX8_init 32 = .ok (.putfield 23, 3) := by decide +kernel
theorem dX8_init_35 : decode cX8_init 35 = .ok (.aload_n 0, 1) := by decide +kernel
theorem dX8_init_36 : decode cX8_init 36 = .ok (.new 27, 3) := by decide +kernel
theorem dX8_init_39 : decode cX8_init 39 = .ok (.dup, 1) := by decide +kernel
theorem dX8_init_40 : decode cX8_init 40 = .ok (.invokespecial 29, 3) := by decide +kernel
theorem dX8_init_43 : decode cX8_init 43 = .ok (.putfield 30, 3) := by decide +kernel
theorem dX8_init_46 : decode cX8_init 46 = .ok (.aload_n 0, 1) := by decide +kernel
theorem dX8_init_47 : decode cX8_init 47 = .ok (.new 34, 3) := by decide +kernel
theorem dX8_init_50 : decode cX8_init 50 = .ok (.dup, 1) := by decide +kernel
theorem dX8_init_51 : decode cX8_init 51 = .ok (.invokespecial 36, 3) := by decide +kernel
theorem dX8_init_54 : decode cX8_init 54 = .ok (.putfield 37, 3) := by decide +kernel
theorem dX8_init_57 : decode cX8_init 57 = .ok (.aload_n 0, 1) := by decide +kernel
theorem dX8_init_58 : decode cX8_init 58 = .ok (.new 41, 3) := by decide +kernel
theorem dX8_init_61 : decode cX8_init 61 = .ok (.dup, 1) := by decide +kernel
theorem dX8_init_62 : decode cX8_init 62 = .ok (.invokespecial 43, 3) := by decide +kernel
theorem dX8_init_65 : decode cX8_init 65 = .ok (.putfield 44, 3) := by decide +kernel
theorem dX8_init_68 : decode cX8_init 68 = .ok (.aload_n 0, 1) := by decide +kernel
theorem dX8_init_69 : decode cX8_init 69 = .ok (.new 41, 3) := by decide +kernel
theorem dX8_init_72 : decode cX8_init 72 = .ok (.dup, 1) := by decide +kernel
theorem dX8_init_73 : decode cX8_init 73 = .ok (.invokespecial 43, 3) := by decide +kernel
theorem dX8_init_76 : decode cX8_init 76 = .ok (.putfield 48, 3) := by decide +kernel
theorem dX8_init_79 : decode cX8_init 79 = .ok (.aload_n 0, 1) := by decide +kernel
theorem dX8_init_80 : decode cX8_init 80 = .ok (.new 51, 3) := by decide +kernel
theorem dX8_init_83 : decode cX8_init 83 = .ok (.dup, 1) := by decide +kernel
theorem dX8_init_84 : decode cX8_init 84 = .ok (.invokespecial 53, 3) := by decide +kernel
theorem dX8_init_87 : decode cX8_init 87 = .ok (.putfield 54, 3) := by decide +kernel
theorem dX8_init_90 : decode cX8_init 90 = .ok (.aload_n 0, 1) := by decide +kernel
theorem dX8_init_91 : decode cX8_init 91 = .ok (.bipush 10, 2) := by decide +kernel
theorem dX8_init_93 : decode cX8_init 93 = .ok (.newarray .int, 2) := by decide +kernel
theorem dX8_init_95 : decode cX8_init 95 = .ok (.putfield 58, 3) := by decide +kernel
theorem dX8_init_98 : decode cX8_init 98 = .ok (.new 62, 3) := by decide +kernel
theorem dX8_init_101 : decode cX8_init 101 = .ok (.dup, 1) := by decide +kernel
theorem dX8_init_102 : decode cX8_init 102 = .ok (.invokespecial 64, 3) := by decide +kernel
theorem dX8_init_105 : decode cX8_init 105 = .ok (.astore_n 1, 1) := by decide +kernel
theorem dX8_init_106 : decode cX8_init 106 = .ok (.aload_n 0, 1) := by decide +kernel
theorem dX8_init_107 : decode cX8_init 107 = .ok (.aload_n 1, 1) := by decide +kernel
theorem dX8_init_108 : decode cX8_init 108 = .ok (.putfield 65, 3) := by decide +kernel
theorem dX8_init_111 : decode cX8_init 111 = .ok (.aload_n 0, 1) := by decide +kernel
theorem dX8_init_112 : decode cX8_init 112 = .ok (.new 62, 3) := by decide +kernel
theorem dX8_init_115 : decode cX8_init 115 = .ok (.dup, 1) := by decide +kernel
theorem dX8_init_116 : decode cX8_init 116 = .ok (.invokespecial 64, 3) := by decide +kernel
theorem dX8_init_119 : decode cX8_init 119 = .ok (.putfield 69, 3) := by decide +kernel
theorem dX8_init_122 : decode cX8_init 122 = .ok (.aload_n 0, 1) := by decide +kernel
theorem dX8_init_123 : decode cX8_init 123 = .ok (.new 72, 3) := by decide +kernel
theorem dX8_init_126 : decode cX8_init 126 = .ok (.dup, 1) := by decide +kernel
theorem dX8_init_127 : decode cX8_init 127 = .ok (.aload_n 1, 1) := by decide +kernel
theorem dX8_init_128 : decode cX8_init 128 = .ok (.invokespecial 74, 3) := by decide +kernel
theorem dX8_init_131 : decode cX8_init 131 = .ok (.putfield 77, 3) := by decide +kernel
theorem dX8_init_134 : decode cX8_init 134 = .ok (.aload_n 0, 1) := by decide +kernel
theorem dX8_init_135 : decode cX8_init 135 = .ok (.new 72, 3) := by decide +kernel
theorem dX8_init_138 : decode cX8_init 138 = .ok (.dup, 1) := by decide +kernel
theorem dX8_init_139 : decode cX8_init 139 = .ok (.aload_n 1, 1) := by decide +kernel
theorem dX8_init_140 : decode cX8_init 140 = .ok (.invokespecial 74, 3) := by decide +kernel
theorem dX8_init_143 : decode cX8_init 143 = .ok (.putfield 81, 3) := by decide +kernel
theorem dX8_init_146 : decode cX8_init 146 = .ok (.aload_n 0, 1) := by decide +kernel
theorem dX8_init_147 : decode cX8_init 147 = .ok (.new 72, 3) := by decide +kernel
theorem dX8_init_150 : decode cX8_init 150 = .ok (.dup, 1) := by decide +kernel
theorem dX8_init_151 : decode cX8_init 151 = .ok (.aload_n 1, 1) := by decide +kernel
theorem dX8_init_152 : decode cX8_init 152 = .ok (.invokespecial 74, 3) := by decide +kernel
theorem dX8_init_155 : decode cX8_init 155 = .ok (.putfield 84, 3) := by decide +kernel
theorem dX8_init_158 : decode cX8_init 158 = .ok (.return_, 1) := by decide +kernel
theorem dX8_isMinute_0 : decode cX8_isMinute 0 = .ok (.iload_n 0, 1) := by decide +kernel
theorem dX8_isMinute_1 : decode cX8_isMinute 1 = .ok (.iconst 0, 1) := by decide +kernel
theorem dX8_isMinute_2 : decode cX8_isMinute 2 = .ok (.sipush 1439, 3) := by decide +kernel
theorem dX8_isMinute_5 : decode cX8_isMinute 5 = .ok (.invokestatic 179, 3) := by decide +kernel
theorem dX8_isMinute_8 : decode cX8_isMinute 8 = .ok (.ireturn, 1) := by decide +kernel
theorem dX8_isRide_0 : decode cX8_isRide 0 = .ok (.iload_n 1, 1) := by decide +kernel
theorem dX8_isRide_1 : decode cX8_isRide 1 = .ok (.ifCond .lt 18, 3) := by decide +kernel
theorem dX8_isRide_4 : decode cX8_isRide 4 = .ok (.iload_n 1, 1) := by decide +kernel
theorem dX8_isRide_5 : decode cX8_isRide 5 = .ok (.aload_n 0, 1) := by decide +kernel
theorem dX8_isRide_6 : decode cX8_isRide 6 = .ok (.getfield 65, 3) := by decide +kernel
theorem dX8_isRide_9 : decode cX8_isRide 9 = .ok (.getfield 359, 3) := by decide +kernel
theorem dX8_isRide_12 : decode cX8_isRide 12 = .ok (.if_icmp .ge 7, 3) := by decide +kernel
theorem dX8_isRide_15 : decode cX8_isRide 15 = .ok (.iconst 1, 1) := by decide +kernel
theorem dX8_isRide_16 : decode cX8_isRide 16 = .ok (.goto 4, 3) := by decide +kernel
theorem dX8_isRide_19 : decode cX8_isRide 19 = .ok (.iconst 0, 1) := by decide +kernel
theorem dX8_isRide_20 : decode cX8_isRide 20 = .ok (.ireturn, 1) := by decide +kernel
theorem dX8_isRideOf_0 : decode cX8_isRideOf 0 = .ok (.aload_n 0, 1) := by decide +kernel
theorem dX8_isRideOf_1 : decode cX8_isRideOf 1 = .ok (.iload_n 1, 1) := by decide +kernel
theorem dX8_isRideOf_2 : decode cX8_isRideOf 2 = .ok (.invokevirtual 287, 3) := by decide +kernel
theorem dX8_isRideOf_5 : decode cX8_isRideOf 5 = .ok (.ifCond .eq 36, 3) := by decide +kernel
theorem dX8_isRideOf_8 : decode cX8_isRideOf 8 = .ok (.iload_n 2, 1) := by decide +kernel
theorem dX8_isRideOf_9 : decode cX8_isRideOf 9 = .ok (.ifCond .lt 32, 3) := by decide +kernel
theorem dX8_isRideOf_12 : decode cX8_isRideOf 12 = .ok (.iload_n 2, 1) := by decide +kernel
theorem dX8_isRideOf_13 : decode cX8_isRideOf 13 = .ok (.aload_n 0, 1) := by decide +kernel
theorem dX8_isRideOf_14 : decode cX8_isRideOf 14 = .ok (.getfield 65, 3) := by decide +kernel
theorem dX8_isRideOf_17 : decode cX8_isRideOf 17 = .ok (.getfield 183, 3) := by decide +kernel
theorem dX8_isRideOf_20 : decode cX8_isRideOf 20 = .ok (.iload_n 1, 1) := by decide +kernel
theorem dX8_isRideOf_21 : decode cX8_isRideOf 21 = .ok (.iconst 1, 1) := by decide +kernel
theorem dX8_isRideOf_22 : decode cX8_isRideOf 22 = .ok (.iadd, 1) := by decide +kernel
theorem dX8_isRideOf_23 : decode cX8_isRideOf 23 = .ok (.iaload, 1) := by decide +kernel
theorem dX8_isRideOf_24 : decode cX8_isRideOf 24 = .ok (.aload_n 0, 1) := by decide +kernel
theorem dX8_isRideOf_25 : decode cX8_isRideOf 25 = .ok (.getfield 65, 3) := by decide +kernel
theorem dX8_isRideOf_28 : decode cX8_isRideOf 28 = .ok (.getfield 183, 3) := by decide +kernel
theorem dX8_isRideOf_31 : decode cX8_isRideOf 31 = .ok (.iload_n 1, 1) := by decide +kernel
theorem dX8_isRideOf_32 : decode cX8_isRideOf 32 = .ok (.iaload, 1) := by decide +kernel
theorem dX8_isRideOf_33 : decode cX8_isRideOf 33 = .ok (.isub, 1) := by decide +kernel
theorem dX8_isRideOf_34 : decode cX8_isRideOf 34 = .ok (.if_icmp .ge 7, 3) := by decide +kernel
theorem dX8_isRideOf_37 : decode cX8_isRideOf 37 = .ok (.iconst 1, 1) := by decide +kernel
theorem dX8_isRideOf_38 : decode cX8_isRideOf 38 = .ok (.goto 4, 3) := by decide +kernel
theorem dX8_isRideOf_41 : decode cX8_isRideOf 41 = .ok (.iconst 0, 1) := by decide +kernel
theorem dX8_isRideOf_42 : decode cX8_isRideOf 42 = .ok (.ireturn, 1) := by decide +kernel
theorem dX8_isStop_0 : decode cX8_isStop 0 = .ok (.iload_n 1, 1) := by decide +kernel
theorem dX8_isStop_1 : decode cX8_isStop 1 = .ok (.ifCond .lt 18, 3) := by decide +kernel
theorem dX8_isStop_4 : decode cX8_isStop 4 = .ok (.iload_n 1, 1) := by decide +kernel
theorem dX8_isStop_5 : decode cX8_isStop 5 = .ok (.aload_n 0, 1) := by decide +kernel
theorem dX8_isStop_6 : decode cX8_isStop 6 = .ok (.getfield 65, 3) := by decide +kernel
theorem dX8_isStop_9 : decode cX8_isStop 9 = .ok (.getfield 293, 3) := by decide +kernel
theorem dX8_isStop_12 : decode cX8_isStop 12 = .ok (.if_icmp .ge 7, 3) := by decide +kernel
theorem dX8_isStop_15 : decode cX8_isStop 15 = .ok (.iconst 1, 1) := by decide +kernel
theorem dX8_isStop_16 : decode cX8_isStop 16 = .ok (.goto 4, 3) := by decide +kernel
theorem dX8_isStop_19 : decode cX8_isStop 19 = .ok (.iconst 0, 1) := by decide +kernel
theorem dX8_isStop_20 : decode cX8_isStop 20 = .ok (.ireturn, 1) := by decide +kernel
theorem dX8_isTrip_0 : decode cX8_isTrip 0 = .ok (.iload_n 1, 1) := by decide +kernel
theorem dX8_isTrip_1 : decode cX8_isTrip 1 = .ok (.ifCond .lt 18, 3) := by decide +kernel
theorem dX8_isTrip_4 : decode cX8_isTrip 4 = .ok (.iload_n 1, 1) := by decide +kernel
theorem dX8_isTrip_5 : decode cX8_isTrip 5 = .ok (.aload_n 0, 1) := by decide +kernel
theorem dX8_isTrip_6 : decode cX8_isTrip 6 = .ok (.getfield 65, 3) := by decide +kernel
theorem dX8_isTrip_9 : decode cX8_isTrip 9 = .ok (.getfield 356, 3) := by decide +kernel
theorem dX8_isTrip_12 : decode cX8_isTrip 12 = .ok (.if_icmp .ge 7, 3) := by decide +kernel
theorem dX8_isTrip_15 : decode cX8_isTrip 15 = .ok (.iconst 1, 1) := by decide +kernel
theorem dX8_isTrip_16 : decode cX8_isTrip 16 = .ok (.goto 4, 3) := by decide +kernel
theorem dX8_isTrip_19 : decode cX8_isTrip 19 = .ok (.iconst 0, 1) := by decide +kernel
theorem dX8_isTrip_20 : decode cX8_isTrip 20 = .ok (.ireturn, 1) := by decide +kernel
theorem dX8_lastStart_0 : decode cX8_lastStart 0 = .ok (.aload_n 0, 1) := by decide +kernel
theorem dX8_lastStart_1 : decode cX8_lastStart 1 = .ok (.getfield 30, 3) := by decide +kernel
theorem dX8_lastStart_4 : decode cX8_lastStart 4 = .ok (.aload_n 0, 1) := by decide +kernel
theorem dX8_lastStart_5 : decode cX8_lastStart 5 = .ok (.getfield 81, 3) := by decide +kernel
theorem dX8_lastStart_8 : decode cX8_lastStart 8 = .ok (.iload_n 2, 1) := by decide +kernel
theorem dX8_lastStart_9 : decode cX8_lastStart 9 = .ok (.invokevirtual 317, 3) := by decide +kernel
theorem dX8_lastStart_12 : decode cX8_lastStart 12 = .ok (.aload_n 0, 1) := by decide +kernel
theorem dX8_lastStart_13 : decode cX8_lastStart 13 = .ok (.getfield 37, 3) := by decide +kernel
theorem dX8_lastStart_16 : decode cX8_lastStart 16 = .ok (.aload_n 0, 1) := by decide +kernel
theorem dX8_lastStart_17 : decode cX8_lastStart 17 = .ok (.getfield 81, 3) := by decide +kernel
theorem dX8_lastStart_20 : decode cX8_lastStart 20 = .ok (.iload_n 1, 1) := by decide +kernel
theorem dX8_lastStart_21 : decode cX8_lastStart 21 = .ok (.invokevirtual 321, 3) := by decide +kernel
theorem dX8_lastStart_24 : decode cX8_lastStart 24 = .ok (.aload_n 0, 1) := by decide +kernel
theorem dX8_lastStart_25 : decode cX8_lastStart 25 = .ok (.getfield 37, 3) := by decide +kernel
theorem dX8_lastStart_28 : decode cX8_lastStart 28 = .ok (.aload_n 0, 1) := by decide +kernel
theorem dX8_lastStart_29 : decode cX8_lastStart 29 = .ok (.getfield 30, 3) := by decide +kernel
theorem dX8_lastStart_32 : decode cX8_lastStart 32 = .ok (.getfield 324, 3) := by decide +kernel
theorem dX8_lastStart_35 : decode cX8_lastStart 35 = .ok (.iload_n 2, 1) := by decide +kernel
theorem dX8_lastStart_36 : decode cX8_lastStart 36 = .ok (.aaload, 1) := by decide +kernel
theorem dX8_lastStart_37 : decode cX8_lastStart 37 = .ok (.iload_n 3, 1) := by decide +kernel
theorem dX8_lastStart_38 : decode cX8_lastStart 38 = .ok (.invokevirtual 327, 3) := by decide +kernel
theorem dX8_lastStart_41 : decode cX8_lastStart 41 = .ok (.istore 4, 2) := by decide +kernel
theorem dX8_lastStart_43 : decode cX8_lastStart 43 = .ok (.iload_n 3, 1) := by decide +kernel
theorem dX8_lastStart_44 : decode cX8_lastStart 44 = .ok (.aload_n 0, 1) := by decide +kernel
theorem dX8_lastStart_45 : decode cX8_lastStart 45 = .ok (.getfield 65, 3) := by decide +kernel
theorem dX8_lastStart_48 : decode cX8_lastStart 48 = .ok (.getfield 164, 3) := by decide +kernel
theorem dX8_lastStart_51 : decode cX8_lastStart 51 = .ok (.iload_n 1, 1) := by decide +kernel
theorem dX8_lastStart_52 : decode cX8_lastStart 52 = .ok (.aaload, 1) := by decide +kernel
theorem dX8_lastStart_53 : decode cX8_lastStart 53 = .ok (.iload_n 2, 1) := by decide +kernel
theorem dX8_lastStart_54 : decode cX8_lastStart 54 = .ok (.iaload, 1) := by decide +kernel
theorem dX8_lastStart_55 : decode cX8_lastStart 55 = .ok (.isub, 1) := by decide +kernel
theorem dX8_lastStart_56 : decode cX8_lastStart 56 = .ok (.istore 5, 2) := by decide +kernel
theorem dX8_lastStart_58 : decode cX8_lastStart 58 = .ok (.iload 4, 2) := by decide +kernel
theorem dX8_lastStart_60 : decode cX8_lastStart 60 = .ok (.iload 5, 2) := by decide +kernel
theorem dX8_lastStart_62 : decode cX8_lastStart 62 = .ok (.invokestatic 283, 3) := by decide +kernel
theorem dX8_lastStart_65 : decode cX8_lastStart 65 = .ok (.istore 6, 2) := by decide +kernel
theorem dX8_lastStart_67 : decode cX8_lastStart 67 = .ok (.iload 6, 2) := by decide +kernel
theorem dX8_lastStart_69 : decode cX8_lastStart 69 = .ok (.ifCond .ge 8, 3) := by decide +kernel
theorem dX8_lastStart_72 : decode cX8_lastStart 72 = .ok (.bipush (-2), 2) := by decide +kernel
theorem dX8_lastStart_74 : decode cX8_lastStart 74 = .ok (.goto 5, 3) := by decide +kernel
theorem dX8_lastStart_77 : decode cX8_lastStart 77 = .ok (.iload 6, 2) := by decide +kernel
theorem dX8_lastStart_79 : decode cX8_lastStart 79 = .ok (.ireturn, 1) := by decide +kernel
theorem dX8_late_0 : decode cX8_late 0 = .ok (.aload_n 0, 1) := by decide +kernel
theorem dX8_late_1 : decode cX8_late 1 = .ok (.iload_n 1, 1) := by decide +kernel
theorem dX8_late_2 : decode cX8_late 2 = .ok (.invokevirtual 287, 3) := by decide +kernel
theorem dX8_late_5 : decode cX8_late 5 = .ok (.ifCond .eq 20, 3) := by decide +kernel
theorem dX8_late_8 : decode cX8_late 8 = .ok (.aload_n 0, 1) := by decide +kernel
theorem dX8_late_9 : decode cX8_late 9 = .ok (.iload_n 2, 1) := by decide +kernel
theorem dX8_late_10 : decode cX8_late 10 = .ok (.iload_n 3, 1) := by decide +kernel
theorem dX8_late_11 : decode cX8_late 11 = .ok (.invokevirtual 238, 3) := by decide +kernel
theorem dX8_late_14 : decode cX8_late 14 = .ok (.ifCond .eq 11, 3) := by decide +kernel
theorem dX8_late_17 : decode cX8_late 17 = .ok (.iload 4, 2) := by decide +kernel
theorem dX8_late_19 : decode cX8_late 19 = .ok (.invokestatic 307, 3) := by decide +kernel
theorem dX8_late_22 : decode cX8_late 22 = .ok (.ifCond .ne 5, 3) := by decide +kernel
theorem dX8_late_25 : decode cX8_late 25 = .ok (.iconst (-1), 1) := by decide +kernel
theorem dX8_late_26 : decode cX8_late 26 = .ok (.ireturn, 1) := by decide +kernel
theorem dX8_late_27 : decode cX8_late 27 = .ok (.aload_n 0, 1) := by decide +kernel
theorem dX8_late_28 : decode cX8_late 28 = .ok (.getfield 81, 3) := by decide +kernel
theorem dX8_late_31 : decode cX8_late 31 = .ok (.iload_n 2, 1) := by decide +kernel
theorem dX8_late_32 : decode cX8_late 32 = .ok (.iload_n 3, 1) := by decide +kernel
theorem dX8_late_33 : decode cX8_late 33 = .ok (.iload 4, 2) := by decide +kernel
theorem dX8_late_35 : decode cX8_late 35 = .ok (.iconst 4, 1) := by decide +kernel
theorem dX8_late_36 : decode cX8_late 36 = .ok (.lconst 0, 1) := by decide +kernel
theorem dX8_late_37 : decode cX8_late 37 = .ok (.invokevirtual 310, 3) := by decide +kernel
theorem dX8_late_40 : decode cX8_late 40 = .ok (.istore 5, 2) := by decide +kernel
theorem dX8_late_42 : decode cX8_late 42 = .ok (.iload 5, 2) := by decide +kernel
theorem dX8_late_44 : decode cX8_late 44 = .ok (.ldc_w 286, 3) := by decide +kernel
theorem dX8_late_47 : decode cX8_late 47 = .ok (.if_icmp .lt 6, 3) := by decide +kernel
theorem dX8_late_50 : decode cX8_late 50 = .ok (.bipush (-3), 2) := by decide +kernel
theorem dX8_late_52 : decode cX8_late 52 = .ok (.ireturn, 1) := by decide +kernel
theorem dX8_late_53 : decode cX8_late 53 = .ok (.aload_n 0, 1) := by decide +kernel
theorem dX8_late_54 : decode cX8_late 54 = .ok (.getfield 81, 3) := by decide +kernel
theorem dX8_late_57 : decode cX8_late 57 = .ok (.iload_n 2, 1) := by decide +kernel
theorem dX8_late_58 : decode cX8_late 58 = .ok (.iload_n 3, 1) := by decide +kernel
theorem dX8_late_59 : decode cX8_late 59 = .ok (.iload 4, 2) := by decide +kernel
theorem dX8_late_61 : decode cX8_late 61 = .ok (.iconst 4, 1) := by decide +kernel
theorem dX8_late_62 : decode cX8_late 62 = .ok (.aload_n 0, 1) := by decide +kernel
theorem dX8_late_63 : decode cX8_late 63 = .ok (.getfield 65, 3) := by decide +kernel
theorem dX8_late_66 : decode cX8_late 66 = .ok (.iload_n 1, 1) := by decide +kernel
theorem dX8_late_67 : decode cX8_late 67 = .ok (.invokevirtual 346, 3) := by decide +kernel
theorem dX8_late_70 : decode cX8_late 70 = .ok (.invokevirtual 310, 3) := by decide +kernel
theorem dX8_late_73 : decode cX8_late 73 = .ok (.iload 5, 2) := by decide +kernel
theorem dX8_late_75 : decode cX8_late 75 = .ok (.if_icmp .gt 6, 3) := by decide +kernel
theorem dX8_late_78 : decode cX8_late 78 = .ok (.bipush (-2), 2) := by decide +kernel
theorem dX8_late_80 : decode cX8_late 80 = .ok (.ireturn, 1) := by decide +kernel
theorem dX8_late_81 : decode cX8_late 81 = .ok (.aload_n 0, 1) := by decide +kernel
theorem dX8_late_82 : decode cX8_late 82 = .ok (.getfield 84, 3) := by decide +kernel
theorem dX8_late_85 : decode cX8_late 85 = .ok (.aload_n 0, 1) := by decide +kernel
theorem dX8_late_86 : decode cX8_late 86 = .ok (.getfield 81, 3) := by decide +kernel
theorem dX8_late_89 : decode cX8_late 89 = .ok (.invokevirtual 350, 3) := by decide +kernel
theorem dX8_late_92 : decode cX8_late 92 = .ok (.iconst 1, 1) := by decide +kernel
theorem dX8_late_93 : decode cX8_late 93 = .ok (.istore 6, 2) := by decide +kernel
theorem dX8_late_95 : decode cX8_late 95 = .ok (.iload 6, 2) := by decide +kernel
theorem dX8_late_97 : decode cX8_late 97 = .ok (.sipush 240, 3) := by decide +kernel
theorem dX8_late_100 : decode cX8_late 100 = .ok (.if_icmp .gt 39, 3) := by decide +kernel
theorem dX8_late_103 : decode cX8_late 103 = .ok (.aload_n 0, 1) := by decide +kernel
theorem dX8_late_104 : decode cX8_late 104 = .ok (.getfield 84, 3) := by decide +kernel
theorem dX8_late_107 : decode cX8_late 107 = .ok (.iload_n 1, 1) := by decide +kernel
theorem dX8_late_108 : decode cX8_late 108 = .ok (.iconst 1, 1) := by decide +kernel
theorem dX8_late_109 : decode cX8_late 109 = .ok (.invokevirtual 353, 3) := by decide +kernel
theorem dX8_late_112 : decode cX8_late 112 = .ok (.aload_n 0, 1) := by decide +kernel
theorem dX8_late_113 : decode cX8_late 113 = .ok (.getfield 84, 3) := by decide +kernel
theorem dX8_late_116 : decode cX8_late 116 = .ok (.iload_n 2, 1) := by decide +kernel
theorem dX8_late_117 : decode cX8_late 117 = .ok (.iload_n 3, 1) := by decide +kernel
theorem dX8_late_118 : decode cX8_late 118 = .ok (.iload 4, 2) := by decide +kernel
theorem dX8_late_120 : decode cX8_late 120 = .ok (.iconst 4, 1) := by decide +kernel
theorem dX8_late_121 : decode cX8_late 121 = .ok (.lconst 0, 1) := by decide +kernel
theorem dX8_late_122 : decode cX8_late 122 = .ok (.invokevirtual 310, 3) := by decide +kernel
theorem dX8_late_125 : decode cX8_late 125 = .ok (.iload 5, 2) := by decide +kernel
theorem dX8_late_127 : decode cX8_late 127 = .ok (.if_icmp .le 6, 3) := by decide +kernel
theorem dX8_late_130 : decode cX8_late 130 = .ok (.iload 6, 2) := by decide +kernel
theorem dX8_late_132 : decode cX8_late 132 = .ok (.ireturn, 1) := by decide +kernel
theorem dX8_late_133 : decode cX8_late 133 = .ok (.iinc 6 1, 3) := by decide +kernel
theorem dX8_late_136 : decode cX8_late 136 = .ok (.goto (-41), 3) := by decide +kernel
theorem dX8_late_139 : decode cX8_late 139 = .ok (.bipush (-2), 2) := by decide +kernel
theorem dX8_late_141 : decode cX8_late 141 = .ok (.ireturn, 1) := by decide +kernel
theorem dX8_latest_0 : decode cX8_latest 0 = .ok (.aload_n 0, 1) := by decide +kernel
theorem dX8_latest_1 : decode cX8_latest 1 = .ok (.iload_n 1, 1) := by decide +kernel
theorem dX8_latest_2 : decode cX8_latest 2 = .ok (.invokevirtual 161, 3) := by decide +kernel
theorem dX8_latest_5 : decode cX8_latest 5 = .ok (.ifCond .eq 22, 3) := by decide +kernel
theorem dX8_latest_8 : decode cX8_latest 8 = .ok (.aload_n 0, 1) := by decide +kernel
theorem dX8_latest_9 : decode cX8_latest 9 = .ok (.iload_n 2, 1) := by decide +kernel
theorem dX8_latest_10 : decode cX8_latest 10 = .ok (.invokevirtual 161, 3) := by decide +kernel
theorem dX8_latest_13 : decode cX8_latest 13 = .ok (.ifCond .eq 14, 3) := by decide +kernel
theorem dX8_latest_16 : decode cX8_latest 16 = .ok (.iload_n 3, 1) := by decide +kernel
theorem dX8_latest_17 : decode cX8_latest 17 = .ok (.iconst 0, 1) := by decide +kernel
theorem dX8_latest_18 : decode cX8_latest 18 = .ok (.sipush 2000, 3) := by decide +kernel
theorem dX8_latest_21 : decode cX8_latest 21 = .ok (.invokestatic 179, 3) := by decide +kernel
theorem dX8_latest_24 : decode cX8_latest 24 = .ok (.ifCond .ne 5, 3) := by decide +kernel
theorem dX8_latest_27 : decode cX8_latest 27 = .ok (.iconst (-1), 1) := by decide +kernel
theorem dX8_latest_28 : decode cX8_latest 28 = .ok (.ireturn, 1) := by decide +kernel
theorem dX8_latest_29 : decode cX8_latest 29 = .ok (.aload_n 0, 1) := by decide +kernel
theorem dX8_latest_30 : decode cX8_latest 30 = .ok (.iload_n 1, 1) := by decide +kernel
theorem dX8_latest_31 : decode cX8_latest 31 = .ok (.iload_n 2, 1) := by decide +kernel
theorem dX8_latest_32 : decode cX8_latest 32 = .ok (.iload_n 3, 1) := by decide +kernel
theorem dX8_latest_33 : decode cX8_latest 33 = .ok (.invokevirtual 314, 3) := by decide +kernel
theorem dX8_latest_36 : decode cX8_latest 36 = .ok (.ireturn, 1) := by decide +kernel
theorem dX8_leastBehind_0 : decode cX8_leastBehind 0 = .ok (.bipush (-2), 2) := by decide +kernel
theorem dX8_leastBehind_2 : decode cX8_leastBehind 2 = .ok (.istore 6, 2) := by decide +kernel
theorem dX8_leastBehind_4 : decode cX8_leastBehind 4 = .ok (.iconst 0, 1) := by decide +kernel
theorem dX8_leastBehind_5 : decode cX8_leastBehind 5 = .ok (.istore 7, 2) := by decide +kernel
theorem dX8_leastBehind_7 : decode cX8_leastBehind 7 = .ok (.iload 7, 2) := by decide +kernel
theorem dX8_leastBehind_9 : decode cX8_leastBehind 9 = .ok (.aload_n 0, 1) := by decide +kernel
theorem dX8_leastBehind_10 : decode cX8_leastBehind 10 = .ok (.getfield 65, 3) := by decide +kernel
theorem dX8_leastBehind_13 : decode cX8_leastBehind 13 = .ok (.getfield 359, 3) := by decide +kernel
theorem dX8_leastBehind_16 : decode cX8_leastBehind 16 = .ok (.if_icmp .ge 89, 3) := by decide +kernel
theorem dX8_leastBehind_19 : decode cX8_leastBehind 19 = .ok (.aload_n 1, 1) := by decide +kernel
theorem dX8_leastBehind_20 : decode cX8_leastBehind 20 = .ok (.iload 7, 2) := by decide +kernel
theorem dX8_leastBehind_22 : decode cX8_leastBehind 22 = .ok (.iaload, 1) := by decide +kernel
theorem dX8_leastBehind_23 : decode cX8_leastBehind 23 = .ok (.iload_n 3, 1) := by decide +kernel
theorem dX8_leastBehind_24 : decode cX8_leastBehind 24 = .ok (.if_icmp .ne 75, 3) := by decide +kernel
theorem dX8_leastBehind_27 : decode cX8_leastBehind 27 = .ok (.aload_n 0, 1) := by decide +kernel
theorem dX8_leastBehind_28 : decode cX8_leastBehind 28 = .ok (.getfield 81, 3) := by decide +kernel
theorem dX8_leastBehind_31 : decode cX8_leastBehind 31 = .ok (.iload 7, 2) := by decide +kernel
theorem dX8_leastBehind_33 : decode cX8_leastBehind 33 = .ok (.invokevirtual 150, 3) := by decide +kernel
theorem dX8_leastBehind_36 : decode cX8_leastBehind 36 = .ok (.ifCond .eq 6, 3) := by decide +kernel
theorem dX8_leastBehind_39 : decode cX8_leastBehind 39 = .ok (.goto 60, 3) := by decide +kernel
theorem dX8_leastBehind_42 : decode cX8_leastBehind 42 = .ok (.aload_n 2, 1) := by decide +kernel
theorem dX8_leastBehind_43 : decode cX8_leastBehind 43 = .ok (.iload 7, 2) := by decide +kernel
theorem dX8_leastBehind_45 : decode cX8_leastBehind 45 = .ok (.iaload, 1) := by decide +kernel
theorem dX8_leastBehind_46 : decode cX8_leastBehind 46 = .ok (.iload 5, 2) := by decide +kernel
theorem dX8_leastBehind_48 : decode cX8_leastBehind 48 = .ok (.if_icmp .gt 19, 3) := by decide +kernel
theorem dX8_leastBehind_51 : decode cX8_leastBehind 51 = .ok (.aload_n 2, 1) := by decide +kernel
theorem dX8_leastBehind_52 : decode cX8_leastBehind 52 = .ok (.iload 7, 2) := by decide +kernel
theorem dX8_leastBehind_54 : decode cX8_leastBehind 54 = .ok (.iaload, 1) := by decide +kernel
theorem dX8_leastBehind_55 : decode cX8_leastBehind 55 = .ok (.iload 5, 2) := by decide +kernel
theorem dX8_leastBehind_57 : decode cX8_leastBehind 57 = .ok (.if_icmp .ne 14, 3) := by decide +kernel
theorem dX8_leastBehind_60 : decode cX8_leastBehind 60 = .ok (.iload 7, 2) := by decide +kernel
theorem dX8_leastBehind_62 : decode cX8_leastBehind 62 = .ok (.iload 4, 2) := by decide +kernel
theorem dX8_leastBehind_64 : decode cX8_leastBehind 64 = .ok (.if_icmp .le 7, 3) := by decide +kernel
theorem dX8_leastBehind_67 : decode cX8_leastBehind 67 = .ok (.iconst 1, 1) := by decide +kernel
theorem dX8_leastBehind_68 : decode cX8_leastBehind 68 = .ok (.goto 4, 3) := by decide +kernel
theorem dX8_leastBehind_71 : decode cX8_leastBehind 71 = .ok (.iconst 0, 1) := by decide +kernel
theorem dX8_leastBehind_72 : decode cX8_leastBehind 72 = .ok (.istore 8, 2) := by decide +kernel
theorem dX8_leastBehind_74 : decode cX8_leastBehind 74 = .ok (.iload 8, 2) := by decide +kernel
theorem dX8_leastBehind_76 : decode cX8_leastBehind 76 = .ok (.ifCond .eq 23, 3) := by decide +kernel
theorem dX8_leastBehind_79 : decode cX8_leastBehind 79 = .ok (.iload 6, 2) := by decide +kernel
theorem dX8_leastBehind_81 : decode cX8_leastBehind 81 = .ok (.ifCond .lt 14, 3) := by decide +kernel
theorem dX8_leastBehind_84 : decode cX8_leastBehind 84 = .ok (.aload_n 2, 1) := by decide +kernel
theorem dX8_leastBehind_85 : decode cX8_leastBehind 85 = .ok (.iload 7, 2) := by decide +kernel
theorem dX8_leastBehind_87 : decode cX8_leastBehind 87 = .ok (.iaload, 1) := by decide +kernel
theorem dX8_leastBehind_88 : decode cX8_leastBehind 88 = .ok (.aload_n 2, 1) := by decide +kernel
theorem dX8_leastBehind_89 : decode cX8_leastBehind 89 = .ok (.iload 6, 2) := by decide +kernel
theorem dX8_leastBehind_91 : decode cX8_leastBehind 91 = .ok (.iaload, 1) := by decide +kernel
theorem dX8_leastBehind_92 : decode cX8_leastBehind 92 = .ok (.if_icmp .ge 7, 3) := by decide +kernel
theorem dX8_leastBehind_95 : decode cX8_leastBehind 95 = .ok (.iload 7, 2) := by decide +kernel
theorem dX8_leastBehind_97 : decode cX8_leastBehind 97 = .ok (.istore 6, 2) := by decide +kernel
theorem dX8_leastBehind_99 : decode cX8_leastBehind 99 = .ok (.iinc 7 1, 3) := by decide +kernel
theorem dX8_leastBehind_102 : decode cX8_leastBehind 102 = .ok (.goto (-95), 3) := by decide +kernel
theorem dX8_leastBehind_105 : decode cX8_leastBehind 105 = .ok (.iload 6, 2) := by decide +kernel
theorem dX8_leastBehind_107 : decode cX8_leastBehind 107 = .ok (.ireturn, 1) := by decide +kernel
theorem dX8_leg_0 : decode cX8_leg 0 = .ok (.aload_n 0, 1) := by decide +kernel
theorem dX8_leg_1 : decode cX8_leg 1 = .ok (.iload_n 1, 1) := by decide +kernel
theorem dX8_leg_2 : decode cX8_leg 2 = .ok (.iload_n 2, 1) := by decide +kernel
theorem dX8_leg_3 : decode cX8_leg 3 = .ok (.invokevirtual 238, 3) := by decide +kernel
theorem dX8_leg_6 : decode cX8_leg 6 = .ok (.ifCond .eq 22, 3) := by decide +kernel
theorem dX8_leg_9 : decode cX8_leg 9 = .ok (.iload_n 3, 1) := by decide +kernel
theorem dX8_leg_10 : decode cX8_leg 10 = .ok (.ifCond .lt 18, 3) := by decide +kernel
theorem dX8_leg_13 : decode cX8_leg 13 = .ok (.iload 4, 2) := by decide +kernel
theorem dX8_leg_15 : decode cX8_leg 15 = .ok (.ifCond .lt 13, 3) := by decide +kernel
theorem dX8_leg_18 : decode cX8_leg 18 = .ok (.iload 5, 2) := by decide +kernel
theorem dX8_leg_20 : decode cX8_leg 20 = .ok (.iconst 0, 1) := by decide +kernel
theorem dX8_leg_21 : decode cX8_leg 21 = .ok (.iconst 1, 1) := by decide +kernel
theorem dX8_leg_22 : decode cX8_leg 22 = .ok (.invokestatic 179, 3) := by decide +kernel
theorem dX8_leg_25 : decode cX8_leg 25 = .ok (.ifCond .ne 5, 3) := by decide +kernel
theorem dX8_leg_28 : decode cX8_leg 28 = .ok (.iconst (-1), 1) := by decide +kernel
theorem dX8_leg_29 : decode cX8_leg 29 = .ok (.ireturn, 1) := by decide +kernel
theorem dX8_leg_30 : decode cX8_leg 30 = .ok (.aload_n 0, 1) := by decide +kernel
theorem dX8_leg_31 : decode cX8_leg 31 = .ok (.iload_n 1, 1) := by decide +kernel
theorem dX8_leg_32 : decode cX8_leg 32 = .ok (.iload_n 2, 1) := by decide +kernel
theorem dX8_leg_33 : decode cX8_leg 33 = .ok (.iload_n 3, 1) := by decide +kernel
theorem dX8_leg_34 : decode cX8_leg 34 = .ok (.invokevirtual 255, 3) := by decide +kernel
theorem dX8_leg_37 : decode cX8_leg 37 = .ok (.ifCond .eq 15, 3) := by decide +kernel
theorem dX8_leg_40 : decode cX8_leg 40 = .ok (.iload 4, 2) := by decide +kernel
theorem dX8_leg_42 : decode cX8_leg 42 = .ok (.aload_n 0, 1) := by decide +kernel
theorem dX8_leg_43 : decode cX8_leg 43 = .ok (.getfield 44, 3) := by decide +kernel
theorem dX8_leg_46 : decode cX8_leg 46 = .ok (.getfield 258, 3) := by decide +kernel
theorem dX8_leg_49 : decode cX8_leg 49 = .ok (.if_icmp .lt 6, 3) := by decide +kernel
theorem dX8_leg_52 : decode cX8_leg 52 = .ok (.bipush (-2), 2) := by decide +kernel
theorem dX8_leg_54 : decode cX8_leg 54 = .ok (.ireturn, 1) := by decide +kernel
theorem dX8_leg_55 : decode cX8_leg 55 = .ok (.iload 5, 2) := by decide +kernel
theorem dX8_leg_57 : decode cX8_leg 57 = .ok (.ifCond .ne 16, 3) := by decide +kernel
theorem dX8_leg_60 : decode cX8_leg 60 = .ok (.aload_n 0, 1) := by decide +kernel
theorem dX8_leg_61 : decode cX8_leg 61 = .ok (.getfield 44, 3) := by decide +kernel
theorem dX8_leg_64 : decode cX8_leg 64 = .ok (.getfield 259, 3) := by decide +kernel
theorem dX8_leg_67 : decode cX8_leg 67 = .ok (.iload 4, 2) := by decide +kernel
theorem dX8_leg_69 : decode cX8_leg 69 = .ok (.iaload, 1) := by decide +kernel
theorem dX8_leg_70 : decode cX8_leg 70 = .ok (.goto 13, 3) := by decide +kernel
theorem dX8_leg_73 : decode cX8_leg 73 = .ok (.aload_n 0, 1) := by decide +kernel
theorem dX8_leg_74 : decode cX8_leg 74 = .ok (.getfield 44, 3) := by decide +kernel
theorem dX8_leg_77 : decode cX8_leg 77 = .ok (.getfield 262, 3) := by decide +kernel
theorem dX8_leg_80 : decode cX8_leg 80 = .ok (.iload 4, 2) := by decide +kernel
theorem dX8_leg_82 : decode cX8_leg 82 = .ok (.iaload, 1) := by decide +kernel
theorem dX8_leg_83 : decode cX8_leg 83 = .ok (.ireturn, 1) := by decide +kernel
theorem dX8_mean_0 : decode cX8_mean 0 = .ok (.aload_n 0, 1) := by decide +kernel
theorem dX8_mean_1 : decode cX8_mean 1 = .ok (.iload_n 1, 1) := by decide +kernel
theorem dX8_mean_2 : decode cX8_mean 2 = .ok (.iload_n 2, 1) := by decide +kernel
theorem dX8_mean_3 : decode cX8_mean 3 = .ok (.invokevirtual 238, 3) := by decide +kernel
theorem dX8_mean_6 : decode cX8_mean 6 = .ok (.ifCond .eq 21, 3) := by decide +kernel
theorem dX8_mean_9 : decode cX8_mean 9 = .ok (.iload_n 3, 1) := by decide +kernel
theorem dX8_mean_10 : decode cX8_mean 10 = .ok (.ifCond .lt 17, 3) := by decide +kernel
theorem dX8_mean_13 : decode cX8_mean 13 = .ok (.iload_n 3, 1) := by decide +kernel
theorem dX8_mean_14 : decode cX8_mean 14 = .ok (.iload 4, 2) := by decide +kernel
theorem dX8_mean_16 : decode cX8_mean 16 = .ok (.if_icmp .ge 11, 3) := by decide +kernel
theorem dX8_mean_19 : decode cX8_mean 19 = .ok (.iload 4, 2) := by decide +kernel
theorem dX8_mean_21 : decode cX8_mean 21 = .ok (.sipush 1440, 3) := by decide +kernel
theorem dX8_mean_24 : decode cX8_mean 24 = .ok (.if_icmp .le 5, 3) := by decide +kernel
theorem dX8_mean_27 : decode cX8_mean 27 = .ok (.iconst (-1), 1) := by decide +kernel
theorem dX8_mean_28 : decode cX8_mean 28 = .ok (.ireturn, 1) := by decide +kernel
theorem dX8_mean_29 : decode cX8_mean 29 = .ok (.aload_n 0, 1) := by decide +kernel
theorem dX8_mean_30 : decode cX8_mean 30 = .ok (.getfield 30, 3) := by decide +kernel
theorem dX8_mean_33 : decode cX8_mean 33 = .ok (.aload_n 0, 1) := by decide +kernel
theorem dX8_mean_34 : decode cX8_mean 34 = .ok (.getfield 81, 3) := by decide +kernel
theorem dX8_mean_37 : decode cX8_mean 37 = .ok (.iload_n 2, 1) := by decide +kernel
theorem dX8_mean_38 : decode cX8_mean 38 = .ok (.invokevirtual 317, 3) := by decide +kernel
theorem dX8_mean_41 : decode cX8_mean 41 = .ok (.aload_n 0, 1) := by decide +kernel
theorem dX8_mean_42 : decode cX8_mean 42 = .ok (.getfield 37, 3) := by decide +kernel
theorem dX8_mean_45 : decode cX8_mean 45 = .ok (.aload_n 0, 1) := by decide +kernel
theorem dX8_mean_46 : decode cX8_mean 46 = .ok (.getfield 81, 3) := by decide +kernel
theorem dX8_mean_49 : decode cX8_mean 49 = .ok (.iload_n 1, 1) := by decide +kernel
theorem dX8_mean_50 : decode cX8_mean 50 = .ok (.invokevirtual 321, 3) := by decide +kernel
theorem dX8_mean_53 : decode cX8_mean 53 = .ok (.aload_n 0, 1) := by decide +kernel
theorem dX8_mean_54 : decode cX8_mean 54 = .ok (.getfield 37, 3) := by decide +kernel
theorem dX8_mean_57 : decode cX8_mean 57 = .ok (.aload_n 0, 1) := by decide +kernel
theorem dX8_mean_58 : decode cX8_mean 58 = .ok (.getfield 30, 3) := by decide +kernel
theorem dX8_mean_61 : decode cX8_mean 61 = .ok (.getfield 324, 3) := by decide +kernel
theorem dX8_mean_64 : decode cX8_mean 64 = .ok (.iload_n 2, 1) := by decide +kernel
theorem dX8_mean_65 : decode cX8_mean 65 = .ok (.aaload, 1) := by decide +kernel
theorem dX8_mean_66 : decode cX8_mean 66 = .ok (.aload_n 0, 1) := by decide +kernel
theorem dX8_mean_67 : decode cX8_mean 67 = .ok (.getfield 65, 3) := by decide +kernel
theorem dX8_mean_70 : decode cX8_mean 70 = .ok (.getfield 164, 3) := by decide +kernel
theorem dX8_mean_73 : decode cX8_mean 73 = .ok (.iload_n 1, 1) := by decide +kernel
theorem dX8_mean_74 : decode cX8_mean 74 = .ok (.aaload, 1) := by decide +kernel
theorem dX8_mean_75 : decode cX8_mean 75 = .ok (.iload_n 2, 1) := by decide +kernel
theorem dX8_mean_76 : decode cX8_mean 76 = .ok (.iaload, 1) := by decide +kernel
theorem dX8_mean_77 : decode cX8_mean 77 = .ok (.iload_n 3, 1) := by decide +kernel
theorem dX8_mean_78 : decode cX8_mean 78 = .ok (.iload 4, 2) := by decide +kernel
theorem dX8_mean_80 : decode cX8_mean 80 = .ok (.invokevirtual 339, 3) := by decide +kernel
theorem dX8_mean_83 : decode cX8_mean 83 = .ok (.ireturn, 1) := by decide +kernel
theorem dX8_meet_0 : decode cX8_meet 0 = .ok (.aload_n 0, 1) := by decide +kernel
theorem dX8_meet_1 : decode cX8_meet 1 = .ok (.iload_n 1, 1) := by decide +kernel
theorem dX8_meet_2 : decode cX8_meet 2 = .ok (.invokevirtual 161, 3) := by decide +kernel
theorem dX8_meet_5 : decode cX8_meet 5 = .ok (.ifCond .eq 28, 3) := by decide +kernel
theorem dX8_meet_8 : decode cX8_meet 8 = .ok (.aload_n 0, 1) := by decide +kernel
theorem dX8_meet_9 : decode cX8_meet 9 = .ok (.iload_n 2, 1) := by decide +kernel
theorem dX8_meet_10 : decode cX8_meet 10 = .ok (.invokevirtual 161, 3) := by decide +kernel
theorem dX8_meet_13 : decode cX8_meet 13 = .ok (.ifCond .eq 20, 3) := by decide +kernel
theorem dX8_meet_16 : decode cX8_meet 16 = .ok (.iload_n 3, 1) := by decide +kernel
theorem dX8_meet_17 : decode cX8_meet 17 = .ok (.invokestatic 307, 3) := by decide +kernel
theorem dX8_meet_20 : decode cX8_meet 20 = .ok (.ifCond .eq 13, 3) := by decide +kernel
theorem dX8_meet_23 : decode cX8_meet 23 = .ok (.iload 4, 2) := by decide +kernel
theorem dX8_meet_25 : decode cX8_meet 25 = .ok (.iconst 0, 1) := by decide +kernel
theorem dX8_meet_26 : decode cX8_meet 26 = .ok (.iconst 1, 1) := by decide +kernel
theorem dX8_meet_27 : decode cX8_meet 27 = .ok (.invokestatic 179, 3) := by decide +kernel
theorem dX8_meet_30 : decode cX8_meet 30 = .ok (.ifCond .ne 5, 3) := by decide +kernel
theorem dX8_meet_33 : decode cX8_meet 33 = .ok (.iconst (-1), 1) := by decide +kernel
theorem dX8_meet_34 : decode cX8_meet 34 = .ok (.ireturn, 1) := by decide +kernel
theorem dX8_meet_35 : decode cX8_meet 35 = .ok (.aload_n 0, 1) := by decide +kernel
theorem dX8_meet_36 : decode cX8_meet 36 = .ok (.getfield 81, 3) := by decide +kernel
theorem dX8_meet_39 : decode cX8_meet 39 = .ok (.iload_n 1, 1) := by decide +kernel
theorem dX8_meet_40 : decode cX8_meet 40 = .ok (.iload_n 3, 1) := by decide +kernel
theorem dX8_meet_41 : decode cX8_meet 41 = .ok (.iconst 4, 1) := by decide +kernel
theorem dX8_meet_42 : decode cX8_meet 42 = .ok (.lconst 0, 1) := by decide +kernel
theorem dX8_meet_43 : decode cX8_meet 43 = .ok (.invokevirtual 331, 3) := by decide +kernel
theorem dX8_meet_46 : decode cX8_meet 46 = .ok (.lstore 5, 2) := by decide +kernel
theorem dX8_meet_48 : decode cX8_meet 48 = .ok (.aload_n 0, 1) := by decide +kernel
theorem dX8_meet_49 : decode cX8_meet 49 = .ok (.getfield 81, 3) := by decide +kernel
theorem dX8_meet_52 : decode cX8_meet 52 = .ok (.iload_n 2, 1) := by decide +kernel
theorem dX8_meet_53 : decode cX8_meet 53 = .ok (.iload_n 3, 1) := by decide +kernel
theorem dX8_meet_54 : decode cX8_meet 54 = .ok (.iconst 4, 1) := by decide +kernel
theorem dX8_meet_55 : decode cX8_meet 55 = .ok (.lconst 0, 1) := by decide +kernel
theorem dX8_meet_56 : decode cX8_meet 56 = .ok (.invokevirtual 331, 3) := by decide +kernel
theorem dX8_meet_59 : decode cX8_meet 59 = .ok (.lstore 7, 2) := by decide +kernel
theorem dX8_meet_61 : decode cX8_meet 61 = .ok (.bipush (-2), 2) := by decide +kernel
theorem dX8_meet_63 : decode cX8_meet 63 = .ok (.istore 9, 2) := by decide +kernel
theorem dX8_meet_65 : decode cX8_meet 65 = .ok (.ldc_w 286, 3) := by decide +kernel
theorem dX8_meet_68 : decode cX8_meet 68 = .ok (.istore 10, 2) := by decide +kernel
theorem dX8_meet_70 : decode cX8_meet 70 = .ok (.iconst 0, 1) := by decide +kernel
theorem dX8_meet_71 : decode cX8_meet 71 = .ok (.istore 11, 2) := by decide +kernel
theorem dX8_meet_73 : decode cX8_meet 73 = .ok (.iload 11, 2) := by decide +kernel
theorem dX8_meet_75 : decode cX8_meet 75 = .ok (.aload_n 0, 1) := by decide +kernel
theorem dX8_meet_76 : decode cX8_meet 76 = .ok (.getfield 65, 3) := by decide +kernel
theorem dX8_meet_79 : decode cX8_meet 79 = .ok (.getfield 293, 3) := by decide +kernel
theorem dX8_meet_82 : decode cX8_meet 82 = .ok (.if_icmp .ge 55, 3) := by decide +kernel
theorem dX8_meet_85 : decode cX8_meet 85 = .ok (.aload_n 0, 1) := by decide +kernel
theorem dX8_meet_86 : decode cX8_meet 86 = .ok (.getfield 81, 3) := by decide +kernel
theorem dX8_meet_89 : decode cX8_meet 89 = .ok (.lload 5, 2) := by decide +kernel
theorem dX8_meet_91 : decode cX8_meet 91 = .ok (.iload_n 1, 1) := by decide +kernel
theorem dX8_meet_92 : decode cX8_meet 92 = .ok (.iload 11, 2) := by decide +kernel
theorem dX8_meet_94 : decode cX8_meet 94 = .ok (.iload_n 3, 1) := by decide +kernel
theorem dX8_meet_95 : decode cX8_meet 95 = .ok (.invokevirtual 335, 3) := by decide +kernel
theorem dX8_meet_98 : decode cX8_meet 98 = .ok (.aload_n 0, 1) := by decide +kernel
theorem dX8_meet_99 : decode cX8_meet 99 = .ok (.getfield 81, 3) := by decide +kernel
theorem dX8_meet_102 : decode cX8_meet 102 = .ok (.lload 7, 2) := by decide +kernel
theorem dX8_meet_104 : decode cX8_meet 104 = .ok (.iload_n 2, 1) := by decide +kernel
theorem dX8_meet_105 : decode cX8_meet 105 = .ok (.iload 11, 2) := by decide +kernel
theorem dX8_meet_107 : decode cX8_meet 107 = .ok (.iload_n 3, 1) := by decide +kernel
theorem dX8_meet_108 : decode cX8_meet 108 = .ok (.invokevirtual 335, 3) := by decide +kernel
theorem dX8_meet_111 : decode cX8_meet 111 = .ok (.invokestatic 283, 3) := by decide +kernel
theorem dX8_meet_114 : decode cX8_meet 114 = .ok (.istore 12, 2) := by decide +kernel
theorem dX8_meet_116 : decode cX8_meet 116 = .ok (.iload 12, 2) := by decide +kernel
theorem dX8_meet_118 : decode cX8_meet 118 = .ok (.iload 10, 2) := by decide +kernel
theorem dX8_meet_120 : decode cX8_meet 120 = .ok (.if_icmp .ge 11, 3) := by decide +kernel
theorem dX8_meet_123 : decode cX8_meet 123 = .ok (.iload 11, 2) := by decide +kernel
theorem dX8_meet_125 : decode cX8_meet 125 = .ok (.istore 9, 2) := by decide +kernel
theorem dX8_meet_127 : decode cX8_meet 127 = .ok (.iload 12, 2) := by decide +kernel
theorem dX8_meet_129 : decode cX8_meet 129 = .ok (.istore 10, 2) := by decide +kernel
theorem dX8_meet_131 : decode cX8_meet 131 = .ok (.iinc 11 1, 3) := by decide +kernel
theorem dX8_meet_134 : decode cX8_meet 134 = .ok (.goto (-61), 3) := by decide +kernel
theorem dX8_meet_137 : decode cX8_meet 137 = .ok (.iload 9, 2) := by decide +kernel
theorem dX8_meet_139 : decode cX8_meet 139 = .ok (.ifCond .ge 6, 3) := by decide +kernel
theorem dX8_meet_142 : decode cX8_meet 142 = .ok (.bipush (-2), 2) := by decide +kernel
theorem dX8_meet_144 : decode cX8_meet 144 = .ok (.ireturn, 1) := by decide +kernel
theorem dX8_meet_145 : decode cX8_meet 145 = .ok (.iload 4, 2) := by decide +kernel
theorem dX8_meet_147 : decode cX8_meet 147 = .ok (.ifCond .ne 8, 3) := by decide +kernel
theorem dX8_meet_150 : decode cX8_meet 150 = .ok (.iload 9, 2) := by decide +kernel
theorem dX8_meet_152 : decode cX8_meet 152 = .ok (.goto 5, 3) := by decide +kernel
theorem dX8_meet_155 : decode cX8_meet 155 = .ok (.iload 10, 2) := by decide +kernel
theorem dX8_meet_157 : decode cX8_meet 157 = .ok (.ireturn, 1) := by decide +kernel
theorem dX8_missed_0 : decode cX8_missed 0 = .ok (.aload_n 0, 1) := by decide +kernel
theorem dX8_missed_1 : decode cX8_missed 1 = .ok (.iload_n 1, 1) := by decide +kernel
theorem dX8_missed_2 : decode cX8_missed 2 = .ok (.iload_n 2, 1) := by decide +kernel
theorem dX8_missed_3 : decode cX8_missed 3 = .ok (.invokevirtual 238, 3) := by decide +kernel
theorem dX8_missed_6 : decode cX8_missed 6 = .ok (.ifCond .eq 20, 3) := by decide +kernel
theorem dX8_missed_9 : decode cX8_missed 9 = .ok (.iload_n 3, 1) := by decide +kernel
theorem dX8_missed_10 : decode cX8_missed 10 = .ok (.invokestatic 307, 3) := by decide +kernel
theorem dX8_missed_13 : decode cX8_missed 13 = .ok (.ifCond .eq 13, 3) := by decide +kernel
theorem dX8_missed_16 : decode cX8_missed 16 = .ok (.iload 4, 2) := by decide +kernel
theorem dX8_missed_18 : decode cX8_missed 18 = .ok (.iconst 0, 1) := by decide +kernel
theorem dX8_missed_19 : decode cX8_missed 19 = .ok (.iconst 1, 1) := by decide +kernel
theorem dX8_missed_20 : decode cX8_missed 20 = .ok (.invokestatic 179, 3) := by decide +kernel
theorem dX8_missed_23 : decode cX8_missed 23 = .ok (.ifCond .ne 5, 3) := by decide +kernel
theorem dX8_missed_26 : decode cX8_missed 26 = .ok (.iconst (-1), 1) := by decide +kernel
theorem dX8_missed_27 : decode cX8_missed 27 = .ok (.ireturn, 1) := by decide +kernel
theorem dX8_missed_28 : decode cX8_missed 28 = .ok (.aload_n 0, 1) := by decide +kernel
theorem dX8_missed_29 : decode cX8_missed 29 = .ok (.getfield 81, 3) := by decide +kernel
theorem dX8_missed_32 : decode cX8_missed 32 = .ok (.iload_n 1, 1) := by decide +kernel
theorem dX8_missed_33 : decode cX8_missed 33 = .ok (.iload_n 2, 1) := by decide +kernel
