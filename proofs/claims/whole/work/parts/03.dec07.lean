theorem dX9_wordHere_29 : decode cX9_wordHere 29 = .ok (.iload_n 2, 1) := by decide +kernel
theorem dX9_wordHere_30 : decode cX9_wordHere 30 = .ok (.aload_n 0, 1) := by decide +kernel
theorem dX9_wordHere_31 : decode cX9_wordHere 31 = .ok (.getfield 7, 3) := by decide +kernel
theorem dX9_wordHere_34 : decode cX9_wordHere 34 = .ok (.aload_n 0, 1) := by decide +kernel
theorem dX9_wordHere_35 : decode cX9_wordHere 35 = .ok (.getfield 101, 3) := by decide +kernel
theorem dX9_wordHere_38 : decode cX9_wordHere 38 = .ok (.iload_n 3, 1) := by decide +kernel
theorem dX9_wordHere_39 : decode cX9_wordHere 39 = .ok (.iadd, 1) := by decide +kernel
theorem dX9_wordHere_40 : decode cX9_wordHere 40 = .ok (.iaload, 1) := by decide +kernel
theorem dX9_wordHere_41 : decode cX9_wordHere 41 = .ok (.ldc 124, 2) := by decide +kernel
theorem dX9_wordHere_43 : decode cX9_wordHere 43 = .ok (.iconst 5, 1) := by decide +kernel
theorem dX9_wordHere_44 : decode cX9_wordHere 44 = .ok (.iload_n 1, 1) := by decide +kernel
theorem dX9_wordHere_45 : decode cX9_wordHere 45 = .ok (.imul, 1) := by decide +kernel
theorem dX9_wordHere_46 : decode cX9_wordHere 46 = .ok (.iload_n 3, 1) := by decide +kernel
theorem dX9_wordHere_47 : decode cX9_wordHere 47 = .ok (.iadd, 1) := by decide +kernel
theorem dX9_wordHere_48 : decode cX9_wordHere 48 = .ok (.invokevirtual 126, 3) := by decide +kernel
theorem dX9_wordHere_51 : decode cX9_wordHere 51 = .ok (.if_icmp .ne 7, 3) := by decide +kernel
theorem dX9_wordHere_54 : decode cX9_wordHere 54 = .ok (.iconst 1, 1) := by decide +kernel
theorem dX9_wordHere_55 : decode cX9_wordHere 55 = .ok (.goto 4, 3) := by decide +kernel
theorem dX9_wordHere_58 : decode cX9_wordHere 58 = .ok (.iconst 0, 1) := by decide +kernel
theorem dX9_wordHere_59 : decode cX9_wordHere 59 = .ok (.iand, 1) := by decide +kernel
theorem dX9_wordHere_60 : decode cX9_wordHere 60 = .ok (.istore_n 2, 1) := by decide +kernel
theorem dX9_wordHere_61 : decode cX9_wordHere 61 = .ok (.iinc 3 1, 3) := by decide +kernel
theorem dX9_wordHere_64 : decode cX9_wordHere 64 = .ok (.goto (-40), 3) := by decide +kernel
theorem dX9_wordHere_67 : decode cX9_wordHere 67 = .ok (.iload_n 2, 1) := by decide +kernel
theorem dX9_wordHere_68 : decode cX9_wordHere 68 = .ok (.ifCond .eq 5, 3) := by decide +kernel
theorem dX9_wordHere_71 : decode cX9_wordHere 71 = .ok (.iload_n 1, 1) := by decide +kernel
theorem dX9_wordHere_72 : decode cX9_wordHere 72 = .ok (.ireturn, 1) := by decide +kernel
theorem dX9_wordHere_73 : decode cX9_wordHere 73 = .ok (.iinc 1 1, 3) := by decide +kernel
theorem dX9_wordHere_76 : decode cX9_wordHere 76 = .ok (.goto (-74), 3) := by decide +kernel
theorem dX9_wordHere_79 : decode cX9_wordHere 79 = .ok (.iconst (-1), 1) := by decide +kernel
theorem dX9_wordHere_80 : decode cX9_wordHere 80 = .ok (.ireturn, 1) := by decide +kernel
theorem dX9_wouldBreak_0 : decode cX9_wouldBreak 0 = .ok (.iconst 1, 1) := by decide +kernel
theorem dX9_wouldBreak_1 : decode cX9_wouldBreak 1 = .ok (.istore 4, 2) := by decide +kernel
theorem dX9_wouldBreak_3 : decode cX9_wouldBreak 3 = .ok (.iload 4, 2) := by decide +kernel
theorem dX9_wouldBreak_5 : decode cX9_wouldBreak 5 = .ok (.iload_n 3, 1) := by decide +kernel
theorem dX9_wouldBreak_6 : decode cX9_wouldBreak 6 = .ok (.if_icmp .ge 95, 3) := by decide +kernel
theorem dX9_wouldBreak_9 : decode cX9_wouldBreak 9 = .ok (.aload_n 0, 1) := by decide +kernel
theorem dX9_wouldBreak_10 : decode cX9_wouldBreak 10 = .ok (.getfield 67, 3) := by decide +kernel
theorem dX9_wouldBreak_13 : decode cX9_wouldBreak 13 = .ok (.iload 4, 2) := by decide +kernel
theorem dX9_wouldBreak_15 : decode cX9_wouldBreak 15 = .ok (.iconst 1, 1) := by decide +kernel
theorem dX9_wouldBreak_16 : decode cX9_wouldBreak 16 = .ok (.isub, 1) := by decide +kernel
theorem dX9_wouldBreak_17 : decode cX9_wouldBreak 17 = .ok (.iaload, 1) := by decide +kernel
theorem dX9_wouldBreak_18 : decode cX9_wouldBreak 18 = .ok (.istore 5, 2) := by decide +kernel
theorem dX9_wouldBreak_20 : decode cX9_wouldBreak 20 = .ok (.aload_n 0, 1) := by decide +kernel
theorem dX9_wouldBreak_21 : decode cX9_wouldBreak 21 = .ok (.getfield 64, 3) := by decide +kernel
theorem dX9_wouldBreak_24 : decode cX9_wouldBreak 24 = .ok (.iload 4, 2) := by decide +kernel
theorem dX9_wouldBreak_26 : decode cX9_wouldBreak 26 = .ok (.iaload, 1) := by decide +kernel
theorem dX9_wouldBreak_27 : decode cX9_wouldBreak 27 = .ok (.istore 6, 2) := by decide +kernel
theorem dX9_wouldBreak_29 : decode cX9_wouldBreak 29 = .ok (.aload_n 0, 1) := by decide +kernel
theorem dX9_wouldBreak_30 : decode cX9_wouldBreak 30 = .ok (.getfield 39, 3) := by decide +kernel
theorem dX9_wouldBreak_33 : decode cX9_wouldBreak 33 = .ok (.iload 5, 2) := by decide +kernel
theorem dX9_wouldBreak_35 : decode cX9_wouldBreak 35 = .ok (.iaload, 1) := by decide +kernel
theorem dX9_wouldBreak_36 : decode cX9_wouldBreak 36 = .ok (.aload_n 0, 1) := by decide +kernel
theorem dX9_wouldBreak_37 : decode cX9_wouldBreak 37 = .ok (.iload 5, 2) := by decide +kernel
theorem dX9_wouldBreak_39 : decode cX9_wouldBreak 39 = .ok (.iconst 0, 1) := by decide +kernel
theorem dX9_wouldBreak_40 : decode cX9_wouldBreak 40 = .ok (.invokevirtual 201, 3) := by decide +kernel
theorem dX9_wouldBreak_43 : decode cX9_wouldBreak 43 = .ok (.iload_n 1, 1) := by decide +kernel
theorem dX9_wouldBreak_44 : decode cX9_wouldBreak 44 = .ok (.if_icmp .ne 7, 3) := by decide +kernel
theorem dX9_wouldBreak_47 : decode cX9_wouldBreak 47 = .ok (.iload_n 2, 1) := by decide +kernel
theorem dX9_wouldBreak_48 : decode cX9_wouldBreak 48 = .ok (.goto 4, 3) := by decide +kernel
theorem dX9_wouldBreak_51 : decode cX9_wouldBreak 51 = .ok (.iconst 0, 1) := by decide +kernel
theorem dX9_wouldBreak_52 : decode cX9_wouldBreak 52 = .ok (.iadd, 1) := by decide +kernel
theorem dX9_wouldBreak_53 : decode cX9_wouldBreak 53 = .ok (.aload_n 0, 1) := by decide +kernel
theorem dX9_wouldBreak_54 : decode cX9_wouldBreak 54 = .ok (.iload 5, 2) := by decide +kernel
theorem dX9_wouldBreak_56 : decode cX9_wouldBreak 56 = .ok (.iload 6, 2) := by decide +kernel
theorem dX9_wouldBreak_58 : decode cX9_wouldBreak 58 = .ok (.invokevirtual 246, 3) := by decide +kernel
theorem dX9_wouldBreak_61 : decode cX9_wouldBreak 61 = .ok (.iadd, 1) := by decide +kernel
theorem dX9_wouldBreak_62 : decode cX9_wouldBreak 62 = .ok (.istore 7, 2) := by decide +kernel
theorem dX9_wouldBreak_64 : decode cX9_wouldBreak 64 = .ok (.aload_n 0, 1) := by decide +kernel
theorem dX9_wouldBreak_65 : decode cX9_wouldBreak 65 = .ok (.getfield 36, 3) := by decide +kernel
theorem dX9_wouldBreak_68 : decode cX9_wouldBreak 68 = .ok (.iload 6, 2) := by decide +kernel
theorem dX9_wouldBreak_70 : decode cX9_wouldBreak 70 = .ok (.iaload, 1) := by decide +kernel
theorem dX9_wouldBreak_71 : decode cX9_wouldBreak 71 = .ok (.aload_n 0, 1) := by decide +kernel
theorem dX9_wouldBreak_72 : decode cX9_wouldBreak 72 = .ok (.iload 6, 2) := by decide +kernel
theorem dX9_wouldBreak_74 : decode cX9_wouldBreak 74 = .ok (.iconst 0, 1) := by decide +kernel
theorem dX9_wouldBreak_75 : decode cX9_wouldBreak 75 = .ok (.invokevirtual 201, 3) := by decide +kernel
theorem dX9_wouldBreak_78 : decode cX9_wouldBreak 78 = .ok (.iload_n 1, 1) := by decide +kernel
theorem dX9_wouldBreak_79 : decode cX9_wouldBreak 79 = .ok (.if_icmp .ne 7, 3) := by decide +kernel
theorem dX9_wouldBreak_82 : decode cX9_wouldBreak 82 = .ok (.iload_n 2, 1) := by decide +kernel
theorem dX9_wouldBreak_83 : decode cX9_wouldBreak 83 = .ok (.goto 4, 3) := by decide +kernel
theorem dX9_wouldBreak_86 : decode cX9_wouldBreak 86 = .ok (.iconst 0, 1) := by decide +kernel
theorem dX9_wouldBreak_87 : decode cX9_wouldBreak 87 = .ok (.iadd, 1) := by decide +kernel
theorem dX9_wouldBreak_88 : decode cX9_wouldBreak 88 = .ok (.iload 7, 2) := by decide +kernel
theorem dX9_wouldBreak_90 : decode cX9_wouldBreak 90 = .ok (.if_icmp .ge 5, 3) := by decide +kernel
theorem dX9_wouldBreak_93 : decode cX9_wouldBreak 93 = .ok (.iconst 1, 1) := by decide +kernel
theorem dX9_wouldBreak_94 : decode cX9_wouldBreak 94 = .ok (.ireturn, 1) := by decide +kernel
theorem dX9_wouldBreak_95 : decode cX9_wouldBreak 95 = .ok (.iinc 4 1, 3) := by decide +kernel
theorem dX9_wouldBreak_98 : decode cX9_wouldBreak 98 = .ok (.goto (-95), 3) := by decide +kernel
theorem dX9_wouldBreak_101 : decode cX9_wouldBreak 101 = .ok (.iconst 0, 1) := by decide +kernel
theorem dX9_wouldBreak_102 : decode cX9_wouldBreak 102 = .ok (.ireturn, 1) := by decide +kernel
theorem dX9_wrong_0 : decode cX9_wrong 0 = .ok (.aload_n 0, 1) := by decide +kernel
theorem dX9_wrong_1 : decode cX9_wrong 1 = .ok (.getfield 132, 3) := by decide +kernel
theorem dX9_wrong_4 : decode cX9_wrong 4 = .ok (.ifCond .eq 4, 3) := by decide +kernel
theorem dX9_wrong_7 : decode cX9_wrong 7 = .ok (.return_, 1) := by decide +kernel
theorem dX9_wrong_8 : decode cX9_wrong 8 = .ok (.aload_n 0, 1) := by decide +kernel
theorem dX9_wrong_9 : decode cX9_wrong 9 = .ok (.iload_n 1, 1) := by decide +kernel
theorem dX9_wrong_10 : decode cX9_wrong 10 = .ok (.putfield 132, 3) := by decide +kernel
theorem dX9_wrong_13 : decode cX9_wrong 13 = .ok (.aload_n 0, 1) := by decide +kernel
theorem dX9_wrong_14 : decode cX9_wrong 14 = .ok (.aload_n 0, 1) := by decide +kernel
theorem dX9_wrong_15 : decode cX9_wrong 15 = .ok (.getfield 101, 3) := by decide +kernel
theorem dX9_wrong_18 : decode cX9_wrong 18 = .ok (.putfield 135, 3) := by decide +kernel
theorem dX9_wrong_21 : decode cX9_wrong 21 = .ok (.return_, 1) := by decide +kernel
theorem dJ0_charAt_5068e_0 : decode cJ0_charAt_5068e 0 = .ok (.aload_n 0, 1) := by decide +kernel
theorem dJ0_charAt_5068e_1 : decode cJ0_charAt_5068e 1 = .ok (.invokevirtual 492, 3) := by decide +kernel
theorem dJ0_charAt_5068e_4 : decode cJ0_charAt_5068e 4 = .ok (.ifCond .eq 12, 3) := by decide +kernel
theorem dJ0_charAt_5068e_7 : decode cJ0_charAt_5068e 7 = .ok (.aload_n 0, 1) := by decide +kernel
theorem dJ0_charAt_5068e_8 : decode cJ0_charAt_5068e 8 = .ok (.getfield 9, 3) := by decide +kernel
theorem dJ0_charAt_5068e_11 : decode cJ0_charAt_5068e 11 = .ok (.iload_n 1, 1) := by decide +kernel
theorem dJ0_charAt_5068e_12 : decode cJ0_charAt_5068e 12 = .ok (.invokestatic 495, 3) := by decide +kernel
theorem dJ0_charAt_5068e_15 : decode cJ0_charAt_5068e 15 = .ok (.ireturn, 1) := by decide +kernel
theorem dJ0_charAt_5068e_16 : decode cJ0_charAt_5068e 16 = .ok (.aload_n 0, 1) := by decide +kernel
theorem dJ0_charAt_5068e_17 : decode cJ0_charAt_5068e 17 = .ok (.getfield 9, 3) := by decide +kernel
theorem dJ0_charAt_5068e_20 : decode cJ0_charAt_5068e 20 = .ok (.iload_n 1, 1) := by decide +kernel
theorem dJ0_charAt_5068e_21 : decode cJ0_charAt_5068e 21 = .ok (.invokestatic 498, 3) := by decide +kernel
theorem dJ0_charAt_5068e_24 : decode cJ0_charAt_5068e 24 = .ok (.ireturn, 1) := by decide +kernel
theorem dJ0_checkIndex_df160_0 : decode cJ0_checkIndex_df160 0 = .ok (.iload_n 0, 1) := by decide +kernel
theorem dJ0_checkIndex_df160_1 : decode cJ0_checkIndex_df160 1 = .ok (.iload_n 1, 1) := by decide +kernel
theorem dJ0_checkIndex_df160_2 : decode cJ0_checkIndex_df160 2 = .ok (.getstatic 1053, 3) := by decide +kernel
theorem dJ0_checkIndex_df160_5 : decode cJ0_checkIndex_df160 5 = .ok (.invokestatic 1059, 3) := by decide +kernel
theorem dJ0_checkIndex_df160_8 : decode cJ0_checkIndex_df160 8 = .ok (.pop, 1) := by decide +kernel
theorem dJ0_checkIndex_df160_9 : decode cJ0_checkIndex_df160 9 = .ok (.return_, 1) := by decide +kernel
theorem dJ0_isLatin1_aae02_0 : decode cJ0_isLatin1_aae02 0 = .ok (.getstatic 38, 3) := by decide +kernel
theorem dJ0_isLatin1_aae02_3 : decode cJ0_isLatin1_aae02 3 = .ok (.ifCond .eq 14, 3) := by decide +kernel
theorem dJ0_isLatin1_aae02_6 : decode cJ0_isLatin1_aae02 6 = .ok (.aload_n 0, 1) := by decide +kernel
theorem dJ0_isLatin1_aae02_7 : decode cJ0_isLatin1_aae02 7 = .ok (.getfield 15, 3) := by decide +kernel
theorem dJ0_isLatin1_aae02_10 : decode cJ0_isLatin1_aae02 10 = .ok (.ifCond .ne 7, 3) := by decide +kernel
theorem dJ0_isLatin1_aae02_13 : decode cJ0_isLatin1_aae02 13 = .ok (.iconst 1, 1) := by decide +kernel
theorem dJ0_isLatin1_aae02_14 : decode cJ0_isLatin1_aae02 14 = .ok (.goto 4, 3) := by decide +kernel
theorem dJ0_isLatin1_aae02_17 : decode cJ0_isLatin1_aae02 17 = .ok (.iconst 0, 1) := by decide +kernel
theorem dJ0_isLatin1_aae02_18 : decode cJ0_isLatin1_aae02 18 = .ok (.ireturn, 1) := by decide +kernel
theorem dJ13_bitCount_95d88_0 : decode cJ13_bitCount_95d88 0 = .ok (.lload_n 0, 1) := by decide +kernel
theorem dJ13_bitCount_95d88_1 : decode cJ13_bitCount_95d88 1 = .ok (.lload_n 0, 1) := by decide +kernel
theorem dJ13_bitCount_95d88_2 : decode cJ13_bitCount_95d88 2 = .ok (.iconst 1, 1) := by decide +kernel
theorem dJ13_bitCount_95d88_3 : decode cJ13_bitCount_95d88 3 = .ok (.lushr, 1) := by decide +kernel
theorem dJ13_bitCount_95d88_4 : decode cJ13_bitCount_95d88 4 = .ok (.ldc2_w 314, 3) := by decide +kernel
theorem dJ13_bitCount_95d88_7 : decode cJ13_bitCount_95d88 7 = .ok (.land, 1) := by decide +kernel
theorem dJ13_bitCount_95d88_8 : decode cJ13_bitCount_95d88 8 = .ok (.lsub, 1) := by decide +kernel
theorem dJ13_bitCount_95d88_9 : decode cJ13_bitCount_95d88 9 = .ok (.lstore_n 0, 1) := by decide +kernel
theorem dJ13_bitCount_95d88_10 : decode cJ13_bitCount_95d88 10 = .ok (.lload_n 0, 1) := by decide +kernel
theorem dJ13_bitCount_95d88_11 : decode cJ13_bitCount_95d88 11 = .ok (.ldc2_w 316, 3) := by decide +kernel
theorem dJ13_bitCount_95d88_14 : decode cJ13_bitCount_95d88 14 = .ok (.land, 1) := by decide +kernel
theorem dJ13_bitCount_95d88_15 : decode cJ13_bitCount_95d88 15 = .ok (.lload_n 0, 1) := by decide +kernel
theorem dJ13_bitCount_95d88_16 : decode cJ13_bitCount_95d88 16 = .ok (.iconst 2, 1) := by decide +kernel
theorem dJ13_bitCount_95d88_17 : decode cJ13_bitCount_95d88 17 = .ok (.lushr, 1) := by decide +kernel
theorem dJ13_bitCount_95d88_18 : decode cJ13_bitCount_95d88 18 = .ok (.ldc2_w 316, 3) := by decide +kernel
theorem dJ13_bitCount_95d88_21 : decode cJ13_bitCount_95d88 21 = .ok (.land, 1) := by decide +kernel
theorem dJ13_bitCount_95d88_22 : decode cJ13_bitCount_95d88 22 = .ok (.ladd, 1) := by decide +kernel
theorem dJ13_bitCount_95d88_23 : decode cJ13_bitCount_95d88 23 = .ok (.lstore_n 0, 1) := by decide +kernel
theorem dJ13_bitCount_95d88_24 : decode cJ13_bitCount_95d88 24 = .ok (.lload_n 0, 1) := by decide +kernel
theorem dJ13_bitCount_95d88_25 : decode cJ13_bitCount_95d88 25 = .ok (.lload_n 0, 1) := by decide +kernel
theorem dJ13_bitCount_95d88_26 : decode cJ13_bitCount_95d88 26 = .ok (.iconst 4, 1) := by decide +kernel
theorem dJ13_bitCount_95d88_27 : decode cJ13_bitCount_95d88 27 = .ok (.lushr, 1) := by decide +kernel
theorem dJ13_bitCount_95d88_28 : decode cJ13_bitCount_95d88 28 = .ok (.ladd, 1) := by decide +kernel
theorem dJ13_bitCount_95d88_29 : decode cJ13_bitCount_95d88 29 = .ok (.ldc2_w 318, 3) := by decide +kernel
theorem dJ13_bitCount_95d88_32 : decode cJ13_bitCount_95d88 32 = .ok (.land, 1) := by decide +kernel
theorem dJ13_bitCount_95d88_33 : decode cJ13_bitCount_95d88 33 = .ok (.lstore_n 0, 1) := by decide +kernel
theorem dJ13_bitCount_95d88_34 : decode cJ13_bitCount_95d88 34 = .ok (.lload_n 0, 1) := by decide +kernel
theorem dJ13_bitCount_95d88_35 : decode cJ13_bitCount_95d88 35 = .ok (.lload_n 0, 1) := by decide +kernel
theorem dJ13_bitCount_95d88_36 : decode cJ13_bitCount_95d88 36 = .ok (.bipush 8, 2) := by decide +kernel
theorem dJ13_bitCount_95d88_38 : decode cJ13_bitCount_95d88 38 = .ok (.lushr, 1) := by decide +kernel
theorem dJ13_bitCount_95d88_39 : decode cJ13_bitCount_95d88 39 = .ok (.ladd, 1) := by decide +kernel
theorem dJ13_bitCount_95d88_40 : decode cJ13_bitCount_95d88 40 = .ok (.lstore_n 0, 1) := by decide +kernel
theorem dJ13_bitCount_95d88_41 : decode cJ13_bitCount_95d88 41 = .ok (.lload_n 0, 1) := by decide +kernel
theorem dJ13_bitCount_95d88_42 : decode cJ13_bitCount_95d88 42 = .ok (.lload_n 0, 1) := by decide +kernel
theorem dJ13_bitCount_95d88_43 : decode cJ13_bitCount_95d88 43 = .ok (.bipush 16, 2) := by decide +kernel
theorem dJ13_bitCount_95d88_45 : decode cJ13_bitCount_95d88 45 = .ok (.lushr, 1) := by decide +kernel
theorem dJ13_bitCount_95d88_46 : decode cJ13_bitCount_95d88 46 = .ok (.ladd, 1) := by decide +kernel
theorem dJ13_bitCount_95d88_47 : decode cJ13_bitCount_95d88 47 = .ok (.lstore_n 0, 1) := by decide +kernel
theorem dJ13_bitCount_95d88_48 : decode cJ13_bitCount_95d88 48 = .ok (.lload_n 0, 1) := by decide +kernel
theorem dJ13_bitCount_95d88_49 : decode cJ13_bitCount_95d88 49 = .ok (.lload_n 0, 1) := by decide +kernel
theorem dJ13_bitCount_95d88_50 : decode cJ13_bitCount_95d88 50 = .ok (.bipush 32, 2) := by decide +kernel
theorem dJ13_bitCount_95d88_52 : decode cJ13_bitCount_95d88 52 = .ok (.lushr, 1) := by decide +kernel
theorem dJ13_bitCount_95d88_53 : decode cJ13_bitCount_95d88 53 = .ok (.ladd, 1) := by decide +kernel
theorem dJ13_bitCount_95d88_54 : decode cJ13_bitCount_95d88 54 = .ok (.lstore_n 0, 1) := by decide +kernel
theorem dJ13_bitCount_95d88_55 : decode cJ13_bitCount_95d88 55 = .ok (.lload_n 0, 1) := by decide +kernel
theorem dJ13_bitCount_95d88_56 : decode cJ13_bitCount_95d88 56 = .ok (.l2i, 1) := by decide +kernel
theorem dJ13_bitCount_95d88_57 : decode cJ13_bitCount_95d88 57 = .ok (.bipush 127, 2) := by decide +kernel
theorem dJ13_bitCount_95d88_59 : decode cJ13_bitCount_95d88 59 = .ok (.iand, 1) := by decide +kernel
theorem dJ13_bitCount_95d88_60 : decode cJ13_bitCount_95d88 60 = .ok (.ireturn, 1) := by decide +kernel
theorem dJ1_charAt_3b067_0 : decode cJ1_charAt_3b067 0 = .ok (.iload_n 1, 1) := by decide +kernel
theorem dJ1_charAt_3b067_1 : decode cJ1_charAt_3b067 1 = .ok (.aload_n 0, 1) := by decide +kernel
theorem dJ1_charAt_3b067_2 : decode cJ1_charAt_3b067 2 = .ok (.arraylength, 1) := by decide +kernel
theorem dJ1_charAt_3b067_3 : decode cJ1_charAt_3b067 3 = .ok (.invokestatic 9, 3) := by decide +kernel
theorem dJ1_charAt_3b067_6 : decode cJ1_charAt_3b067 6 = .ok (.aload_n 0, 1) := by decide +kernel
theorem dJ1_charAt_3b067_7 : decode cJ1_charAt_3b067 7 = .ok (.iload_n 1, 1) := by decide +kernel
theorem dJ1_charAt_3b067_8 : decode cJ1_charAt_3b067 8 = .ok (.baload, 1) := by decide +kernel
theorem dJ1_charAt_3b067_9 : decode cJ1_charAt_3b067 9 = .ok (.sipush 255, 3) := by decide +kernel
theorem dJ1_charAt_3b067_12 : decode cJ1_charAt_3b067 12 = .ok (.iand, 1) := by decide +kernel
theorem dJ1_charAt_3b067_13 : decode cJ1_charAt_3b067 13 = .ok (.i2c, 1) := by decide +kernel
theorem dJ1_charAt_3b067_14 : decode cJ1_charAt_3b067 14 = .ok (.ireturn, 1) := by decide +kernel
theorem dJ2_charAt_3b067_0 : decode cJ2_charAt_3b067 0 = .ok (.iload_n 1, 1) := by decide +kernel
theorem dJ2_charAt_3b067_1 : decode cJ2_charAt_3b067 1 = .ok (.aload_n 0, 1) := by decide +kernel
theorem dJ2_charAt_3b067_2 : decode cJ2_charAt_3b067 2 = .ok (.invokestatic 67, 3) := by decide +kernel
theorem dJ2_charAt_3b067_5 : decode cJ2_charAt_3b067 5 = .ok (.aload_n 0, 1) := by decide +kernel
theorem dJ2_charAt_3b067_6 : decode cJ2_charAt_3b067 6 = .ok (.iload_n 1, 1) := by decide +kernel
theorem dJ2_charAt_3b067_7 : decode cJ2_charAt_3b067 7 = .ok (.invokestatic 71, 3) := by decide +kernel
theorem dJ2_charAt_3b067_10 : decode cJ2_charAt_3b067 10 = .ok (.ireturn, 1) := by decide +kernel
theorem dJ2_checkIndex_2214a_0 : decode cJ2_checkIndex_2214a 0 = .ok (.iload_n 0, 1) := by decide +kernel
theorem dJ2_checkIndex_2214a_1 : decode cJ2_checkIndex_2214a 1 = .ok (.aload_n 1, 1) := by decide +kernel
theorem dJ2_checkIndex_2214a_2 : decode cJ2_checkIndex_2214a 2 = .ok (.invokestatic 48, 3) := by decide +kernel
theorem dJ2_checkIndex_2214a_5 : decode cJ2_checkIndex_2214a 5 = .ok (.invokestatic 414, 3) := by decide +kernel
theorem dJ2_checkIndex_2214a_8 : decode cJ2_checkIndex_2214a 8 = .ok (.return_, 1) := by decide +kernel
theorem dJ2_getChar_3b067_0 : decode cJ2_getChar_3b067 0 = .ok (.getstatic 44, 3) := by decide +kernel
theorem dJ2_getChar_3b067_3 : decode cJ2_getChar_3b067 3 = .ok (.ifCond .ne 25, 3) := by decide +kernel
theorem dJ2_getChar_3b067_6 : decode cJ2_getChar_3b067 6 = .ok (.iload_n 1, 1) := by decide +kernel
theorem dJ2_getChar_3b067_7 : decode cJ2_getChar_3b067 7 = .ok (.ifCond .lt 11, 3) := by decide +kernel
theorem dJ2_getChar_3b067_10 : decode cJ2_getChar_3b067 10 = .ok (.iload_n 1, 1) := by decide +kernel
theorem dJ2_getChar_3b067_11 : decode cJ2_getChar_3b067 11 = .ok (.aload_n 0, 1) := by decide +kernel
theorem dJ2_getChar_3b067_12 : decode cJ2_getChar_3b067 12 = .ok (.invokestatic 48, 3) := by decide +kernel
theorem dJ2_getChar_3b067_15 : decode cJ2_getChar_3b067 15 = .ok (.if_icmp .lt 13, 3) := by decide +kernel
theorem dJ2_getChar_3b067_18 : decode cJ2_getChar_3b067 18 = .ok (.new 52, 3) := by decide +kernel
theorem dJ2_getChar_3b067_21 : decode cJ2_getChar_3b067 21 = .ok (.dup, 1) := by decide +kernel
theorem dJ2_getChar_3b067_22 : decode cJ2_getChar_3b067 22 = .ok (.ldc 54, 2) := by decide +kernel
theorem dJ2_getChar_3b067_24 : decode cJ2_getChar_3b067 24 = .ok (.invokespecial 56, 3) := by decide +kernel
theorem dJ2_getChar_3b067_27 : decode cJ2_getChar_3b067 27 = .ok (.athrow, 1) := by decide +kernel
theorem dJ2_getChar_3b067_28 : decode cJ2_getChar_3b067 28 = .ok (.iload_n 1, 1) := by decide +kernel
theorem dJ2_getChar_3b067_29 : decode cJ2_getChar_3b067 29 = .ok (.iconst 1, 1) := by decide +kernel
theorem dJ2_getChar_3b067_30 : decode cJ2_getChar_3b067 30 = .ok (.ishl, 1) := by decide +kernel
theorem dJ2_getChar_3b067_31 : decode cJ2_getChar_3b067 31 = .ok (.istore_n 1, 1) := by decide +kernel
theorem dJ2_getChar_3b067_32 : decode cJ2_getChar_3b067 32 = .ok (.aload_n 0, 1) := by decide +kernel
theorem dJ2_getChar_3b067_33 : decode cJ2_getChar_3b067 33 = .ok (.iload_n 1, 1) := by decide +kernel
theorem dJ2_getChar_3b067_34 : decode cJ2_getChar_3b067 34 = .ok (.iinc 1 1, 3) := by decide +kernel
theorem dJ2_getChar_3b067_37 : decode cJ2_getChar_3b067 37 = .ok (.baload, 1) := by decide +kernel
theorem dJ2_getChar_3b067_38 : decode cJ2_getChar_3b067 38 = .ok (.sipush 255, 3) := by decide +kernel
theorem dJ2_getChar_3b067_41 : decode cJ2_getChar_3b067 41 = .ok (.iand, 1) := by decide +kernel
theorem dJ2_getChar_3b067_42 : decode cJ2_getChar_3b067 42 = .ok (.getstatic 59, 3) := by decide +kernel
theorem dJ2_getChar_3b067_45 : decode cJ2_getChar_3b067 45 = .ok (.ishl, 1) := by decide +kernel
theorem dJ2_getChar_3b067_46 : decode cJ2_getChar_3b067 46 = .ok (.aload_n 0, 1) := by decide +kernel
theorem dJ2_getChar_3b067_47 : decode cJ2_getChar_3b067 47 = .ok (.iload_n 1, 1) := by decide +kernel
theorem dJ2_getChar_3b067_48 : decode cJ2_getChar_3b067 48 = .ok (.baload, 1) := by decide +kernel
theorem dJ2_getChar_3b067_49 : decode cJ2_getChar_3b067 49 = .ok (.sipush 255, 3) := by decide +kernel
theorem dJ2_getChar_3b067_52 : decode cJ2_getChar_3b067 52 = .ok (.iand, 1) := by decide +kernel
theorem dJ2_getChar_3b067_53 : decode cJ2_getChar_3b067 53 = .ok (.getstatic 63, 3) := by decide +kernel
theorem dJ2_getChar_3b067_56 : decode cJ2_getChar_3b067 56 = .ok (.ishl, 1) := by decide +kernel
theorem dJ2_getChar_3b067_57 : decode cJ2_getChar_3b067 57 = .ok (.ior, 1) := by decide +kernel
theorem dJ2_getChar_3b067_58 : decode cJ2_getChar_3b067 58 = .ok (.i2c, 1) := by decide +kernel
theorem dJ2_getChar_3b067_59 : decode cJ2_getChar_3b067 59 = .ok (.ireturn, 1) := by decide +kernel
theorem dJ2_length_9d52b_0 : decode cJ2_length_9d52b 0 = .ok (.aload_n 0, 1) := by decide +kernel
theorem dJ2_length_9d52b_1 : decode cJ2_length_9d52b 1 = .ok (.arraylength, 1) := by decide +kernel
theorem dJ2_length_9d52b_2 : decode cJ2_length_9d52b 2 = .ok (.iconst 1, 1) := by decide +kernel
theorem dJ2_length_9d52b_3 : decode cJ2_length_9d52b 3 = .ok (.ishr, 1) := by decide +kernel
theorem dJ2_length_9d52b_4 : decode cJ2_length_9d52b 4 = .ok (.ireturn, 1) := by decide +kernel
theorem dJ3_checkIndex_8e157_0 : decode cJ3_checkIndex_8e157 0 = .ok (.iload_n 0, 1) := by decide +kernel
theorem dJ3_checkIndex_8e157_1 : decode cJ3_checkIndex_8e157 1 = .ok (.ifCond .lt 8, 3) := by decide +kernel
theorem dJ3_checkIndex_8e157_4 : decode cJ3_checkIndex_8e157 4 = .ok (.iload_n 0, 1) := by decide +kernel
theorem dJ3_checkIndex_8e157_5 : decode cJ3_checkIndex_8e157 5 = .ok (.iload_n 1, 1) := by decide +kernel
theorem dJ3_checkIndex_8e157_6 : decode cJ3_checkIndex_8e157 6 = .ok (.if_icmp .lt 10, 3) := by decide +kernel
theorem dJ3_checkIndex_8e157_9 : decode cJ3_checkIndex_8e157 9 = .ok (.aload_n 2, 1) := by decide +kernel
theorem dJ3_checkIndex_8e157_10 : decode cJ3_checkIndex_8e157 10 = .ok (.iload_n 0, 1) := by decide +kernel
theorem dJ3_checkIndex_8e157_11 : decode cJ3_checkIndex_8e157 11 = .ok (.iload_n 1, 1) := by decide +kernel
theorem dJ3_checkIndex_8e157_12 : decode cJ3_checkIndex_8e157 12 = .ok (.invokestatic 95, 3) := by decide +kernel
theorem dJ3_checkIndex_8e157_15 : decode cJ3_checkIndex_8e157 15 = .ok (.athrow, 1) := by decide +kernel
theorem dJ3_checkIndex_8e157_16 : decode cJ3_checkIndex_8e157 16 = .ok (.iload_n 0, 1) := by decide +kernel
theorem dJ3_checkIndex_8e157_17 : decode cJ3_checkIndex_8e157 17 = .ok (.ireturn, 1) := by decide +kernel
theorem dJ9_max_7cf53_0 : decode cJ9_max_7cf53 0 = .ok (.iload_n 0, 1) := by decide +kernel
theorem dJ9_max_7cf53_1 : decode cJ9_max_7cf53 1 = .ok (.iload_n 1, 1) := by decide +kernel
theorem dJ9_max_7cf53_2 : decode cJ9_max_7cf53 2 = .ok (.if_icmp .lt 7, 3) := by decide +kernel
theorem dJ9_max_7cf53_5 : decode cJ9_max_7cf53 5 = .ok (.iload_n 0, 1) := by decide +kernel
theorem dJ9_max_7cf53_6 : decode cJ9_max_7cf53 6 = .ok (.goto 4, 3) := by decide +kernel
theorem dJ9_max_7cf53_9 : decode cJ9_max_7cf53 9 = .ok (.iload_n 1, 1) := by decide +kernel
theorem dJ9_max_7cf53_10 : decode cJ9_max_7cf53 10 = .ok (.ireturn, 1) := by decide +kernel
theorem dJ9_min_7cf53_0 : decode cJ9_min_7cf53 0 = .ok (.iload_n 0, 1) := by decide +kernel
theorem dJ9_min_7cf53_1 : decode cJ9_min_7cf53 1 = .ok (.iload_n 1, 1) := by decide +kernel
theorem dJ9_min_7cf53_2 : decode cJ9_min_7cf53 2 = .ok (.if_icmp .gt 7, 3) := by decide +kernel
theorem dJ9_min_7cf53_5 : decode cJ9_min_7cf53 5 = .ok (.iload_n 0, 1) := by decide +kernel
theorem dJ9_min_7cf53_6 : decode cJ9_min_7cf53 6 = .ok (.goto 4, 3) := by decide +kernel
theorem dJ9_min_7cf53_9 : decode cJ9_min_7cf53 9 = .ok (.iload_n 1, 1) := by decide +kernel
theorem dJ9_min_7cf53_10 : decode cJ9_min_7cf53 10 = .ok (.ireturn, 1) := by decide +kernel
