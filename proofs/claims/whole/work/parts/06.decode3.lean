theorem dX8_back_40 : decode cX8_back 40 = .ok (.iload_n 2, 1) := by decide +kernel
theorem dX8_back_41 : decode cX8_back 41 = .ok (.aload_n 0, 1) := by decide +kernel
theorem dX8_back_42 : decode cX8_back 42 = .ok (.getfield 17, 3) := by decide +kernel
theorem dX8_back_45 : decode cX8_back 45 = .ok (.sipush 1419, 3) := by decide +kernel
theorem dX8_back_48 : decode cX8_back 48 = .ok (.iload_n 1, 1) := by decide +kernel
theorem dX8_back_49 : decode cX8_back 49 = .ok (.imul, 1) := by decide +kernel
theorem dX8_back_50 : decode cX8_back 50 = .ok (.iload_n 2, 1) := by decide +kernel
theorem dX8_back_51 : decode cX8_back 51 = .ok (.iadd, 1) := by decide +kernel
theorem dX8_back_52 : decode cX8_back 52 = .ok (.iaload, 1) := by decide +kernel
theorem dX8_back_53 : decode cX8_back 53 = .ok (.iastore, 1) := by decide +kernel
theorem dX8_back_54 : decode cX8_back 54 = .ok (.iinc 2 1, 3) := by decide +kernel
theorem dX8_back_57 : decode cX8_back 57 = .ok (.goto (-28), 3) := by decide +kernel
theorem dX8_back_60 : decode cX8_back 60 = .ok (.iconst 0, 1) := by decide +kernel
theorem dX8_back_61 : decode cX8_back 61 = .ok (.ireturn, 1) := by decide +kernel
theorem dX8_isSquare_0 : decode cX8_isSquare 0 = .ok (.aload_n 0, 1) := by decide +kernel
theorem dX8_isSquare_1 : decode cX8_isSquare 1 = .ok (.getfield 13, 3) := by decide +kernel
theorem dX8_isSquare_4 : decode cX8_isSquare 4 = .ok (.iconst 1, 1) := by decide +kernel
theorem dX8_isSquare_5 : decode cX8_isSquare 5 = .ok (.iaload, 1) := by decide +kernel
theorem dX8_isSquare_6 : decode cX8_isSquare 6 = .ok (.ifCond .le 7, 3) := by decide +kernel
theorem dX8_isSquare_9 : decode cX8_isSquare 9 = .ok (.iconst 1, 1) := by decide +kernel
theorem dX8_isSquare_10 : decode cX8_isSquare 10 = .ok (.goto 4, 3) := by decide +kernel
theorem dX8_isSquare_13 : decode cX8_isSquare 13 = .ok (.iconst 0, 1) := by decide +kernel
theorem dX8_isSquare_14 : decode cX8_isSquare 14 = .ok (.ireturn, 1) := by decide +kernel
theorem dX8_isSize_0 : decode cX8_isSize 0 = .ok (.iload_n 1, 1) := by decide +kernel
theorem dX8_isSize_1 : decode cX8_isSize 1 = .ok (.i2l, 1) := by decide +kernel
theorem dX8_isSize_2 : decode cX8_isSize 2 = .ok (.lconst 0, 1) := by decide +kernel
theorem dX8_isSize_3 : decode cX8_isSize 3 = .ok (.aload_n 0, 1) := by decide +kernel
theorem dX8_isSize_4 : decode cX8_isSize 4 = .ok (.getfield 13, 3) := by decide +kernel
theorem dX8_isSize_7 : decode cX8_isSize 7 = .ok (.bipush 10, 2) := by decide +kernel
theorem dX8_isSize_9 : decode cX8_isSize 9 = .ok (.iaload, 1) := by decide +kernel
theorem dX8_isSize_10 : decode cX8_isSize 10 = .ok (.iconst 1, 1) := by decide +kernel
theorem dX8_isSize_11 : decode cX8_isSize 11 = .ok (.isub, 1) := by decide +kernel
theorem dX8_isSize_12 : decode cX8_isSize 12 = .ok (.i2l, 1) := by decide +kernel
theorem dX8_isSize_13 : decode cX8_isSize 13 = .ok (.invokestatic 68, 3) := by decide +kernel
theorem dX8_isSize_16 : decode cX8_isSize 16 = .ok (.ireturn, 1) := by decide +kernel
theorem dX8_isTable_0 : decode cX8_isTable 0 = .ok (.iload_n 1, 1) := by decide +kernel
theorem dX8_isTable_1 : decode cX8_isTable 1 = .ok (.i2l, 1) := by decide +kernel
theorem dX8_isTable_2 : decode cX8_isTable 2 = .ok (.lconst 0, 1) := by decide +kernel
theorem dX8_isTable_3 : decode cX8_isTable 3 = .ok (.aload_n 0, 1) := by decide +kernel
theorem dX8_isTable_4 : decode cX8_isTable 4 = .ok (.getfield 13, 3) := by decide +kernel
theorem dX8_isTable_7 : decode cX8_isTable 7 = .ok (.bipush 11, 2) := by decide +kernel
theorem dX8_isTable_9 : decode cX8_isTable 9 = .ok (.iaload, 1) := by decide +kernel
theorem dX8_isTable_10 : decode cX8_isTable 10 = .ok (.iconst 1, 1) := by decide +kernel
theorem dX8_isTable_11 : decode cX8_isTable 11 = .ok (.isub, 1) := by decide +kernel
theorem dX8_isTable_12 : decode cX8_isTable 12 = .ok (.i2l, 1) := by decide +kernel
theorem dX8_isTable_13 : decode cX8_isTable 13 = .ok (.invokestatic 68, 3) := by decide +kernel
theorem dX8_isTable_16 : decode cX8_isTable 16 = .ok (.ireturn, 1) := by decide +kernel
theorem dX8_isCell_0 : decode cX8_isCell 0 = .ok (.iload_n 1, 1) := by decide +kernel
theorem dX8_isCell_1 : decode cX8_isCell 1 = .ok (.i2l, 1) := by decide +kernel
theorem dX8_isCell_2 : decode cX8_isCell 2 = .ok (.lconst 0, 1) := by decide +kernel
theorem dX8_isCell_3 : decode cX8_isCell 3 = .ok (.aload_n 0, 1) := by decide +kernel
theorem dX8_isCell_4 : decode cX8_isCell 4 = .ok (.getfield 13, 3) := by decide +kernel
theorem dX8_isCell_7 : decode cX8_isCell 7 = .ok (.iconst 1, 1) := by decide +kernel
theorem dX8_isCell_8 : decode cX8_isCell 8 = .ok (.iaload, 1) := by decide +kernel
theorem dX8_isCell_9 : decode cX8_isCell 9 = .ok (.iconst 1, 1) := by decide +kernel
theorem dX8_isCell_10 : decode cX8_isCell 10 = .ok (.isub, 1) := by decide +kernel
theorem dX8_isCell_11 : decode cX8_isCell 11 = .ok (.i2l, 1) := by decide +kernel
theorem dX8_isCell_12 : decode cX8_isCell 12 = .ok (.invokestatic 68, 3) := by decide +kernel
theorem dX8_isCell_15 : decode cX8_isCell 15 = .ok (.ifCond .eq 25, 3) := by decide +kernel
theorem dX8_isCell_18 : decode cX8_isCell 18 = .ok (.iload_n 2, 1) := by decide +kernel
theorem dX8_isCell_19 : decode cX8_isCell 19 = .ok (.i2l, 1) := by decide +kernel
theorem dX8_isCell_20 : decode cX8_isCell 20 = .ok (.lconst 0, 1) := by decide +kernel
theorem dX8_isCell_21 : decode cX8_isCell 21 = .ok (.aload_n 0, 1) := by decide +kernel
theorem dX8_isCell_22 : decode cX8_isCell 22 = .ok (.getfield 13, 3) := by decide +kernel
theorem dX8_isCell_25 : decode cX8_isCell 25 = .ok (.iconst 2, 1) := by decide +kernel
theorem dX8_isCell_26 : decode cX8_isCell 26 = .ok (.iaload, 1) := by decide +kernel
theorem dX8_isCell_27 : decode cX8_isCell 27 = .ok (.iconst 1, 1) := by decide +kernel
theorem dX8_isCell_28 : decode cX8_isCell 28 = .ok (.isub, 1) := by decide +kernel
theorem dX8_isCell_29 : decode cX8_isCell 29 = .ok (.i2l, 1) := by decide +kernel
theorem dX8_isCell_30 : decode cX8_isCell 30 = .ok (.invokestatic 68, 3) := by decide +kernel
theorem dX8_isCell_33 : decode cX8_isCell 33 = .ok (.ifCond .eq 7, 3) := by decide +kernel
theorem dX8_isCell_36 : decode cX8_isCell 36 = .ok (.iconst 1, 1) := by decide +kernel
theorem dX8_isCell_37 : decode cX8_isCell 37 = .ok (.goto 4, 3) := by decide +kernel
theorem dX8_isCell_40 : decode cX8_isCell 40 = .ok (.iconst 0, 1) := by decide +kernel
theorem dX8_isCell_41 : decode cX8_isCell 41 = .ok (.ireturn, 1) := by decide +kernel
theorem dX8_dragOf_0 : decode cX8_dragOf 0 = .ok (.aload_n 0, 1) := by decide +kernel
theorem dX8_dragOf_1 : decode cX8_dragOf 1 = .ok (.getfield 13, 3) := by decide +kernel
theorem dX8_dragOf_4 : decode cX8_dragOf 4 = .ok (.bipush 25, 2) := by decide +kernel
theorem dX8_dragOf_6 : decode cX8_dragOf 6 = .ok (.iconst 2, 1) := by decide +kernel
theorem dX8_dragOf_7 : decode cX8_dragOf 7 = .ok (.iload_n 1, 1) := by decide +kernel
theorem dX8_dragOf_8 : decode cX8_dragOf 8 = .ok (.imul, 1) := by decide +kernel
theorem dX8_dragOf_9 : decode cX8_dragOf 9 = .ok (.iadd, 1) := by decide +kernel
theorem dX8_dragOf_10 : decode cX8_dragOf 10 = .ok (.iaload, 1) := by decide +kernel
theorem dX8_dragOf_11 : decode cX8_dragOf 11 = .ok (.ireturn, 1) := by decide +kernel
theorem dX8_shareOf_0 : decode cX8_shareOf 0 = .ok (.aload_n 0, 1) := by decide +kernel
theorem dX8_shareOf_1 : decode cX8_shareOf 1 = .ok (.getfield 13, 3) := by decide +kernel
theorem dX8_shareOf_4 : decode cX8_shareOf 4 = .ok (.bipush 25, 2) := by decide +kernel
theorem dX8_shareOf_6 : decode cX8_shareOf 6 = .ok (.iconst 2, 1) := by decide +kernel
theorem dX8_shareOf_7 : decode cX8_shareOf 7 = .ok (.iload_n 1, 1) := by decide +kernel
theorem dX8_shareOf_8 : decode cX8_shareOf 8 = .ok (.imul, 1) := by decide +kernel
theorem dX8_shareOf_9 : decode cX8_shareOf 9 = .ok (.iadd, 1) := by decide +kernel
theorem dX8_shareOf_10 : decode cX8_shareOf 10 = .ok (.iconst 1, 1) := by decide +kernel
theorem dX8_shareOf_11 : decode cX8_shareOf 11 = .ok (.iadd, 1) := by decide +kernel
theorem dX8_shareOf_12 : decode cX8_shareOf 12 = .ok (.iaload, 1) := by decide +kernel
theorem dX8_shareOf_13 : decode cX8_shareOf 13 = .ok (.ireturn, 1) := by decide +kernel
theorem dX8_ofTable_0 : decode cX8_ofTable 0 = .ok (.aload_n 0, 1) := by decide +kernel
theorem dX8_ofTable_1 : decode cX8_ofTable 1 = .ok (.getfield 13, 3) := by decide +kernel
theorem dX8_ofTable_4 : decode cX8_ofTable 4 = .ok (.bipush 35, 2) := by decide +kernel
theorem dX8_ofTable_6 : decode cX8_ofTable 6 = .ok (.iconst 3, 1) := by decide +kernel
theorem dX8_ofTable_7 : decode cX8_ofTable 7 = .ok (.iload_n 1, 1) := by decide +kernel
theorem dX8_ofTable_8 : decode cX8_ofTable 8 = .ok (.imul, 1) := by decide +kernel
theorem dX8_ofTable_9 : decode cX8_ofTable 9 = .ok (.iadd, 1) := by decide +kernel
theorem dX8_ofTable_10 : decode cX8_ofTable 10 = .ok (.iload_n 2, 1) := by decide +kernel
theorem dX8_ofTable_11 : decode cX8_ofTable 11 = .ok (.iadd, 1) := by decide +kernel
theorem dX8_ofTable_12 : decode cX8_ofTable 12 = .ok (.iaload, 1) := by decide +kernel
theorem dX8_ofTable_13 : decode cX8_ofTable 13 = .ok (.ireturn, 1) := by decide +kernel
theorem dX8_wetOf_0 : decode cX8_wetOf 0 = .ok (.aload_n 0, 1) := by decide +kernel
theorem dX8_wetOf_1 : decode cX8_wetOf 1 = .ok (.getfield 13, 3) := by decide +kernel
theorem dX8_wetOf_4 : decode cX8_wetOf 4 = .ok (.sipush 519, 3) := by decide +kernel
theorem dX8_wetOf_7 : decode cX8_wetOf 7 = .ok (.bipush 30, 2) := by decide +kernel
theorem dX8_wetOf_9 : decode cX8_wetOf 9 = .ok (.iload_n 2, 1) := by decide +kernel
theorem dX8_wetOf_10 : decode cX8_wetOf 10 = .ok (.imul, 1) := by decide +kernel
theorem dX8_wetOf_11 : decode cX8_wetOf 11 = .ok (.iadd, 1) := by decide +kernel
theorem dX8_wetOf_12 : decode cX8_wetOf 12 = .ok (.iload_n 1, 1) := by decide +kernel
theorem dX8_wetOf_13 : decode cX8_wetOf 13 = .ok (.iadd, 1) := by decide +kernel
theorem dX8_wetOf_14 : decode cX8_wetOf 14 = .ok (.iaload, 1) := by decide +kernel
theorem dX8_wetOf_15 : decode cX8_wetOf 15 = .ok (.ireturn, 1) := by decide +kernel
theorem dX8_wetAt_0 : decode cX8_wetAt 0 = .ok (.aload_n 0, 1) := by decide +kernel
theorem dX8_wetAt_1 : decode cX8_wetAt 1 = .ok (.aload_n 0, 1) := by decide +kernel
theorem dX8_wetAt_2 : decode cX8_wetAt 2 = .ok (.iload_n 1, 1) := by decide +kernel
theorem dX8_wetAt_3 : decode cX8_wetAt 3 = .ok (.iconst 0, 1) := by decide +kernel
theorem dX8_wetAt_4 : decode cX8_wetAt 4 = .ok (.invokevirtual 72, 3) := by decide +kernel
theorem dX8_wetAt_7 : decode cX8_wetAt 7 = .ok (.aload_n 0, 1) := by decide +kernel
theorem dX8_wetAt_8 : decode cX8_wetAt 8 = .ok (.iload_n 1, 1) := by decide +kernel
theorem dX8_wetAt_9 : decode cX8_wetAt 9 = .ok (.iconst 1, 1) := by decide +kernel
theorem dX8_wetAt_10 : decode cX8_wetAt 10 = .ok (.invokevirtual 72, 3) := by decide +kernel
theorem dX8_wetAt_13 : decode cX8_wetAt 13 = .ok (.invokevirtual 76, 3) := by decide +kernel
theorem dX8_wetAt_16 : decode cX8_wetAt 16 = .ok (.ireturn, 1) := by decide +kernel
theorem dX8_feed_0 : decode cX8_feed 0 = .ok (.aload_n 0, 1) := by decide +kernel
theorem dX8_feed_1 : decode cX8_feed 1 = .ok (.getfield 79, 3) := by decide +kernel
theorem dX8_feed_4 : decode cX8_feed 4 = .ok (.bipush 20, 2) := by decide +kernel
theorem dX8_feed_6 : decode cX8_feed 6 = .ok (.iadd, 1) := by decide +kernel
theorem dX8_feed_7 : decode cX8_feed 7 = .ok (.sipush 1600, 3) := by decide +kernel
theorem dX8_feed_10 : decode cX8_feed 10 = .ok (.if_icmp .le 5, 3) := by decide +kernel
theorem dX8_feed_13 : decode cX8_feed 13 = .ok (.iconst (-1), 1) := by decide +kernel
theorem dX8_feed_14 : decode cX8_feed 14 = .ok (.ireturn, 1) := by decide +kernel
theorem dX8_feed_15 : decode cX8_feed 15 = .ok (.aload_n 0, 1) := by decide +kernel
theorem dX8_feed_16 : decode cX8_feed 16 = .ok (.getfield 28, 3) := by decide +kernel
theorem dX8_feed_19 : decode cX8_feed 19 = .ok (.iconst 0, 1) := by decide +kernel
theorem dX8_feed_20 : decode cX8_feed 20 = .ok (.iload_n 1, 1) := by decide +kernel
theorem dX8_feed_21 : decode cX8_feed 21 = .ok (.iastore, 1) := by decide +kernel
theorem dX8_feed_22 : decode cX8_feed 22 = .ok (.aload_n 0, 1) := by decide +kernel
theorem dX8_feed_23 : decode cX8_feed 23 = .ok (.getfield 28, 3) := by decide +kernel
theorem dX8_feed_26 : decode cX8_feed 26 = .ok (.iconst 1, 1) := by decide +kernel
theorem dX8_feed_27 : decode cX8_feed 27 = .ok (.iload_n 2, 1) := by decide +kernel
theorem dX8_feed_28 : decode cX8_feed 28 = .ok (.iastore, 1) := by decide +kernel
theorem dX8_feed_29 : decode cX8_feed 29 = .ok (.aload_n 0, 1) := by decide +kernel
theorem dX8_feed_30 : decode cX8_feed 30 = .ok (.getfield 28, 3) := by decide +kernel
theorem dX8_feed_33 : decode cX8_feed 33 = .ok (.iconst 2, 1) := by decide +kernel
theorem dX8_feed_34 : decode cX8_feed 34 = .ok (.iload_n 3, 1) := by decide +kernel
theorem dX8_feed_35 : decode cX8_feed 35 = .ok (.iastore, 1) := by decide +kernel
theorem dX8_feed_36 : decode cX8_feed 36 = .ok (.aload_n 0, 1) := by decide +kernel
theorem dX8_feed_37 : decode cX8_feed 37 = .ok (.getfield 28, 3) := by decide +kernel
theorem dX8_feed_40 : decode cX8_feed 40 = .ok (.iconst 3, 1) := by decide +kernel
theorem dX8_feed_41 : decode cX8_feed 41 = .ok (.iload 4, 2) := by decide +kernel
theorem dX8_feed_43 : decode cX8_feed 43 = .ok (.iastore, 1) := by decide +kernel
theorem dX8_feed_44 : decode cX8_feed 44 = .ok (.aload_n 0, 1) := by decide +kernel
theorem dX8_feed_45 : decode cX8_feed 45 = .ok (.getfield 28, 3) := by decide +kernel
theorem dX8_feed_48 : decode cX8_feed 48 = .ok (.iconst 4, 1) := by decide +kernel
theorem dX8_feed_49 : decode cX8_feed 49 = .ok (.iload 5, 2) := by decide +kernel
theorem dX8_feed_51 : decode cX8_feed 51 = .ok (.iastore, 1) := by decide +kernel
theorem dX8_feed_52 : decode cX8_feed 52 = .ok (.iconst 0, 1) := by decide +kernel
theorem dX8_feed_53 : decode cX8_feed 53 = .ok (.istore 6, 2) := by decide +kernel
theorem dX8_feed_55 : decode cX8_feed 55 = .ok (.iload 6, 2) := by decide +kernel
theorem dX8_feed_57 : decode cX8_feed 57 = .ok (.bipush 20, 2) := by decide +kernel
theorem dX8_feed_59 : decode cX8_feed 59 = .ok (.if_icmp .ge 42, 3) := by decide +kernel
theorem dX8_feed_62 : decode cX8_feed 62 = .ok (.aload_n 0, 1) := by decide +kernel
theorem dX8_feed_63 : decode cX8_feed 63 = .ok (.getfield 24, 3) := by decide +kernel
theorem dX8_feed_66 : decode cX8_feed 66 = .ok (.aload_n 0, 1) := by decide +kernel
theorem dX8_feed_67 : decode cX8_feed 67 = .ok (.getfield 79, 3) := by decide +kernel
theorem dX8_feed_70 : decode cX8_feed 70 = .ok (.iload 6, 2) := by decide +kernel
theorem dX8_feed_72 : decode cX8_feed 72 = .ok (.iadd, 1) := by decide +kernel
theorem dX8_feed_73 : decode cX8_feed 73 = .ok (.aload_n 0, 1) := by decide +kernel
theorem dX8_feed_74 : decode cX8_feed 74 = .ok (.getfield 28, 3) := by decide +kernel
theorem dX8_feed_77 : decode cX8_feed 77 = .ok (.iload 6, 2) := by decide +kernel
theorem dX8_feed_79 : decode cX8_feed 79 = .ok (.iconst 4, 1) := by decide +kernel
theorem dX8_feed_80 : decode cX8_feed 80 = .ok (.idiv, 1) := by decide +kernel
theorem dX8_feed_81 : decode cX8_feed 81 = .ok (.iaload, 1) := by decide +kernel
theorem dX8_feed_82 : decode cX8_feed 82 = .ok (.bipush 24, 2) := by decide +kernel
theorem dX8_feed_84 : decode cX8_feed 84 = .ok (.bipush 8, 2) := by decide +kernel
theorem dX8_feed_86 : decode cX8_feed 86 = .ok (.iload 6, 2) := by decide +kernel
theorem dX8_feed_88 : decode cX8_feed 88 = .ok (.iconst 4, 1) := by decide +kernel
theorem dX8_feed_89 : decode cX8_feed 89 = .ok (.irem, 1) := by decide +kernel
theorem dX8_feed_90 : decode cX8_feed 90 = .ok (.imul, 1) := by decide +kernel
theorem dX8_feed_91 : decode cX8_feed 91 = .ok (.isub, 1) := by decide +kernel
theorem dX8_feed_92 : decode cX8_feed 92 = .ok (.ishr, 1) := by decide +kernel
theorem dX8_feed_93 : decode cX8_feed 93 = .ok (.i2b, 1) := by decide +kernel
theorem dX8_feed_94 : decode cX8_feed 94 = .ok (.bastore, 1) := by decide +kernel
theorem dX8_feed_95 : decode cX8_feed 95 = .ok (.iinc 6 1, 3) := by decide +kernel
theorem dX8_feed_98 : decode cX8_feed 98 = .ok (.goto (-43), 3) := by decide +kernel
theorem dX8_feed_101 : decode cX8_feed 101 = .ok (.aload_n 0, 1) := by decide +kernel
theorem dX8_feed_102 : decode cX8_feed 102 = .ok (.dup, 1) := by decide +kernel
theorem dX8_feed_103 : decode cX8_feed 103 = .ok (.getfield 79, 3) := by decide +kernel
theorem dX8_feed_106 : decode cX8_feed 106 = .ok (.bipush 20, 2) := by decide +kernel
theorem dX8_feed_108 : decode cX8_feed 108 = .ok (.iadd, 1) := by decide +kernel
theorem dX8_feed_109 : decode cX8_feed 109 = .ok (.putfield 79, 3) := by decide +kernel
theorem dX8_feed_112 : decode cX8_feed 112 = .ok (.aload_n 0, 1) := by decide +kernel
theorem dX8_feed_113 : decode cX8_feed 113 = .ok (.getfield 79, 3) := by decide +kernel
theorem dX8_feed_116 : decode cX8_feed 116 = .ok (.ireturn, 1) := by decide +kernel
theorem dX8_end_0 : decode cX8_end 0 = .ok (.iload_n 1, 1) := by decide +kernel
theorem dX8_end_1 : decode cX8_end 1 = .ok (.i2l, 1) := by decide +kernel
theorem dX8_end_2 : decode cX8_end 2 = .ok (.lconst 0, 1) := by decide +kernel
theorem dX8_end_3 : decode cX8_end 3 = .ok (.aload_n 0, 1) := by decide +kernel
theorem dX8_end_4 : decode cX8_end 4 = .ok (.getfield 79, 3) := by decide +kernel
theorem dX8_end_7 : decode cX8_end 7 = .ok (.i2l, 1) := by decide +kernel
theorem dX8_end_8 : decode cX8_end 8 = .ok (.invokestatic 68, 3) := by decide +kernel
theorem dX8_end_11 : decode cX8_end 11 = .ok (.ifCond .ne 5, 3) := by decide +kernel
theorem dX8_end_14 : decode cX8_end 14 = .ok (.iconst (-1), 1) := by decide +kernel
theorem dX8_end_15 : decode cX8_end 15 = .ok (.ireturn, 1) := by decide +kernel
theorem dX8_end_16 : decode cX8_end 16 = .ok (.aload_n 0, 1) := by decide +kernel
theorem dX8_end_17 : decode cX8_end 17 = .ok (.iload_n 1, 1) := by decide +kernel
theorem dX8_end_18 : decode cX8_end 18 = .ok (.putfield 79, 3) := by decide +kernel
theorem dX8_end_21 : decode cX8_end 21 = .ok (.iload_n 1, 1) := by decide +kernel
theorem dX8_end_22 : decode cX8_end 22 = .ok (.ireturn, 1) := by decide +kernel
theorem dX8_see_0 : decode cX8_see 0 = .ok (.iload_n 1, 1) := by decide +kernel
theorem dX8_see_1 : decode cX8_see 1 = .ok (.aload_n 0, 1) := by decide +kernel
theorem dX8_see_2 : decode cX8_see 2 = .ok (.getfield 82, 3) := by decide +kernel
theorem dX8_see_5 : decode cX8_see 5 = .ok (.if_icmp .ge 16, 3) := by decide +kernel
theorem dX8_see_8 : decode cX8_see 8 = .ok (.aload_n 0, 1) := by decide +kernel
theorem dX8_see_9 : decode cX8_see 9 = .ok (.getfield 24, 3) := by decide +kernel
theorem dX8_see_12 : decode cX8_see 12 = .ok (.iload_n 1, 1) := by decide +kernel
theorem dX8_see_13 : decode cX8_see 13 = .ok (.baload, 1) := by decide +kernel
theorem dX8_see_14 : decode cX8_see 14 = .ok (.sipush 255, 3) := by decide +kernel
theorem dX8_see_17 : decode cX8_see 17 = .ok (.iand, 1) := by decide +kernel
theorem dX8_see_18 : decode cX8_see 18 = .ok (.goto 4, 3) := by decide +kernel
theorem dX8_see_21 : decode cX8_see 21 = .ok (.iconst (-1), 1) := by decide +kernel
theorem dX8_see_22 : decode cX8_see 22 = .ok (.ireturn, 1) := by decide +kernel
theorem dX8_advance_0 : decode cX8_advance 0 = .ok (.aload_n 0, 1) := by decide +kernel
theorem dX8_advance_1 : decode cX8_advance 1 = .ok (.aload_n 0, 1) := by decide +kernel
theorem dX8_advance_2 : decode cX8_advance 2 = .ok (.getfield 85, 3) := by decide +kernel
theorem dX8_advance_5 : decode cX8_advance 5 = .ok (.invokevirtual 88, 3) := by decide +kernel
theorem dX8_advance_8 : decode cX8_advance 8 = .ok (.bipush 32, 2) := by decide +kernel
theorem dX8_advance_10 : decode cX8_advance 10 = .ok (.if_icmp .eq 16, 3) := by decide +kernel
theorem dX8_advance_13 : decode cX8_advance 13 = .ok (.aload_n 0, 1) := by decide +kernel
theorem dX8_advance_14 : decode cX8_advance 14 = .ok (.aload_n 0, 1) := by decide +kernel
theorem dX8_advance_15 : decode cX8_advance 15 = .ok (.getfield 85, 3) := by decide +kernel
theorem dX8_advance_18 : decode cX8_advance 18 = .ok (.invokevirtual 88, 3) := by decide +kernel
theorem dX8_advance_21 : decode cX8_advance 21 = .ok (.bipush 10, 2) := by decide +kernel
theorem dX8_advance_23 : decode cX8_advance 23 = .ok (.if_icmp .ne 16, 3) := by decide +kernel
theorem dX8_advance_26 : decode cX8_advance 26 = .ok (.aload_n 0, 1) := by decide +kernel
theorem dX8_advance_27 : decode cX8_advance 27 = .ok (.dup, 1) := by decide +kernel
theorem dX8_advance_28 : decode cX8_advance 28 = .ok (.getfield 85, 3) := by decide +kernel
theorem dX8_advance_31 : decode cX8_advance 31 = .ok (.iconst 1, 1) := by decide +kernel
theorem dX8_advance_32 : decode cX8_advance 32 = .ok (.iadd, 1) := by decide +kernel
theorem dX8_advance_33 : decode cX8_advance 33 = .ok (.putfield 85, 3) := by decide +kernel
theorem dX8_advance_36 : decode cX8_advance 36 = .ok (.goto (-36), 3) := by decide +kernel
theorem dX8_advance_39 : decode cX8_advance 39 = .ok (.aload_n 0, 1) := by decide +kernel
theorem dX8_advance_40 : decode cX8_advance 40 = .ok (.aload_n 0, 1) := by decide +kernel
theorem dX8_advance_41 : decode cX8_advance 41 = .ok (.getfield 85, 3) := by decide +kernel
theorem dX8_advance_44 : decode cX8_advance 44 = .ok (.putfield 92, 3) := by decide +kernel
theorem dX8_advance_47 : decode cX8_advance 47 = .ok (.aload_n 0, 1) := by decide +kernel
theorem dX8_advance_48 : decode cX8_advance 48 = .ok (.aload_n 0, 1) := by decide +kernel
theorem dX8_advance_49 : decode cX8_advance 49 = .ok (.getfield 85, 3) := by decide +kernel
theorem dX8_advance_52 : decode cX8_advance 52 = .ok (.invokevirtual 88, 3) := by decide +kernel
theorem dX8_advance_55 : decode cX8_advance 55 = .ok (.istore_n 1, 1) := by decide +kernel
theorem dX8_advance_56 : decode cX8_advance 56 = .ok (.iload_n 1, 1) := by decide +kernel
theorem dX8_advance_57 : decode cX8_advance 57 = .ok (.iconst (-1), 1) := by decide +kernel
theorem dX8_advance_58 : decode cX8_advance 58 = .ok (.if_icmp .ne 11, 3) := by decide +kernel
theorem dX8_advance_61 : decode cX8_advance 61 = .ok (.aload_n 0, 1) := by decide +kernel
theorem dX8_advance_62 : decode cX8_advance 62 = .ok (.iconst 0, 1) := by decide +kernel
theorem dX8_advance_63 : decode cX8_advance 63 = .ok (.putfield 95, 3) := by decide +kernel
theorem dX8_advance_66 : decode cX8_advance 66 = .ok (.goto 173, 3) := by decide +kernel
theorem dX8_advance_69 : decode cX8_advance 69 = .ok (.iload_n 1, 1) := by decide +kernel
theorem dX8_advance_70 : decode cX8_advance 70 = .ok (.i2l, 1) := by decide +kernel
theorem dX8_advance_71 : decode cX8_advance 71 = .ok (.ldc2_w 98, 3) := by decide +kernel
theorem dX8_advance_74 : decode cX8_advance 74 = .ok (.ldc2_w 100, 3) := by decide +kernel
theorem dX8_advance_77 : decode cX8_advance 77 = .ok (.invokestatic 68, 3) := by decide +kernel
theorem dX8_advance_80 : decode cX8_advance 80 = .ok (.ifCond .eq 45, 3) := by decide +kernel
theorem dX8_advance_83 : decode cX8_advance 83 = .ok (.aload_n 0, 1) := by decide +kernel
theorem dX8_advance_84 : decode cX8_advance 84 = .ok (.aload_n 0, 1) := by decide +kernel
theorem dX8_advance_85 : decode cX8_advance 85 = .ok (.getfield 85, 3) := by decide +kernel
theorem dX8_advance_88 : decode cX8_advance 88 = .ok (.invokevirtual 88, 3) := by decide +kernel
theorem dX8_advance_91 : decode cX8_advance 91 = .ok (.i2l, 1) := by decide +kernel
theorem dX8_advance_92 : decode cX8_advance 92 = .ok (.ldc2_w 98, 3) := by decide +kernel
theorem dX8_advance_95 : decode cX8_advance 95 = .ok (.ldc2_w 100, 3) := by decide +kernel
theorem dX8_advance_98 : decode cX8_advance 98 = .ok (.invokestatic 68, 3) := by decide +kernel
theorem dX8_advance_101 : decode cX8_advance 101 = .ok (.ifCond .eq 16, 3) := by decide +kernel
theorem dX8_advance_104 : decode cX8_advance 104 = .ok (.aload_n 0, 1) := by decide +kernel
theorem dX8_advance_105 : decode cX8_advance 105 = .ok (.dup, 1) := by decide +kernel
theorem dX8_advance_106 : decode cX8_advance 106 = .ok (.getfield 85, 3) := by decide +kernel
theorem dX8_advance_109 : decode cX8_advance 109 = .ok (.iconst 1, 1) := by decide +kernel
theorem dX8_advance_110 : decode cX8_advance 110 = .ok (.iadd, 1) := by decide +kernel
theorem dX8_advance_111 : decode cX8_advance 111 = .ok (.putfield 85, 3) := by decide +kernel
theorem dX8_advance_114 : decode cX8_advance 114 = .ok (.goto (-31), 3) := by decide +kernel
theorem dX8_advance_117 : decode cX8_advance 117 = .ok (.aload_n 0, 1) := by decide +kernel
theorem dX8_advance_118 : decode cX8_advance 118 = .ok (.iconst 1, 1) := by decide +kernel
theorem dX8_advance_119 : decode cX8_advance 119 = .ok (.putfield 95, 3) := by decide +kernel
theorem dX8_advance_122 : decode cX8_advance 122 = .ok (.goto 117, 3) := by decide +kernel
theorem dX8_advance_125 : decode cX8_advance 125 = .ok (.iload_n 1, 1) := by decide +kernel
theorem dX8_advance_126 : decode cX8_advance 126 = .ok (.i2l, 1) := by decide +kernel
theorem dX8_advance_127 : decode cX8_advance 127 = .ok (.ldc2_w 102, 3) := by decide +kernel
theorem dX8_advance_130 : decode cX8_advance 130 = .ok (.ldc2_w 104, 3) := by decide +kernel
theorem dX8_advance_133 : decode cX8_advance 133 = .ok (.invokestatic 68, 3) := by decide +kernel
theorem dX8_advance_136 : decode cX8_advance 136 = .ok (.ifCond .eq 78, 3) := by decide +kernel
theorem dX8_advance_139 : decode cX8_advance 139 = .ok (.aload_n 0, 1) := by decide +kernel
theorem dX8_advance_140 : decode cX8_advance 140 = .ok (.iconst 0, 1) := by decide +kernel
theorem dX8_advance_141 : decode cX8_advance 141 = .ok (.putfield 106, 3) := by decide +kernel
theorem dX8_advance_144 : decode cX8_advance 144 = .ok (.aload_n 0, 1) := by decide +kernel
theorem dX8_advance_145 : decode cX8_advance 145 = .ok (.aload_n 0, 1) := by decide +kernel
theorem dX8_advance_146 : decode cX8_advance 146 = .ok (.getfield 85, 3) := by decide +kernel
theorem dX8_advance_149 : decode cX8_advance 149 = .ok (.invokevirtual 88, 3) := by decide +kernel
theorem dX8_advance_152 : decode cX8_advance 152 = .ok (.i2l, 1) := by decide +kernel
theorem dX8_advance_153 : decode cX8_advance 153 = .ok (.ldc2_w 102, 3) := by decide +kernel
theorem dX8_advance_156 : decode cX8_advance 156 = .ok (.ldc2_w 104, 3) := by decide +kernel
theorem dX8_advance_159 : decode cX8_advance 159 = .ok (.invokestatic 68, 3) := by decide +kernel
theorem dX8_advance_162 : decode cX8_advance 162 = .ok (.ifCond .eq 44, 3) := by decide +kernel
theorem dX8_advance_165 : decode cX8_advance 165 = .ok (.aload_n 0, 1) := by decide +kernel
theorem dX8_advance_166 : decode cX8_advance 166 = .ok (.ldc 109, 2) := by decide +kernel
theorem dX8_advance_168 : decode cX8_advance 168 = .ok (.bipush 10, 2) := by decide +kernel
theorem dX8_advance_170 : decode cX8_advance 170 = .ok (.aload_n 0, 1) := by decide +kernel
theorem dX8_advance_171 : decode cX8_advance 171 = .ok (.getfield 106, 3) := by decide +kernel
theorem dX8_advance_174 : decode cX8_advance 174 = .ok (.imul, 1) := by decide +kernel
theorem dX8_advance_175 : decode cX8_advance 175 = .ok (.aload_n 0, 1) := by decide +kernel
theorem dX8_advance_176 : decode cX8_advance 176 = .ok (.aload_n 0, 1) := by decide +kernel
theorem dX8_advance_177 : decode cX8_advance 177 = .ok (.getfield 85, 3) := by decide +kernel
theorem dX8_advance_180 : decode cX8_advance 180 = .ok (.invokevirtual 88, 3) := by decide +kernel
theorem dX8_advance_183 : decode cX8_advance 183 = .ok (.iadd, 1) := by decide +kernel
theorem dX8_advance_184 : decode cX8_advance 184 = .ok (.bipush 48, 2) := by decide +kernel
theorem dX8_advance_186 : decode cX8_advance 186 = .ok (.isub, 1) := by decide +kernel
theorem dX8_advance_187 : decode cX8_advance 187 = .ok (.invokestatic 110, 3) := by decide +kernel
theorem dX8_advance_190 : decode cX8_advance 190 = .ok (.putfield 106, 3) := by decide +kernel
theorem dX8_advance_193 : decode cX8_advance 193 = .ok (.aload_n 0, 1) := by decide +kernel
theorem dX8_advance_194 : decode cX8_advance 194 = .ok (.dup, 1) := by decide +kernel
theorem dX8_advance_195 : decode cX8_advance 195 = .ok (.getfield 85, 3) := by decide +kernel
theorem dX8_advance_198 : decode cX8_advance 198 = .ok (.iconst 1, 1) := by decide +kernel
theorem dX8_advance_199 : decode cX8_advance 199 = .ok (.iadd, 1) := by decide +kernel
theorem dX8_advance_200 : decode cX8_advance 200 = .ok (.putfield 85, 3) := by decide +kernel
theorem dX8_advance_203 : decode cX8_advance 203 = .ok (.goto (-59), 3) := by decide +kernel
theorem dX8_advance_206 : decode cX8_advance 206 = .ok (.aload_n 0, 1) := by decide +kernel
theorem dX8_advance_207 : decode cX8_advance 207 = .ok (.iconst 2, 1) := by decide +kernel
theorem dX8_advance_208 : decode cX8_advance 208 = .ok (.putfield 95, 3) := by decide +kernel
theorem dX8_advance_211 : decode cX8_advance 211 = .ok (.goto 28, 3) := by decide +kernel
theorem dX8_advance_214 : decode cX8_advance 214 = .ok (.aload_n 0, 1) := by decide +kernel
theorem dX8_advance_215 : decode cX8_advance 215 = .ok (.iload_n 1, 1) := by decide +kernel
theorem dX8_advance_216 : decode cX8_advance 216 = .ok (.bipush 59, 2) := by decide +kernel
theorem dX8_advance_218 : decode cX8_advance 218 = .ok (.if_icmp .ne 7, 3) := by decide +kernel
theorem dX8_advance_221 : decode cX8_advance 221 = .ok (.iconst 3, 1) := by decide +kernel
theorem dX8_advance_222 : decode cX8_advance 222 = .ok (.goto 4, 3) := by decide +kernel
theorem dX8_advance_225 : decode cX8_advance 225 = .ok (.iconst 4, 1) := by decide +kernel
theorem dX8_advance_226 : decode cX8_advance 226 = .ok (.putfield 95, 3) := by decide +kernel
theorem dX8_advance_229 : decode cX8_advance 229 = .ok (.aload_n 0, 1) := by decide +kernel
theorem dX8_advance_230 : decode cX8_advance 230 = .ok (.dup, 1) := by decide +kernel
theorem dX8_advance_231 : decode cX8_advance 231 = .ok (.getfield 85, 3) := by decide +kernel
theorem dX8_advance_234 : decode cX8_advance 234 = .ok (.iconst 1, 1) := by decide +kernel
theorem dX8_advance_235 : decode cX8_advance 235 = .ok (.iadd, 1) := by decide +kernel
theorem dX8_advance_236 : decode cX8_advance 236 = .ok (.putfield 85, 3) := by decide +kernel
theorem dX8_advance_239 : decode cX8_advance 239 = .ok (.return_, 1) := by decide +kernel
theorem dX8_good_0 : decode cX8_good 0 = .ok (.aload_n 0, 1) := by decide +kernel
theorem dX8_good_1 : decode cX8_good 1 = .ok (.getfield 115, 3) := by decide +kernel
theorem dX8_good_4 : decode cX8_good 4 = .ok (.ifCond .ne 7, 3) := by decide +kernel
theorem dX8_good_7 : decode cX8_good 7 = .ok (.iconst 1, 1) := by decide +kernel
theorem dX8_good_8 : decode cX8_good 8 = .ok (.goto 4, 3) := by decide +kernel
theorem dX8_good_11 : decode cX8_good 11 = .ok (.iconst 0, 1) := by decide +kernel
theorem dX8_good_12 : decode cX8_good 12 = .ok (.ireturn, 1) := by decide +kernel
theorem dX8_errs_0 : decode cX8_errs 0 = .ok (.aload_n 0, 1) := by decide +kernel
theorem dX8_errs_1 : decode cX8_errs 1 = .ok (.invokevirtual 118, 3) := by decide +kernel
theorem dX8_errs_4 : decode cX8_errs 4 = .ok (.ifCond .ne 4, 3) := by decide +kernel
theorem dX8_errs_7 : decode cX8_errs 7 = .ok (.return_, 1) := by decide +kernel
theorem dX8_errs_8 : decode cX8_errs 8 = .ok (.aload_n 0, 1) := by decide +kernel
theorem dX8_errs_9 : decode cX8_errs 9 = .ok (.iload_n 1, 1) := by decide +kernel
theorem dX8_errs_10 : decode cX8_errs 10 = .ok (.putfield 115, 3) := by decide +kernel
theorem dX8_errs_13 : decode cX8_errs 13 = .ok (.aload_n 0, 1) := by decide +kernel
theorem dX8_errs_14 : decode cX8_errs 14 = .ok (.aload_n 0, 1) := by decide +kernel
theorem dX8_errs_15 : decode cX8_errs 15 = .ok (.getfield 92, 3) := by decide +kernel
theorem dX8_errs_18 : decode cX8_errs 18 = .ok (.putfield 31, 3) := by decide +kernel
theorem dX8_errs_21 : decode cX8_errs 21 = .ok (.return_, 1) := by decide +kernel
theorem dX8_is_0 : decode cX8_is 0 = .ok (.aload_n 0, 1) := by decide +kernel
theorem dX8_is_1 : decode cX8_is 1 = .ok (.invokevirtual 118, 3) := by decide +kernel
theorem dX8_is_4 : decode cX8_is 4 = .ok (.ifCond .eq 31, 3) := by decide +kernel
theorem dX8_is_7 : decode cX8_is 7 = .ok (.aload_n 0, 1) := by decide +kernel
theorem dX8_is_8 : decode cX8_is 8 = .ok (.getfield 95, 3) := by decide +kernel
theorem dX8_is_11 : decode cX8_is 11 = .ok (.iconst 1, 1) := by decide +kernel
theorem dX8_is_12 : decode cX8_is 12 = .ok (.if_icmp .ne 23, 3) := by decide +kernel
theorem dX8_is_15 : decode cX8_is 15 = .ok (.aload_n 0, 1) := by decide +kernel
theorem dX8_is_16 : decode cX8_is 16 = .ok (.getfield 85, 3) := by decide +kernel
theorem dX8_is_19 : decode cX8_is 19 = .ok (.aload_n 0, 1) := by decide +kernel
theorem dX8_is_20 : decode cX8_is 20 = .ok (.getfield 92, 3) := by decide +kernel
theorem dX8_is_23 : decode cX8_is 23 = .ok (.isub, 1) := by decide +kernel
theorem dX8_is_24 : decode cX8_is 24 = .ok (.aload_n 1, 1) := by decide +kernel
theorem dX8_is_25 : decode cX8_is 25 = .ok (.invokevirtual 122, 3) := by decide +kernel
theorem dX8_is_28 : decode cX8_is 28 = .ok (.if_icmp .ne 7, 3) := by decide +kernel
theorem dX8_is_31 : decode cX8_is 31 = .ok (.iconst 1, 1) := by decide +kernel
theorem dX8_is_32 : decode cX8_is 32 = .ok (.goto 4, 3) := by decide +kernel
theorem dX8_is_35 : decode cX8_is 35 = .ok (.iconst 0, 1) := by decide +kernel
theorem dX8_is_36 : decode cX8_is 36 = .ok (.istore_n 2, 1) := by decide +kernel
theorem dX8_is_37 : decode cX8_is 37 = .ok (.iconst 0, 1) := by decide +kernel
theorem dX8_is_38 : decode cX8_is 38 = .ok (.istore_n 3, 1) := by decide +kernel
theorem dX8_is_39 : decode cX8_is 39 = .ok (.iload_n 3, 1) := by decide +kernel
theorem dX8_is_40 : decode cX8_is 40 = .ok (.aload_n 1, 1) := by decide +kernel
theorem dX8_is_41 : decode cX8_is 41 = .ok (.invokevirtual 122, 3) := by decide +kernel
theorem dX8_is_44 : decode cX8_is 44 = .ok (.if_icmp .ge 38, 3) := by decide +kernel
theorem dX8_is_47 : decode cX8_is 47 = .ok (.iload_n 2, 1) := by decide +kernel
theorem dX8_is_48 : decode cX8_is 48 = .ok (.ifCond .eq 34, 3) := by decide +kernel
theorem dX8_is_51 : decode cX8_is 51 = .ok (.aload_n 0, 1) := by decide +kernel
theorem dX8_is_52 : decode cX8_is 52 = .ok (.getfield 24, 3) := by decide +kernel
theorem dX8_is_55 : decode cX8_is 55 = .ok (.aload_n 0, 1) := by decide +kernel
theorem dX8_is_56 : decode cX8_is 56 = .ok (.getfield 92, 3) := by decide +kernel
theorem dX8_is_59 : decode cX8_is 59 = .ok (.iload_n 3, 1) := by decide +kernel
theorem dX8_is_60 : decode cX8_is 60 = .ok (.iadd, 1) := by decide +kernel
theorem dX8_is_61 : decode cX8_is 61 = .ok (.baload, 1) := by decide +kernel
theorem dX8_is_62 : decode cX8_is 62 = .ok (.aload_n 1, 1) := by decide +kernel
theorem dX8_is_63 : decode cX8_is 63 = .ok (.iload_n 3, 1) := by decide +kernel
theorem dX8_is_64 : decode cX8_is 64 = .ok (.invokevirtual 128, 3) := by decide +kernel
theorem dX8_is_67 : decode cX8_is 67 = .ok (.if_icmp .ne 7, 3) := by decide +kernel
theorem dX8_is_70 : decode cX8_is 70 = .ok (.iconst 1, 1) := by decide +kernel
theorem dX8_is_71 : decode cX8_is 71 = .ok (.goto 4, 3) := by decide +kernel
theorem dX8_is_74 : decode cX8_is 74 = .ok (.iconst 0, 1) := by decide +kernel
theorem dX8_is_75 : decode cX8_is 75 = .ok (.istore_n 2, 1) := by decide +kernel
theorem dX8_is_76 : decode cX8_is 76 = .ok (.iinc 3 1, 3) := by decide +kernel
theorem dX8_is_79 : decode cX8_is 79 = .ok (.goto (-40), 3) := by decide +kernel
theorem dX8_is_82 : decode cX8_is 82 = .ok (.iload_n 2, 1) := by decide +kernel
theorem dX8_is_83 : decode cX8_is 83 = .ok (.ireturn, 1) := by decide +kernel
theorem dX8_takes_0 : decode cX8_takes 0 = .ok (.aload_n 0, 1) := by decide +kernel
theorem dX8_takes_1 : decode cX8_takes 1 = .ok (.aload_n 1, 1) := by decide +kernel
theorem dX8_takes_2 : decode cX8_takes 2 = .ok (.invokevirtual 132, 3) := by decide +kernel
theorem dX8_takes_5 : decode cX8_takes 5 = .ok (.istore_n 2, 1) := by decide +kernel
theorem dX8_takes_6 : decode cX8_takes 6 = .ok (.iload_n 2, 1) := by decide +kernel
theorem dX8_takes_7 : decode cX8_takes 7 = .ok (.ifCond .eq 7, 3) := by decide +kernel
theorem dX8_takes_10 : decode cX8_takes 10 = .ok (.aload_n 0, 1) := by decide +kernel
theorem dX8_takes_11 : decode cX8_takes 11 = .ok (.invokevirtual 136, 3) := by decide +kernel
theorem dX8_takes_14 : decode cX8_takes 14 = .ok (.iload_n 2, 1) := by decide +kernel
theorem dX8_takes_15 : decode cX8_takes 15 = .ok (.ireturn, 1) := by decide +kernel
theorem dX8_needs_0 : decode cX8_needs 0 = .ok (.aload_n 0, 1) := by decide +kernel
theorem dX8_needs_1 : decode cX8_needs 1 = .ok (.aload_n 1, 1) := by decide +kernel
theorem dX8_needs_2 : decode cX8_needs 2 = .ok (.invokevirtual 139, 3) := by decide +kernel
theorem dX8_needs_5 : decode cX8_needs 5 = .ok (.ifCond .ne 8, 3) := by decide +kernel
theorem dX8_needs_8 : decode cX8_needs 8 = .ok (.aload_n 0, 1) := by decide +kernel
theorem dX8_needs_9 : decode cX8_needs 9 = .ok (.iconst 1, 1) := by decide +kernel
theorem dX8_needs_10 : decode cX8_needs 10 = .ok (.invokevirtual 142, 3) := by decide +kernel
theorem dX8_needs_13 : decode cX8_needs 13 = .ok (.return_, 1) := by decide +kernel
theorem dX8_number_0 : decode cX8_number 0 = .ok (.aload_n 0, 1) := by decide +kernel
theorem dX8_number_1 : decode cX8_number 1 = .ok (.invokevirtual 118, 3) := by decide +kernel
theorem dX8_number_4 : decode cX8_number 4 = .ok (.ifCond .eq 16, 3) := by decide +kernel
theorem dX8_number_7 : decode cX8_number 7 = .ok (.aload_n 0, 1) := by decide +kernel
theorem dX8_number_8 : decode cX8_number 8 = .ok (.getfield 95, 3) := by decide +kernel
theorem dX8_number_11 : decode cX8_number 11 = .ok (.iconst 2, 1) := by decide +kernel
theorem dX8_number_12 : decode cX8_number 12 = .ok (.if_icmp .eq 8, 3) := by decide +kernel
theorem dX8_number_15 : decode cX8_number 15 = .ok (.aload_n 0, 1) := by decide +kernel
theorem dX8_number_16 : decode cX8_number 16 = .ok (.iconst 1, 1) := by decide +kernel
theorem dX8_number_17 : decode cX8_number 17 = .ok (.invokevirtual 142, 3) := by decide +kernel
theorem dX8_number_20 : decode cX8_number 20 = .ok (.aload_n 0, 1) := by decide +kernel
theorem dX8_number_21 : decode cX8_number 21 = .ok (.invokevirtual 118, 3) := by decide +kernel
theorem dX8_number_24 : decode cX8_number 24 = .ok (.ifCond .eq 23, 3) := by decide +kernel
theorem dX8_number_27 : decode cX8_number 27 = .ok (.aload_n 0, 1) := by decide +kernel
theorem dX8_number_28 : decode cX8_number 28 = .ok (.getfield 106, 3) := by decide +kernel
theorem dX8_number_31 : decode cX8_number 31 = .ok (.i2l, 1) := by decide +kernel
theorem dX8_number_32 : decode cX8_number 32 = .ok (.iload_n 1, 1) := by decide +kernel
theorem dX8_number_33 : decode cX8_number 33 = .ok (.i2l, 1) := by decide +kernel
theorem dX8_number_34 : decode cX8_number 34 = .ok (.iload_n 2, 1) := by decide +kernel
theorem dX8_number_35 : decode cX8_number 35 = .ok (.i2l, 1) := by decide +kernel
theorem dX8_number_36 : decode cX8_number 36 = .ok (.invokestatic 68, 3) := by decide +kernel
theorem dX8_number_39 : decode cX8_number 39 = .ok (.ifCond .ne 8, 3) := by decide +kernel
theorem dX8_number_42 : decode cX8_number 42 = .ok (.aload_n 0, 1) := by decide +kernel
theorem dX8_number_43 : decode cX8_number 43 = .ok (.iconst 2, 1) := by decide +kernel
theorem dX8_number_44 : decode cX8_number 44 = .ok (.invokevirtual 142, 3) := by decide +kernel
theorem dX8_number_47 : decode cX8_number 47 = .ok (.aload_n 0, 1) := by decide +kernel
theorem dX8_number_48 : decode cX8_number 48 = .ok (.invokevirtual 118, 3) := by decide +kernel
theorem dX8_number_51 : decode cX8_number 51 = .ok (.ifCond .ne 5, 3) := by decide +kernel
theorem dX8_number_54 : decode cX8_number 54 = .ok (.iconst 0, 1) := by decide +kernel
theorem dX8_number_55 : decode cX8_number 55 = .ok (.ireturn, 1) := by decide +kernel
theorem dX8_number_56 : decode cX8_number 56 = .ok (.aload_n 0, 1) := by decide +kernel
theorem dX8_number_57 : decode cX8_number 57 = .ok (.getfield 106, 3) := by decide +kernel
theorem dX8_number_60 : decode cX8_number 60 = .ok (.istore_n 3, 1) := by decide +kernel
theorem dX8_number_61 : decode cX8_number 61 = .ok (.aload_n 0, 1) := by decide +kernel
theorem dX8_number_62 : decode cX8_number 62 = .ok (.invokevirtual 136, 3) := by decide +kernel
theorem dX8_number_65 : decode cX8_number 65 = .ok (.iload_n 3, 1) := by decide +kernel
theorem dX8_number_66 : decode cX8_number 66 = .ok (.ireturn, 1) := by decide +kernel
theorem dX8_told_0 : decode cX8_told 0 = .ok (.aload_n 0, 1) := by decide +kernel
theorem dX8_told_1 : decode cX8_told 1 = .ok (.aload_n 1, 1) := by decide +kernel
theorem dX8_told_2 : decode cX8_told 2 = .ok (.invokevirtual 146, 3) := by decide +kernel
theorem dX8_told_5 : decode cX8_told 5 = .ok (.aload_n 0, 1) := by decide +kernel
theorem dX8_told_6 : decode cX8_told 6 = .ok (.iload_n 2, 1) := by decide +kernel
theorem dX8_told_7 : decode cX8_told 7 = .ok (.iload_n 3, 1) := by decide +kernel
theorem dX8_told_8 : decode cX8_told 8 = .ok (.invokevirtual 150, 3) := by decide +kernel
theorem dX8_told_11 : decode cX8_told 11 = .ok (.ireturn, 1) := by decide +kernel
theorem dX8_fault_0 : decode cX8_fault 0 = .ok (.iload_n 1, 1) := by decide +kernel
theorem dX8_fault_1 : decode cX8_fault 1 = .ok (.ifCond .ne 10, 3) := by decide +kernel
theorem dX8_fault_4 : decode cX8_fault 4 = .ok (.aload_n 0, 1) := by decide +kernel
theorem dX8_fault_5 : decode cX8_fault 5 = .ok (.getfield 115, 3) := by decide +kernel
theorem dX8_fault_8 : decode cX8_fault 8 = .ok (.goto 16, 3) := by decide +kernel
theorem dX8_fault_11 : decode cX8_fault 11 = .ok (.iload_n 1, 1) := by decide +kernel
theorem dX8_fault_12 : decode cX8_fault 12 = .ok (.iconst 1, 1) := by decide +kernel
theorem dX8_fault_13 : decode cX8_fault 13 = .ok (.if_icmp .ne 10, 3) := by decide +kernel
theorem dX8_fault_16 : decode cX8_fault 16 = .ok (.aload_n 0, 1) := by decide +kernel
theorem dX8_fault_17 : decode cX8_fault 17 = .ok (.getfield 31, 3) := by decide +kernel
theorem dX8_fault_20 : decode cX8_fault 20 = .ok (.goto 4, 3) := by decide +kernel
theorem dX8_fault_23 : decode cX8_fault 23 = .ok (.iconst (-1), 1) := by decide +kernel
theorem dX8_fault_24 : decode cX8_fault 24 = .ok (.ireturn, 1) := by decide +kernel
theorem dX8_readSquare_0 : decode cX8_readSquare 0 = .ok (.aload_n 0, 1) := by decide +kernel
theorem dX8_readSquare_1 : decode cX8_readSquare 1 = .ok (.ldc 153, 2) := by decide +kernel
theorem dX8_readSquare_3 : decode cX8_readSquare 3 = .ok (.invokevirtual 146, 3) := by decide +kernel
theorem dX8_readSquare_6 : decode cX8_readSquare 6 = .ok (.aload_n 0, 1) := by decide +kernel
theorem dX8_readSquare_7 : decode cX8_readSquare 7 = .ok (.getfield 34, 3) := by decide +kernel
theorem dX8_readSquare_10 : decode cX8_readSquare 10 = .ok (.iconst 1, 1) := by decide +kernel
theorem dX8_readSquare_11 : decode cX8_readSquare 11 = .ok (.aload_n 0, 1) := by decide +kernel
theorem dX8_readSquare_12 : decode cX8_readSquare 12 = .ok (.ldc 155, 2) := by decide +kernel
theorem dX8_readSquare_14 : decode cX8_readSquare 14 = .ok (.iconst 5, 1) := by decide +kernel
theorem dX8_readSquare_15 : decode cX8_readSquare 15 = .ok (.bipush 30, 2) := by decide +kernel
theorem dX8_readSquare_17 : decode cX8_readSquare 17 = .ok (.invokevirtual 157, 3) := by decide +kernel
theorem dX8_readSquare_20 : decode cX8_readSquare 20 = .ok (.iastore, 1) := by decide +kernel
theorem dX8_readSquare_21 : decode cX8_readSquare 21 = .ok (.aload_n 0, 1) := by decide +kernel
theorem dX8_readSquare_22 : decode cX8_readSquare 22 = .ok (.getfield 34, 3) := by decide +kernel
theorem dX8_readSquare_25 : decode cX8_readSquare 25 = .ok (.iconst 2, 1) := by decide +kernel
theorem dX8_readSquare_26 : decode cX8_readSquare 26 = .ok (.aload_n 0, 1) := by decide +kernel
theorem dX8_readSquare_27 : decode cX8_readSquare 27 = .ok (.ldc 161, 2) := by decide +kernel
theorem dX8_readSquare_29 : decode cX8_readSquare 29 = .ok (.iconst 5, 1) := by decide +kernel
theorem dX8_readSquare_30 : decode cX8_readSquare 30 = .ok (.bipush 30, 2) := by decide +kernel
theorem dX8_readSquare_32 : decode cX8_readSquare 32 = .ok (.invokevirtual 157, 3) := by decide +kernel
theorem dX8_readSquare_35 : decode cX8_readSquare 35 = .ok (.iastore, 1) := by decide +kernel
theorem dX8_readSquare_36 : decode cX8_readSquare 36 = .ok (.aload_n 0, 1) := by decide +kernel
theorem dX8_readSquare_37 : decode cX8_readSquare 37 = .ok (.getfield 34, 3) := by decide +kernel
theorem dX8_readSquare_40 : decode cX8_readSquare 40 = .ok (.iconst 3, 1) := by decide +kernel
theorem dX8_readSquare_41 : decode cX8_readSquare 41 = .ok (.aload_n 0, 1) := by decide +kernel
theorem dX8_readSquare_42 : decode cX8_readSquare 42 = .ok (.getfield 34, 3) := by decide +kernel
theorem dX8_readSquare_45 : decode cX8_readSquare 45 = .ok (.iconst 1, 1) := by decide +kernel
theorem dX8_readSquare_46 : decode cX8_readSquare 46 = .ok (.iaload, 1) := by decide +kernel
theorem dX8_readSquare_47 : decode cX8_readSquare 47 = .ok (.iconst 2, 1) := by decide +kernel
theorem dX8_readSquare_48 : decode cX8_readSquare 48 = .ok (.idiv, 1) := by decide +kernel
theorem dX8_readSquare_49 : decode cX8_readSquare 49 = .ok (.iastore, 1) := by decide +kernel
theorem dX8_readSquare_50 : decode cX8_readSquare 50 = .ok (.aload_n 0, 1) := by decide +kernel
theorem dX8_readSquare_51 : decode cX8_readSquare 51 = .ok (.getfield 34, 3) := by decide +kernel
theorem dX8_readSquare_54 : decode cX8_readSquare 54 = .ok (.iconst 4, 1) := by decide +kernel
theorem dX8_readSquare_55 : decode cX8_readSquare 55 = .ok (.aload_n 0, 1) := by decide +kernel
theorem dX8_readSquare_56 : decode cX8_readSquare 56 = .ok (.getfield 34, 3) := by decide +kernel
theorem dX8_readSquare_59 : decode cX8_readSquare 59 = .ok (.iconst 2, 1) := by decide +kernel
theorem dX8_readSquare_60 : decode cX8_readSquare 60 = .ok (.iaload, 1) := by decide +kernel
theorem dX8_readSquare_61 : decode cX8_readSquare 61 = .ok (.iconst 2, 1) := by decide +kernel
theorem dX8_readSquare_62 : decode cX8_readSquare 62 = .ok (.idiv, 1) := by decide +kernel
theorem dX8_readSquare_63 : decode cX8_readSquare 63 = .ok (.iastore, 1) := by decide +kernel
theorem dX8_readSquare_64 : decode cX8_readSquare 64 = .ok (.aload_n 0, 1) := by decide +kernel
theorem dX8_readSquare_65 : decode cX8_readSquare 65 = .ok (.getfield 34, 3) := by decide +kernel
theorem dX8_readSquare_68 : decode cX8_readSquare 68 = .ok (.iconst 5, 1) := by decide +kernel
theorem dX8_readSquare_69 : decode cX8_readSquare 69 = .ok (.iconst 1, 1) := by decide +kernel
theorem dX8_readSquare_70 : decode cX8_readSquare 70 = .ok (.iastore, 1) := by decide +kernel
theorem dX8_readSquare_71 : decode cX8_readSquare 71 = .ok (.aload_n 0, 1) := by decide +kernel
theorem dX8_readSquare_72 : decode cX8_readSquare 72 = .ok (.getfield 34, 3) := by decide +kernel
theorem dX8_readSquare_75 : decode cX8_readSquare 75 = .ok (.bipush 6, 2) := by decide +kernel
theorem dX8_readSquare_77 : decode cX8_readSquare 77 = .ok (.bipush 30, 2) := by decide +kernel
theorem dX8_readSquare_79 : decode cX8_readSquare 79 = .ok (.iastore, 1) := by decide +kernel
theorem dX8_readSquare_80 : decode cX8_readSquare 80 = .ok (.aload_n 0, 1) := by decide +kernel
theorem dX8_readSquare_81 : decode cX8_readSquare 81 = .ok (.getfield 34, 3) := by decide +kernel
theorem dX8_readSquare_84 : decode cX8_readSquare 84 = .ok (.bipush 9, 2) := by decide +kernel
theorem dX8_readSquare_86 : decode cX8_readSquare 86 = .ok (.bipush 60, 2) := by decide +kernel
theorem dX8_readSquare_88 : decode cX8_readSquare 88 = .ok (.iastore, 1) := by decide +kernel
theorem dX8_readSquare_89 : decode cX8_readSquare 89 = .ok (.return_, 1) := by decide +kernel
theorem dX8_readJet_0 : decode cX8_readJet 0 = .ok (.aload_n 0, 1) := by decide +kernel
theorem dX8_readJet_1 : decode cX8_readJet 1 = .ok (.getfield 34, 3) := by decide +kernel
theorem dX8_readJet_4 : decode cX8_readJet 4 = .ok (.bipush 13, 2) := by decide +kernel
theorem dX8_readJet_6 : decode cX8_readJet 6 = .ok (.dup2, 1) := by decide +kernel
theorem dX8_readJet_7 : decode cX8_readJet 7 = .ok (.iaload, 1) := by decide +kernel
theorem dX8_readJet_8 : decode cX8_readJet 8 = .ok (.iconst 1, 1) := by decide +kernel
theorem dX8_readJet_9 : decode cX8_readJet 9 = .ok (.ior, 1) := by decide +kernel
theorem dX8_readJet_10 : decode cX8_readJet 10 = .ok (.iastore, 1) := by decide +kernel
theorem dX8_readJet_11 : decode cX8_readJet 11 = .ok (.aload_n 0, 1) := by decide +kernel
theorem dX8_readJet_12 : decode cX8_readJet 12 = .ok (.getfield 34, 3) := by decide +kernel
theorem dX8_readJet_15 : decode cX8_readJet 15 = .ok (.iconst 3, 1) := by decide +kernel
theorem dX8_readJet_16 : decode cX8_readJet 16 = .ok (.aload_n 0, 1) := by decide +kernel
theorem dX8_readJet_17 : decode cX8_readJet 17 = .ok (.ldc 163, 2) := by decide +kernel
theorem dX8_readJet_19 : decode cX8_readJet 19 = .ok (.iconst 0, 1) := by decide +kernel
theorem dX8_readJet_20 : decode cX8_readJet 20 = .ok (.aload_n 0, 1) := by decide +kernel
theorem dX8_readJet_21 : decode cX8_readJet 21 = .ok (.getfield 34, 3) := by decide +kernel
theorem dX8_readJet_24 : decode cX8_readJet 24 = .ok (.iconst 1, 1) := by decide +kernel
theorem dX8_readJet_25 : decode cX8_readJet 25 = .ok (.iaload, 1) := by decide +kernel
theorem dX8_readJet_26 : decode cX8_readJet 26 = .ok (.iconst 1, 1) := by decide +kernel
theorem dX8_readJet_27 : decode cX8_readJet 27 = .ok (.isub, 1) := by decide +kernel
theorem dX8_readJet_28 : decode cX8_readJet 28 = .ok (.invokevirtual 157, 3) := by decide +kernel
theorem dX8_readJet_31 : decode cX8_readJet 31 = .ok (.iastore, 1) := by decide +kernel
theorem dX8_readJet_32 : decode cX8_readJet 32 = .ok (.aload_n 0, 1) := by decide +kernel
theorem dX8_readJet_33 : decode cX8_readJet 33 = .ok (.getfield 34, 3) := by decide +kernel
theorem dX8_readJet_36 : decode cX8_readJet 36 = .ok (.iconst 4, 1) := by decide +kernel
theorem dX8_readJet_37 : decode cX8_readJet 37 = .ok (.aload_n 0, 1) := by decide +kernel
theorem dX8_readJet_38 : decode cX8_readJet 38 = .ok (.iconst 0, 1) := by decide +kernel
theorem dX8_readJet_39 : decode cX8_readJet 39 = .ok (.aload_n 0, 1) := by decide +kernel
theorem dX8_readJet_40 : decode cX8_readJet 40 = .ok (.getfield 34, 3) := by decide +kernel
theorem dX8_readJet_43 : decode cX8_readJet 43 = .ok (.iconst 2, 1) := by decide +kernel
theorem dX8_readJet_44 : decode cX8_readJet 44 = .ok (.iaload, 1) := by decide +kernel
theorem dX8_readJet_45 : decode cX8_readJet 45 = .ok (.iconst 1, 1) := by decide +kernel
theorem dX8_readJet_46 : decode cX8_readJet 46 = .ok (.isub, 1) := by decide +kernel
theorem dX8_readJet_47 : decode cX8_readJet 47 = .ok (.invokevirtual 150, 3) := by decide +kernel
theorem dX8_readJet_50 : decode cX8_readJet 50 = .ok (.iastore, 1) := by decide +kernel
theorem dX8_readJet_51 : decode cX8_readJet 51 = .ok (.aload_n 0, 1) := by decide +kernel
theorem dX8_readJet_52 : decode cX8_readJet 52 = .ok (.getfield 34, 3) := by decide +kernel
theorem dX8_readJet_55 : decode cX8_readJet 55 = .ok (.iconst 5, 1) := by decide +kernel
theorem dX8_readJet_56 : decode cX8_readJet 56 = .ok (.aload_n 0, 1) := by decide +kernel
theorem dX8_readJet_57 : decode cX8_readJet 57 = .ok (.ldc 164, 2) := by decide +kernel
theorem dX8_readJet_59 : decode cX8_readJet 59 = .ok (.iconst 0, 1) := by decide +kernel
theorem dX8_readJet_60 : decode cX8_readJet 60 = .ok (.bipush 9, 2) := by decide +kernel
theorem dX8_readJet_62 : decode cX8_readJet 62 = .ok (.invokevirtual 157, 3) := by decide +kernel
theorem dX8_readJet_65 : decode cX8_readJet 65 = .ok (.iastore, 1) := by decide +kernel
theorem dX8_readJet_66 : decode cX8_readJet 66 = .ok (.aload_n 0, 1) := by decide +kernel
theorem dX8_readJet_67 : decode cX8_readJet 67 = .ok (.getfield 34, 3) := by decide +kernel
theorem dX8_readJet_70 : decode cX8_readJet 70 = .ok (.bipush 6, 2) := by decide +kernel
theorem dX8_readJet_72 : decode cX8_readJet 72 = .ok (.aload_n 0, 1) := by decide +kernel
theorem dX8_readJet_73 : decode cX8_readJet 73 = .ok (.ldc 166, 2) := by decide +kernel
theorem dX8_readJet_75 : decode cX8_readJet 75 = .ok (.iconst 0, 1) := by decide +kernel
theorem dX8_readJet_76 : decode cX8_readJet 76 = .ok (.bipush 60, 2) := by decide +kernel
theorem dX8_readJet_78 : decode cX8_readJet 78 = .ok (.invokevirtual 157, 3) := by decide +kernel
theorem dX8_readJet_81 : decode cX8_readJet 81 = .ok (.iastore, 1) := by decide +kernel
theorem dX8_readJet_82 : decode cX8_readJet 82 = .ok (.return_, 1) := by decide +kernel
theorem dX8_readSize_0 : decode cX8_readSize 0 = .ok (.bipush 25, 2) := by decide +kernel
theorem dX8_readSize_2 : decode cX8_readSize 2 = .ok (.iconst 2, 1) := by decide +kernel
theorem dX8_readSize_3 : decode cX8_readSize 3 = .ok (.aload_n 0, 1) := by decide +kernel
theorem dX8_readSize_4 : decode cX8_readSize 4 = .ok (.getfield 34, 3) := by decide +kernel
theorem dX8_readSize_7 : decode cX8_readSize 7 = .ok (.bipush 10, 2) := by decide +kernel
theorem dX8_readSize_9 : decode cX8_readSize 9 = .ok (.iaload, 1) := by decide +kernel
theorem dX8_readSize_10 : decode cX8_readSize 10 = .ok (.imul, 1) := by decide +kernel
theorem dX8_readSize_11 : decode cX8_readSize 11 = .ok (.iadd, 1) := by decide +kernel
theorem dX8_readSize_12 : decode cX8_readSize 12 = .ok (.istore_n 1, 1) := by decide +kernel
theorem dX8_readSize_13 : decode cX8_readSize 13 = .ok (.aload_n 0, 1) := by decide +kernel
theorem dX8_readSize_14 : decode cX8_readSize 14 = .ok (.getfield 34, 3) := by decide +kernel
theorem dX8_readSize_17 : decode cX8_readSize 17 = .ok (.iload_n 1, 1) := by decide +kernel
theorem dX8_readSize_18 : decode cX8_readSize 18 = .ok (.aload_n 0, 1) := by decide +kernel
theorem dX8_readSize_19 : decode cX8_readSize 19 = .ok (.ldc 168, 2) := by decide +kernel
theorem dX8_readSize_21 : decode cX8_readSize 21 = .ok (.iconst 0, 1) := by decide +kernel
theorem dX8_readSize_22 : decode cX8_readSize 22 = .ok (.bipush 99, 2) := by decide +kernel
theorem dX8_readSize_24 : decode cX8_readSize 24 = .ok (.invokevirtual 157, 3) := by decide +kernel
theorem dX8_readSize_27 : decode cX8_readSize 27 = .ok (.iastore, 1) := by decide +kernel
theorem dX8_readSize_28 : decode cX8_readSize 28 = .ok (.aload_n 0, 1) := by decide +kernel
theorem dX8_readSize_29 : decode cX8_readSize 29 = .ok (.getfield 34, 3) := by decide +kernel
theorem dX8_readSize_32 : decode cX8_readSize 32 = .ok (.iload_n 1, 1) := by decide +kernel
theorem dX8_readSize_33 : decode cX8_readSize 33 = .ok (.iconst 1, 1) := by decide +kernel
theorem dX8_readSize_34 : decode cX8_readSize 34 = .ok (.iadd, 1) := by decide +kernel
theorem dX8_readSize_35 : decode cX8_readSize 35 = .ok (.aload_n 0, 1) := by decide +kernel
theorem dX8_readSize_36 : decode cX8_readSize 36 = .ok (.ldc 170, 2) := by decide +kernel
theorem dX8_readSize_38 : decode cX8_readSize 38 = .ok (.iconst 1, 1) := by decide +kernel
theorem dX8_readSize_39 : decode cX8_readSize 39 = .ok (.bipush 9, 2) := by decide +kernel
theorem dX8_readSize_41 : decode cX8_readSize 41 = .ok (.invokevirtual 157, 3) := by decide +kernel
theorem dX8_readSize_44 : decode cX8_readSize 44 = .ok (.iastore, 1) := by decide +kernel
theorem dX8_readSize_45 : decode cX8_readSize 45 = .ok (.aload_n 0, 1) := by decide +kernel
theorem dX8_readSize_46 : decode cX8_readSize 46 = .ok (.getfield 34, 3) := by decide +kernel
theorem dX8_readSize_49 : decode cX8_readSize 49 = .ok (.bipush 10, 2) := by decide +kernel
theorem dX8_readSize_51 : decode cX8_readSize 51 = .ok (.dup2, 1) := by decide +kernel
theorem dX8_readSize_52 : decode cX8_readSize 52 = .ok (.iaload, 1) := by decide +kernel
theorem dX8_readSize_53 : decode cX8_readSize 53 = .ok (.iconst 1, 1) := by decide +kernel
theorem dX8_readSize_54 : decode cX8_readSize 54 = .ok (.iadd, 1) := by decide +kernel
theorem dX8_readSize_55 : decode cX8_readSize 55 = .ok (.iastore, 1) := by decide +kernel
theorem dX8_readSize_56 : decode cX8_readSize 56 = .ok (.return_, 1) := by decide +kernel
theorem dX8_readTable_0 : decode cX8_readTable 0 = .ok (.bipush 35, 2) := by decide +kernel
theorem dX8_readTable_2 : decode cX8_readTable 2 = .ok (.iconst 3, 1) := by decide +kernel
theorem dX8_readTable_3 : decode cX8_readTable 3 = .ok (.aload_n 0, 1) := by decide +kernel
theorem dX8_readTable_4 : decode cX8_readTable 4 = .ok (.getfield 34, 3) := by decide +kernel
theorem dX8_readTable_7 : decode cX8_readTable 7 = .ok (.bipush 11, 2) := by decide +kernel
theorem dX8_readTable_9 : decode cX8_readTable 9 = .ok (.iaload, 1) := by decide +kernel
theorem dX8_readTable_10 : decode cX8_readTable 10 = .ok (.imul, 1) := by decide +kernel
theorem dX8_readTable_11 : decode cX8_readTable 11 = .ok (.iadd, 1) := by decide +kernel
theorem dX8_readTable_12 : decode cX8_readTable 12 = .ok (.istore_n 1, 1) := by decide +kernel
theorem dX8_readTable_13 : decode cX8_readTable 13 = .ok (.aload_n 0, 1) := by decide +kernel
theorem dX8_readTable_14 : decode cX8_readTable 14 = .ok (.getfield 34, 3) := by decide +kernel
theorem dX8_readTable_17 : decode cX8_readTable 17 = .ok (.iload_n 1, 1) := by decide +kernel
theorem dX8_readTable_18 : decode cX8_readTable 18 = .ok (.aload_n 0, 1) := by decide +kernel
theorem dX8_readTable_19 : decode cX8_readTable 19 = .ok (.ldc 163, 2) := by decide +kernel
theorem dX8_readTable_21 : decode cX8_readTable 21 = .ok (.iconst 0, 1) := by decide +kernel
theorem dX8_readTable_22 : decode cX8_readTable 22 = .ok (.aload_n 0, 1) := by decide +kernel
theorem dX8_readTable_23 : decode cX8_readTable 23 = .ok (.getfield 34, 3) := by decide +kernel
theorem dX8_readTable_26 : decode cX8_readTable 26 = .ok (.iconst 1, 1) := by decide +kernel
theorem dX8_readTable_27 : decode cX8_readTable 27 = .ok (.iaload, 1) := by decide +kernel
theorem dX8_readTable_28 : decode cX8_readTable 28 = .ok (.iconst 1, 1) := by decide +kernel
theorem dX8_readTable_29 : decode cX8_readTable 29 = .ok (.isub, 1) := by decide +kernel
theorem dX8_readTable_30 : decode cX8_readTable 30 = .ok (.invokevirtual 157, 3) := by decide +kernel
theorem dX8_readTable_33 : decode cX8_readTable 33 = .ok (.iastore, 1) := by decide +kernel
theorem dX8_readTable_34 : decode cX8_readTable 34 = .ok (.aload_n 0, 1) := by decide +kernel
theorem dX8_readTable_35 : decode cX8_readTable 35 = .ok (.getfield 34, 3) := by decide +kernel
theorem dX8_readTable_38 : decode cX8_readTable 38 = .ok (.iload_n 1, 1) := by decide +kernel
theorem dX8_readTable_39 : decode cX8_readTable 39 = .ok (.iconst 1, 1) := by decide +kernel
theorem dX8_readTable_40 : decode cX8_readTable 40 = .ok (.iadd, 1) := by decide +kernel
theorem dX8_readTable_41 : decode cX8_readTable 41 = .ok (.aload_n 0, 1) := by decide +kernel
theorem dX8_readTable_42 : decode cX8_readTable 42 = .ok (.iconst 0, 1) := by decide +kernel
theorem dX8_readTable_43 : decode cX8_readTable 43 = .ok (.aload_n 0, 1) := by decide +kernel
theorem dX8_readTable_44 : decode cX8_readTable 44 = .ok (.getfield 34, 3) := by decide +kernel
theorem dX8_readTable_47 : decode cX8_readTable 47 = .ok (.iconst 2, 1) := by decide +kernel
theorem dX8_readTable_48 : decode cX8_readTable 48 = .ok (.iaload, 1) := by decide +kernel
theorem dX8_readTable_49 : decode cX8_readTable 49 = .ok (.iconst 1, 1) := by decide +kernel
theorem dX8_readTable_50 : decode cX8_readTable 50 = .ok (.isub, 1) := by decide +kernel
theorem dX8_readTable_51 : decode cX8_readTable 51 = .ok (.invokevirtual 150, 3) := by decide +kernel
theorem dX8_readTable_54 : decode cX8_readTable 54 = .ok (.iastore, 1) := by decide +kernel
theorem dX8_readTable_55 : decode cX8_readTable 55 = .ok (.aload_n 0, 1) := by decide +kernel
theorem dX8_readTable_56 : decode cX8_readTable 56 = .ok (.getfield 34, 3) := by decide +kernel
theorem dX8_readTable_59 : decode cX8_readTable 59 = .ok (.iload_n 1, 1) := by decide +kernel
theorem dX8_readTable_60 : decode cX8_readTable 60 = .ok (.iconst 2, 1) := by decide +kernel
theorem dX8_readTable_61 : decode cX8_readTable 61 = .ok (.iadd, 1) := by decide +kernel
theorem dX8_readTable_62 : decode cX8_readTable 62 = .ok (.aload_n 0, 1) := by decide +kernel
theorem dX8_readTable_63 : decode cX8_readTable 63 = .ok (.ldc 172, 2) := by decide +kernel
theorem dX8_readTable_65 : decode cX8_readTable 65 = .ok (.iconst 0, 1) := by decide +kernel
theorem dX8_readTable_66 : decode cX8_readTable 66 = .ok (.sipush 999, 3) := by decide +kernel
theorem dX8_readTable_69 : decode cX8_readTable 69 = .ok (.invokevirtual 157, 3) := by decide +kernel
theorem dX8_readTable_72 : decode cX8_readTable 72 = .ok (.iastore, 1) := by decide +kernel
theorem dX8_readTable_73 : decode cX8_readTable 73 = .ok (.aload_n 0, 1) := by decide +kernel
theorem dX8_readTable_74 : decode cX8_readTable 74 = .ok (.getfield 34, 3) := by decide +kernel
theorem dX8_readTable_77 : decode cX8_readTable 77 = .ok (.bipush 11, 2) := by decide +kernel
theorem dX8_readTable_79 : decode cX8_readTable 79 = .ok (.dup2, 1) := by decide +kernel
theorem dX8_readTable_80 : decode cX8_readTable 80 = .ok (.iaload, 1) := by decide +kernel
theorem dX8_readTable_81 : decode cX8_readTable 81 = .ok (.iconst 1, 1) := by decide +kernel
theorem dX8_readTable_82 : decode cX8_readTable 82 = .ok (.iadd, 1) := by decide +kernel
theorem dX8_readTable_83 : decode cX8_readTable 83 = .ok (.iastore, 1) := by decide +kernel
theorem dX8_readTable_84 : decode cX8_readTable 84 = .ok (.return_, 1) := by decide +kernel
theorem dX8_readRule_0 : decode cX8_readRule 0 = .ok (.bipush 59, 2) := by decide +kernel
theorem dX8_readRule_2 : decode cX8_readRule 2 = .ok (.iconst 2, 1) := by decide +kernel
theorem dX8_readRule_3 : decode cX8_readRule 3 = .ok (.aload_n 0, 1) := by decide +kernel
theorem dX8_readRule_4 : decode cX8_readRule 4 = .ok (.getfield 34, 3) := by decide +kernel
theorem dX8_readRule_7 : decode cX8_readRule 7 = .ok (.bipush 12, 2) := by decide +kernel
theorem dX8_readRule_9 : decode cX8_readRule 9 = .ok (.iaload, 1) := by decide +kernel
theorem dX8_readRule_10 : decode cX8_readRule 10 = .ok (.imul, 1) := by decide +kernel
theorem dX8_readRule_11 : decode cX8_readRule 11 = .ok (.iadd, 1) := by decide +kernel
theorem dX8_readRule_12 : decode cX8_readRule 12 = .ok (.istore_n 1, 1) := by decide +kernel
theorem dX8_readRule_13 : decode cX8_readRule 13 = .ok (.aload_n 0, 1) := by decide +kernel
theorem dX8_readRule_14 : decode cX8_readRule 14 = .ok (.getfield 34, 3) := by decide +kernel
theorem dX8_readRule_17 : decode cX8_readRule 17 = .ok (.iload_n 1, 1) := by decide +kernel
theorem dX8_readRule_18 : decode cX8_readRule 18 = .ok (.aload_n 0, 1) := by decide +kernel
theorem dX8_readRule_19 : decode cX8_readRule 19 = .ok (.ldc 174, 2) := by decide +kernel
theorem dX8_readRule_21 : decode cX8_readRule 21 = .ok (.aload_n 0, 1) := by decide +kernel
theorem dX8_readRule_22 : decode cX8_readRule 22 = .ok (.getfield 34, 3) := by decide +kernel
theorem dX8_readRule_25 : decode cX8_readRule 25 = .ok (.bipush 12, 2) := by decide +kernel
theorem dX8_readRule_27 : decode cX8_readRule 27 = .ok (.iaload, 1) := by decide +kernel
theorem dX8_readRule_28 : decode cX8_readRule 28 = .ok (.ifCond .ne 7, 3) := by decide +kernel
theorem dX8_readRule_31 : decode cX8_readRule 31 = .ok (.iconst 0, 1) := by decide +kernel
theorem dX8_readRule_32 : decode cX8_readRule 32 = .ok (.goto 13, 3) := by decide +kernel
theorem dX8_readRule_35 : decode cX8_readRule 35 = .ok (.aload_n 0, 1) := by decide +kernel
theorem dX8_readRule_36 : decode cX8_readRule 36 = .ok (.getfield 34, 3) := by decide +kernel
theorem dX8_readRule_39 : decode cX8_readRule 39 = .ok (.iload_n 1, 1) := by decide +kernel
theorem dX8_readRule_40 : decode cX8_readRule 40 = .ok (.iconst 2, 1) := by decide +kernel
theorem dX8_readRule_41 : decode cX8_readRule 41 = .ok (.isub, 1) := by decide +kernel
theorem dX8_readRule_42 : decode cX8_readRule 42 = .ok (.iaload, 1) := by decide +kernel
theorem dX8_readRule_43 : decode cX8_readRule 43 = .ok (.iconst 1, 1) := by decide +kernel
theorem dX8_readRule_44 : decode cX8_readRule 44 = .ok (.iadd, 1) := by decide +kernel
theorem dX8_readRule_45 : decode cX8_readRule 45 = .ok (.bipush 9, 2) := by decide +kernel
theorem dX8_readRule_47 : decode cX8_readRule 47 = .ok (.invokevirtual 157, 3) := by decide +kernel
theorem dX8_readRule_50 : decode cX8_readRule 50 = .ok (.iastore, 1) := by decide +kernel
theorem dX8_readRule_51 : decode cX8_readRule 51 = .ok (.aload_n 0, 1) := by decide +kernel
theorem dX8_readRule_52 : decode cX8_readRule 52 = .ok (.getfield 34, 3) := by decide +kernel
theorem dX8_readRule_55 : decode cX8_readRule 55 = .ok (.iload_n 1, 1) := by decide +kernel
theorem dX8_readRule_56 : decode cX8_readRule 56 = .ok (.iconst 1, 1) := by decide +kernel
theorem dX8_readRule_57 : decode cX8_readRule 57 = .ok (.iadd, 1) := by decide +kernel
theorem dX8_readRule_58 : decode cX8_readRule 58 = .ok (.aload_n 0, 1) := by decide +kernel
theorem dX8_readRule_59 : decode cX8_readRule 59 = .ok (.ldc 166, 2) := by decide +kernel
theorem dX8_readRule_61 : decode cX8_readRule 61 = .ok (.iconst 0, 1) := by decide +kernel
theorem dX8_readRule_62 : decode cX8_readRule 62 = .ok (.bipush 60, 2) := by decide +kernel
theorem dX8_readRule_64 : decode cX8_readRule 64 = .ok (.invokevirtual 157, 3) := by decide +kernel
theorem dX8_readRule_67 : decode cX8_readRule 67 = .ok (.iastore, 1) := by decide +kernel
theorem dX8_readRule_68 : decode cX8_readRule 68 = .ok (.aload_n 0, 1) := by decide +kernel
theorem dX8_readRule_69 : decode cX8_readRule 69 = .ok (.getfield 34, 3) := by decide +kernel
theorem dX8_readRule_72 : decode cX8_readRule 72 = .ok (.bipush 12, 2) := by decide +kernel
theorem dX8_readRule_74 : decode cX8_readRule 74 = .ok (.dup2, 1) := by decide +kernel
theorem dX8_readRule_75 : decode cX8_readRule 75 = .ok (.iaload, 1) := by decide +kernel
theorem dX8_readRule_76 : decode cX8_readRule 76 = .ok (.iconst 1, 1) := by decide +kernel
theorem dX8_readRule_77 : decode cX8_readRule 77 = .ok (.iadd, 1) := by decide +kernel
theorem dX8_readRule_78 : decode cX8_readRule 78 = .ok (.iastore, 1) := by decide +kernel
theorem dX8_readRule_79 : decode cX8_readRule 79 = .ok (.return_, 1) := by decide +kernel
theorem dX8_readNext_0 : decode cX8_readNext 0 = .ok (.aload_n 0, 1) := by decide +kernel
theorem dX8_readNext_1 : decode cX8_readNext 1 = .ok (.ldc 176, 2) := by decide +kernel
theorem dX8_readNext_3 : decode cX8_readNext 3 = .ok (.invokevirtual 132, 3) := by decide +kernel
theorem dX8_readNext_6 : decode cX8_readNext 6 = .ok (.ifCond .ne 48, 3) := by decide +kernel
theorem dX8_readNext_9 : decode cX8_readNext 9 = .ok (.aload_n 0, 1) := by decide +kernel
theorem dX8_readNext_10 : decode cX8_readNext 10 = .ok (.ldc 178, 2) := by decide +kernel
theorem dX8_readNext_12 : decode cX8_readNext 12 = .ok (.invokevirtual 132, 3) := by decide +kernel
theorem dX8_readNext_15 : decode cX8_readNext 15 = .ok (.ifCond .ne 39, 3) := by decide +kernel
theorem dX8_readNext_18 : decode cX8_readNext 18 = .ok (.aload_n 0, 1) := by decide +kernel
theorem dX8_readNext_19 : decode cX8_readNext 19 = .ok (.ldc 179, 2) := by decide +kernel
theorem dX8_readNext_21 : decode cX8_readNext 21 = .ok (.invokevirtual 132, 3) := by decide +kernel
theorem dX8_readNext_24 : decode cX8_readNext 24 = .ok (.ifCond .ne 30, 3) := by decide +kernel
theorem dX8_readNext_27 : decode cX8_readNext 27 = .ok (.aload_n 0, 1) := by decide +kernel
theorem dX8_readNext_28 : decode cX8_readNext 28 = .ok (.ldc 181, 2) := by decide +kernel
theorem dX8_readNext_30 : decode cX8_readNext 30 = .ok (.invokevirtual 132, 3) := by decide +kernel
theorem dX8_readNext_33 : decode cX8_readNext 33 = .ok (.ifCond .ne 21, 3) := by decide +kernel
theorem dX8_readNext_36 : decode cX8_readNext 36 = .ok (.aload_n 0, 1) := by decide +kernel
theorem dX8_readNext_37 : decode cX8_readNext 37 = .ok (.ldc 183, 2) := by decide +kernel
theorem dX8_readNext_39 : decode cX8_readNext 39 = .ok (.invokevirtual 132, 3) := by decide +kernel
theorem dX8_readNext_42 : decode cX8_readNext 42 = .ok (.ifCond .ne 12, 3) := by decide +kernel
theorem dX8_readNext_45 : decode cX8_readNext 45 = .ok (.aload_n 0, 1) := by decide +kernel
theorem dX8_readNext_46 : decode cX8_readNext 46 = .ok (.ldc 185, 2) := by decide +kernel
theorem dX8_readNext_48 : decode cX8_readNext 48 = .ok (.invokevirtual 132, 3) := by decide +kernel
theorem dX8_readNext_51 : decode cX8_readNext 51 = .ok (.ifCond .eq 7, 3) := by decide +kernel
theorem dX8_readNext_54 : decode cX8_readNext 54 = .ok (.iconst 1, 1) := by decide +kernel
theorem dX8_readNext_55 : decode cX8_readNext 55 = .ok (.goto 4, 3) := by decide +kernel
theorem dX8_readNext_58 : decode cX8_readNext 58 = .ok (.iconst 0, 1) := by decide +kernel
theorem dX8_readNext_59 : decode cX8_readNext 59 = .ok (.istore_n 1, 1) := by decide +kernel
theorem dX8_readNext_60 : decode cX8_readNext 60 = .ok (.iload_n 1, 1) := by decide +kernel
theorem dX8_readNext_61 : decode cX8_readNext 61 = .ok (.ifCond .ne 8, 3) := by decide +kernel
theorem dX8_readNext_64 : decode cX8_readNext 64 = .ok (.aload_n 0, 1) := by decide +kernel
theorem dX8_readNext_65 : decode cX8_readNext 65 = .ok (.iconst 1, 1) := by decide +kernel
theorem dX8_readNext_66 : decode cX8_readNext 66 = .ok (.invokevirtual 142, 3) := by decide +kernel
theorem dX8_readNext_69 : decode cX8_readNext 69 = .ok (.aload_n 0, 1) := by decide +kernel
theorem dX8_readNext_70 : decode cX8_readNext 70 = .ok (.ldc 176, 2) := by decide +kernel
theorem dX8_readNext_72 : decode cX8_readNext 72 = .ok (.invokevirtual 132, 3) := by decide +kernel
theorem dX8_readNext_75 : decode cX8_readNext 75 = .ok (.ifCond .eq 15, 3) := by decide +kernel
theorem dX8_readNext_78 : decode cX8_readNext 78 = .ok (.aload_n 0, 1) := by decide +kernel
theorem dX8_readNext_79 : decode cX8_readNext 79 = .ok (.getfield 34, 3) := by decide +kernel
theorem dX8_readNext_82 : decode cX8_readNext 82 = .ok (.bipush 13, 2) := by decide +kernel
theorem dX8_readNext_84 : decode cX8_readNext 84 = .ok (.iaload, 1) := by decide +kernel
theorem dX8_readNext_85 : decode cX8_readNext 85 = .ok (.iconst 1, 1) := by decide +kernel
theorem dX8_readNext_86 : decode cX8_readNext 86 = .ok (.iand, 1) := by decide +kernel
theorem dX8_readNext_87 : decode cX8_readNext 87 = .ok (.ifCond .gt 45, 3) := by decide +kernel
theorem dX8_readNext_90 : decode cX8_readNext 90 = .ok (.aload_n 0, 1) := by decide +kernel
theorem dX8_readNext_91 : decode cX8_readNext 91 = .ok (.ldc 181, 2) := by decide +kernel
theorem dX8_readNext_93 : decode cX8_readNext 93 = .ok (.invokevirtual 132, 3) := by decide +kernel
theorem dX8_readNext_96 : decode cX8_readNext 96 = .ok (.ifCond .eq 15, 3) := by decide +kernel
theorem dX8_readNext_99 : decode cX8_readNext 99 = .ok (.aload_n 0, 1) := by decide +kernel
theorem dX8_readNext_100 : decode cX8_readNext 100 = .ok (.getfield 34, 3) := by decide +kernel
theorem dX8_readNext_103 : decode cX8_readNext 103 = .ok (.bipush 13, 2) := by decide +kernel
theorem dX8_readNext_105 : decode cX8_readNext 105 = .ok (.iaload, 1) := by decide +kernel
theorem dX8_readNext_106 : decode cX8_readNext 106 = .ok (.iconst 2, 1) := by decide +kernel
theorem dX8_readNext_107 : decode cX8_readNext 107 = .ok (.iand, 1) := by decide +kernel
theorem dX8_readNext_108 : decode cX8_readNext 108 = .ok (.ifCond .gt 24, 3) := by decide +kernel
theorem dX8_readNext_111 : decode cX8_readNext 111 = .ok (.aload_n 0, 1) := by decide +kernel
theorem dX8_readNext_112 : decode cX8_readNext 112 = .ok (.ldc 183, 2) := by decide +kernel
theorem dX8_readNext_114 : decode cX8_readNext 114 = .ok (.invokevirtual 132, 3) := by decide +kernel
theorem dX8_readNext_117 : decode cX8_readNext 117 = .ok (.ifCond .eq 20, 3) := by decide +kernel
theorem dX8_readNext_120 : decode cX8_readNext 120 = .ok (.aload_n 0, 1) := by decide +kernel
theorem dX8_readNext_121 : decode cX8_readNext 121 = .ok (.getfield 34, 3) := by decide +kernel
theorem dX8_readNext_124 : decode cX8_readNext 124 = .ok (.bipush 13, 2) := by decide +kernel
theorem dX8_readNext_126 : decode cX8_readNext 126 = .ok (.iaload, 1) := by decide +kernel
theorem dX8_readNext_127 : decode cX8_readNext 127 = .ok (.iconst 4, 1) := by decide +kernel
theorem dX8_readNext_128 : decode cX8_readNext 128 = .ok (.iand, 1) := by decide +kernel
theorem dX8_readNext_129 : decode cX8_readNext 129 = .ok (.ifCond .le 8, 3) := by decide +kernel
theorem dX8_readNext_132 : decode cX8_readNext 132 = .ok (.aload_n 0, 1) := by decide +kernel
theorem dX8_readNext_133 : decode cX8_readNext 133 = .ok (.iconst 2, 1) := by decide +kernel
theorem dX8_readNext_134 : decode cX8_readNext 134 = .ok (.invokevirtual 142, 3) := by decide +kernel
theorem dX8_readNext_137 : decode cX8_readNext 137 = .ok (.aload_n 0, 1) := by decide +kernel
theorem dX8_readNext_138 : decode cX8_readNext 138 = .ok (.ldc 178, 2) := by decide +kernel
theorem dX8_readNext_140 : decode cX8_readNext 140 = .ok (.invokevirtual 132, 3) := by decide +kernel
theorem dX8_readNext_143 : decode cX8_readNext 143 = .ok (.ifCond .eq 14, 3) := by decide +kernel
theorem dX8_readNext_146 : decode cX8_readNext 146 = .ok (.aload_n 0, 1) := by decide +kernel
theorem dX8_readNext_147 : decode cX8_readNext 147 = .ok (.getfield 34, 3) := by decide +kernel
theorem dX8_readNext_150 : decode cX8_readNext 150 = .ok (.bipush 10, 2) := by decide +kernel
theorem dX8_readNext_152 : decode cX8_readNext 152 = .ok (.iaload, 1) := by decide +kernel
theorem dX8_readNext_153 : decode cX8_readNext 153 = .ok (.iconst 5, 1) := by decide +kernel
theorem dX8_readNext_154 : decode cX8_readNext 154 = .ok (.if_icmp .eq 45, 3) := by decide +kernel
theorem dX8_readNext_157 : decode cX8_readNext 157 = .ok (.aload_n 0, 1) := by decide +kernel
theorem dX8_readNext_158 : decode cX8_readNext 158 = .ok (.ldc 179, 2) := by decide +kernel
theorem dX8_readNext_160 : decode cX8_readNext 160 = .ok (.invokevirtual 132, 3) := by decide +kernel
theorem dX8_readNext_163 : decode cX8_readNext 163 = .ok (.ifCond .eq 15, 3) := by decide +kernel
theorem dX8_readNext_166 : decode cX8_readNext 166 = .ok (.aload_n 0, 1) := by decide +kernel
theorem dX8_readNext_167 : decode cX8_readNext 167 = .ok (.getfield 34, 3) := by decide +kernel
theorem dX8_readNext_170 : decode cX8_readNext 170 = .ok (.bipush 11, 2) := by decide +kernel
theorem dX8_readNext_172 : decode cX8_readNext 172 = .ok (.iaload, 1) := by decide +kernel
theorem dX8_readNext_173 : decode cX8_readNext 173 = .ok (.bipush 8, 2) := by decide +kernel
theorem dX8_readNext_175 : decode cX8_readNext 175 = .ok (.if_icmp .eq 24, 3) := by decide +kernel
theorem dX8_readNext_178 : decode cX8_readNext 178 = .ok (.aload_n 0, 1) := by decide +kernel
theorem dX8_readNext_179 : decode cX8_readNext 179 = .ok (.ldc 185, 2) := by decide +kernel
theorem dX8_readNext_181 : decode cX8_readNext 181 = .ok (.invokevirtual 132, 3) := by decide +kernel
theorem dX8_readNext_184 : decode cX8_readNext 184 = .ok (.ifCond .eq 20, 3) := by decide +kernel
theorem dX8_readNext_187 : decode cX8_readNext 187 = .ok (.aload_n 0, 1) := by decide +kernel
theorem dX8_readNext_188 : decode cX8_readNext 188 = .ok (.getfield 34, 3) := by decide +kernel
theorem dX8_readNext_191 : decode cX8_readNext 191 = .ok (.bipush 12, 2) := by decide +kernel
theorem dX8_readNext_193 : decode cX8_readNext 193 = .ok (.iaload, 1) := by decide +kernel
theorem dX8_readNext_194 : decode cX8_readNext 194 = .ok (.bipush 6, 2) := by decide +kernel
theorem dX8_readNext_196 : decode cX8_readNext 196 = .ok (.if_icmp .ne 8, 3) := by decide +kernel
theorem dX8_readNext_199 : decode cX8_readNext 199 = .ok (.aload_n 0, 1) := by decide +kernel
theorem dX8_readNext_200 : decode cX8_readNext 200 = .ok (.iconst 3, 1) := by decide +kernel
theorem dX8_readNext_201 : decode cX8_readNext 201 = .ok (.invokevirtual 142, 3) := by decide +kernel
theorem dX8_readNext_204 : decode cX8_readNext 204 = .ok (.aload_n 0, 1) := by decide +kernel
theorem dX8_readNext_205 : decode cX8_readNext 205 = .ok (.invokevirtual 118, 3) := by decide +kernel
theorem dX8_readNext_208 : decode cX8_readNext 208 = .ok (.ifCond .ne 4, 3) := by decide +kernel
theorem dX8_readNext_211 : decode cX8_readNext 211 = .ok (.return_, 1) := by decide +kernel
theorem dX8_readNext_212 : decode cX8_readNext 212 = .ok (.aload_n 0, 1) := by decide +kernel
theorem dX8_readNext_213 : decode cX8_readNext 213 = .ok (.ldc 176, 2) := by decide +kernel
theorem dX8_readNext_215 : decode cX8_readNext 215 = .ok (.invokevirtual 139, 3) := by decide +kernel
theorem dX8_readNext_218 : decode cX8_readNext 218 = .ok (.ifCond .eq 10, 3) := by decide +kernel
theorem dX8_readNext_221 : decode cX8_readNext 221 = .ok (.aload_n 0, 1) := by decide +kernel
theorem dX8_readNext_222 : decode cX8_readNext 222 = .ok (.invokevirtual 187, 3) := by decide +kernel
theorem dX8_readNext_225 : decode cX8_readNext 225 = .ok (.goto 141, 3) := by decide +kernel
theorem dX8_readNext_228 : decode cX8_readNext 228 = .ok (.aload_n 0, 1) := by decide +kernel
theorem dX8_readNext_229 : decode cX8_readNext 229 = .ok (.ldc 178, 2) := by decide +kernel
theorem dX8_readNext_231 : decode cX8_readNext 231 = .ok (.invokevirtual 139, 3) := by decide +kernel
theorem dX8_readNext_234 : decode cX8_readNext 234 = .ok (.ifCond .eq 10, 3) := by decide +kernel
theorem dX8_readNext_237 : decode cX8_readNext 237 = .ok (.aload_n 0, 1) := by decide +kernel
theorem dX8_readNext_238 : decode cX8_readNext 238 = .ok (.invokevirtual 190, 3) := by decide +kernel
theorem dX8_readNext_241 : decode cX8_readNext 241 = .ok (.goto 125, 3) := by decide +kernel
theorem dX8_readNext_244 : decode cX8_readNext 244 = .ok (.aload_n 0, 1) := by decide +kernel
theorem dX8_readNext_245 : decode cX8_readNext 245 = .ok (.ldc 179, 2) := by decide +kernel
theorem dX8_readNext_247 : decode cX8_readNext 247 = .ok (.invokevirtual 139, 3) := by decide +kernel
theorem dX8_readNext_250 : decode cX8_readNext 250 = .ok (.ifCond .eq 10, 3) := by decide +kernel
theorem dX8_readNext_253 : decode cX8_readNext 253 = .ok (.aload_n 0, 1) := by decide +kernel
theorem dX8_readNext_254 : decode cX8_readNext 254 = .ok (.invokevirtual 193, 3) := by decide +kernel
theorem dX8_readNext_257 : decode cX8_readNext 257 = .ok (.goto 109, 3) := by decide +kernel
theorem dX8_readNext_260 : decode cX8_readNext 260 = .ok (.aload_n 0, 1) := by decide +kernel
theorem dX8_readNext_261 : decode cX8_readNext 261 = .ok (.ldc 185, 2) := by decide +kernel
theorem dX8_readNext_263 : decode cX8_readNext 263 = .ok (.invokevirtual 139, 3) := by decide +kernel
theorem dX8_readNext_266 : decode cX8_readNext 266 = .ok (.ifCond .eq 10, 3) := by decide +kernel
theorem dX8_readNext_269 : decode cX8_readNext 269 = .ok (.aload_n 0, 1) := by decide +kernel
theorem dX8_readNext_270 : decode cX8_readNext 270 = .ok (.invokevirtual 196, 3) := by decide +kernel
theorem dX8_readNext_273 : decode cX8_readNext 273 = .ok (.goto 93, 3) := by decide +kernel
theorem dX8_readNext_276 : decode cX8_readNext 276 = .ok (.aload_n 0, 1) := by decide +kernel
theorem dX8_readNext_277 : decode cX8_readNext 277 = .ok (.ldc 181, 2) := by decide +kernel
theorem dX8_readNext_279 : decode cX8_readNext 279 = .ok (.invokevirtual 139, 3) := by decide +kernel
theorem dX8_readNext_282 : decode cX8_readNext 282 = .ok (.ifCond .eq 37, 3) := by decide +kernel
theorem dX8_readNext_285 : decode cX8_readNext 285 = .ok (.aload_n 0, 1) := by decide +kernel
theorem dX8_readNext_286 : decode cX8_readNext 286 = .ok (.getfield 34, 3) := by decide +kernel
theorem dX8_readNext_289 : decode cX8_readNext 289 = .ok (.bipush 13, 2) := by decide +kernel
theorem dX8_readNext_291 : decode cX8_readNext 291 = .ok (.dup2, 1) := by decide +kernel
theorem dX8_readNext_292 : decode cX8_readNext 292 = .ok (.iaload, 1) := by decide +kernel
theorem dX8_readNext_293 : decode cX8_readNext 293 = .ok (.iconst 2, 1) := by decide +kernel
theorem dX8_readNext_294 : decode cX8_readNext 294 = .ok (.ior, 1) := by decide +kernel
theorem dX8_readNext_295 : decode cX8_readNext 295 = .ok (.iastore, 1) := by decide +kernel
theorem dX8_readNext_296 : decode cX8_readNext 296 = .ok (.aload_n 0, 1) := by decide +kernel
theorem dX8_readNext_297 : decode cX8_readNext 297 = .ok (.getfield 34, 3) := by decide +kernel
theorem dX8_readNext_300 : decode cX8_readNext 300 = .ok (.bipush 7, 2) := by decide +kernel
theorem dX8_readNext_302 : decode cX8_readNext 302 = .ok (.aload_n 0, 1) := by decide +kernel
theorem dX8_readNext_303 : decode cX8_readNext 303 = .ok (.iconst 0, 1) := by decide +kernel
theorem dX8_readNext_304 : decode cX8_readNext 304 = .ok (.aload_n 0, 1) := by decide +kernel
theorem dX8_readNext_305 : decode cX8_readNext 305 = .ok (.getfield 34, 3) := by decide +kernel
theorem dX8_readNext_308 : decode cX8_readNext 308 = .ok (.iconst 2, 1) := by decide +kernel
theorem dX8_readNext_309 : decode cX8_readNext 309 = .ok (.iaload, 1) := by decide +kernel
theorem dX8_readNext_310 : decode cX8_readNext 310 = .ok (.iconst 1, 1) := by decide +kernel
theorem dX8_readNext_311 : decode cX8_readNext 311 = .ok (.isub, 1) := by decide +kernel
theorem dX8_readNext_312 : decode cX8_readNext 312 = .ok (.invokevirtual 150, 3) := by decide +kernel
theorem dX8_readNext_315 : decode cX8_readNext 315 = .ok (.iastore, 1) := by decide +kernel
theorem dX8_readNext_316 : decode cX8_readNext 316 = .ok (.goto 50, 3) := by decide +kernel
theorem dX8_readNext_319 : decode cX8_readNext 319 = .ok (.aload_n 0, 1) := by decide +kernel
theorem dX8_readNext_320 : decode cX8_readNext 320 = .ok (.invokevirtual 136, 3) := by decide +kernel
theorem dX8_readNext_323 : decode cX8_readNext 323 = .ok (.aload_n 0, 1) := by decide +kernel
theorem dX8_readNext_324 : decode cX8_readNext 324 = .ok (.getfield 34, 3) := by decide +kernel
theorem dX8_readNext_327 : decode cX8_readNext 327 = .ok (.bipush 13, 2) := by decide +kernel
theorem dX8_readNext_329 : decode cX8_readNext 329 = .ok (.dup2, 1) := by decide +kernel
theorem dX8_readNext_330 : decode cX8_readNext 330 = .ok (.iaload, 1) := by decide +kernel
theorem dX8_readNext_331 : decode cX8_readNext 331 = .ok (.iconst 4, 1) := by decide +kernel
theorem dX8_readNext_332 : decode cX8_readNext 332 = .ok (.ior, 1) := by decide +kernel
theorem dX8_readNext_333 : decode cX8_readNext 333 = .ok (.iastore, 1) := by decide +kernel
theorem dX8_readNext_334 : decode cX8_readNext 334 = .ok (.aload_n 0, 1) := by decide +kernel
theorem dX8_readNext_335 : decode cX8_readNext 335 = .ok (.getfield 34, 3) := by decide +kernel
theorem dX8_readNext_338 : decode cX8_readNext 338 = .ok (.bipush 8, 2) := by decide +kernel
theorem dX8_readNext_340 : decode cX8_readNext 340 = .ok (.aload_n 0, 1) := by decide +kernel
theorem dX8_readNext_341 : decode cX8_readNext 341 = .ok (.ldc 199, 2) := by decide +kernel
theorem dX8_readNext_343 : decode cX8_readNext 343 = .ok (.iconst 0, 1) := by decide +kernel
theorem dX8_readNext_344 : decode cX8_readNext 344 = .ok (.bipush 20, 2) := by decide +kernel
theorem dX8_readNext_346 : decode cX8_readNext 346 = .ok (.invokevirtual 157, 3) := by decide +kernel
theorem dX8_readNext_349 : decode cX8_readNext 349 = .ok (.iastore, 1) := by decide +kernel
theorem dX8_readNext_350 : decode cX8_readNext 350 = .ok (.aload_n 0, 1) := by decide +kernel
theorem dX8_readNext_351 : decode cX8_readNext 351 = .ok (.getfield 34, 3) := by decide +kernel
theorem dX8_readNext_354 : decode cX8_readNext 354 = .ok (.bipush 9, 2) := by decide +kernel
theorem dX8_readNext_356 : decode cX8_readNext 356 = .ok (.aload_n 0, 1) := by decide +kernel
theorem dX8_readNext_357 : decode cX8_readNext 357 = .ok (.ldc 201, 2) := by decide +kernel
theorem dX8_readNext_359 : decode cX8_readNext 359 = .ok (.iconst 1, 1) := by decide +kernel
theorem dX8_readNext_360 : decode cX8_readNext 360 = .ok (.bipush 60, 2) := by decide +kernel
theorem dX8_readNext_362 : decode cX8_readNext 362 = .ok (.invokevirtual 157, 3) := by decide +kernel
theorem dX8_readNext_365 : decode cX8_readNext 365 = .ok (.iastore, 1) := by decide +kernel
theorem dX8_readNext_366 : decode cX8_readNext 366 = .ok (.return_, 1) := by decide +kernel
theorem dX8_readLine_0 : decode cX8_readLine 0 = .ok (.aload_n 0, 1) := by decide +kernel
theorem dX8_readLine_1 : decode cX8_readLine 1 = .ok (.getfield 34, 3) := by decide +kernel
theorem dX8_readLine_4 : decode cX8_readLine 4 = .ok (.iconst 0, 1) := by decide +kernel
theorem dX8_readLine_5 : decode cX8_readLine 5 = .ok (.iaload, 1) := by decide +kernel
theorem dX8_readLine_6 : decode cX8_readLine 6 = .ok (.ifCond .ne 10, 3) := by decide +kernel
theorem dX8_readLine_9 : decode cX8_readLine 9 = .ok (.aload_n 0, 1) := by decide +kernel
theorem dX8_readLine_10 : decode cX8_readLine 10 = .ok (.invokevirtual 203, 3) := by decide +kernel
theorem dX8_readLine_13 : decode cX8_readLine 13 = .ok (.goto 7, 3) := by decide +kernel
theorem dX8_readLine_16 : decode cX8_readLine 16 = .ok (.aload_n 0, 1) := by decide +kernel
theorem dX8_readLine_17 : decode cX8_readLine 17 = .ok (.invokevirtual 206, 3) := by decide +kernel
theorem dX8_readLine_20 : decode cX8_readLine 20 = .ok (.aload_n 0, 1) := by decide +kernel
theorem dX8_readLine_21 : decode cX8_readLine 21 = .ok (.invokevirtual 118, 3) := by decide +kernel
theorem dX8_readLine_24 : decode cX8_readLine 24 = .ok (.ifCond .eq 16, 3) := by decide +kernel
theorem dX8_readLine_27 : decode cX8_readLine 27 = .ok (.aload_n 0, 1) := by decide +kernel
theorem dX8_readLine_28 : decode cX8_readLine 28 = .ok (.getfield 95, 3) := by decide +kernel
theorem dX8_readLine_31 : decode cX8_readLine 31 = .ok (.iconst 3, 1) := by decide +kernel
theorem dX8_readLine_32 : decode cX8_readLine 32 = .ok (.if_icmp .eq 8, 3) := by decide +kernel
theorem dX8_readLine_35 : decode cX8_readLine 35 = .ok (.aload_n 0, 1) := by decide +kernel
theorem dX8_readLine_36 : decode cX8_readLine 36 = .ok (.iconst 1, 1) := by decide +kernel
theorem dX8_readLine_37 : decode cX8_readLine 37 = .ok (.invokevirtual 142, 3) := by decide +kernel
theorem dX8_readLine_40 : decode cX8_readLine 40 = .ok (.aload_n 0, 1) := by decide +kernel
theorem dX8_readLine_41 : decode cX8_readLine 41 = .ok (.invokevirtual 118, 3) := by decide +kernel
theorem dX8_readLine_44 : decode cX8_readLine 44 = .ok (.ifCond .eq 7, 3) := by decide +kernel
theorem dX8_readLine_47 : decode cX8_readLine 47 = .ok (.aload_n 0, 1) := by decide +kernel
theorem dX8_readLine_48 : decode cX8_readLine 48 = .ok (.invokevirtual 136, 3) := by decide +kernel
theorem dX8_readLine_51 : decode cX8_readLine 51 = .ok (.aload_n 0, 1) := by decide +kernel
theorem dX8_readLine_52 : decode cX8_readLine 52 = .ok (.getfield 34, 3) := by decide +kernel
theorem dX8_readLine_55 : decode cX8_readLine 55 = .ok (.iconst 0, 1) := by decide +kernel
theorem dX8_readLine_56 : decode cX8_readLine 56 = .ok (.dup2, 1) := by decide +kernel
theorem dX8_readLine_57 : decode cX8_readLine 57 = .ok (.iaload, 1) := by decide +kernel
theorem dX8_readLine_58 : decode cX8_readLine 58 = .ok (.iconst 1, 1) := by decide +kernel
theorem dX8_readLine_59 : decode cX8_readLine 59 = .ok (.iadd, 1) := by decide +kernel
theorem dX8_readLine_60 : decode cX8_readLine 60 = .ok (.iastore, 1) := by decide +kernel
theorem dX8_readLine_61 : decode cX8_readLine 61 = .ok (.return_, 1) := by decide +kernel
theorem dX8_square_0 : decode cX8_square 0 = .ok (.aload_n 0, 1) := by decide +kernel
theorem dX8_square_1 : decode cX8_square 1 = .ok (.aload_n 0, 1) := by decide +kernel
theorem dX8_square_2 : decode cX8_square 2 = .ok (.getfield 79, 3) := by decide +kernel
theorem dX8_square_5 : decode cX8_square 5 = .ok (.putfield 82, 3) := by decide +kernel
theorem dX8_square_8 : decode cX8_square 8 = .ok (.aload_n 0, 1) := by decide +kernel
theorem dX8_square_9 : decode cX8_square 9 = .ok (.iconst 0, 1) := by decide +kernel
theorem dX8_square_10 : decode cX8_square 10 = .ok (.putfield 79, 3) := by decide +kernel
theorem dX8_square_13 : decode cX8_square 13 = .ok (.aload_n 0, 1) := by decide +kernel
theorem dX8_square_14 : decode cX8_square 14 = .ok (.iconst 0, 1) := by decide +kernel
theorem dX8_square_15 : decode cX8_square 15 = .ok (.putfield 85, 3) := by decide +kernel
theorem dX8_square_18 : decode cX8_square 18 = .ok (.aload_n 0, 1) := by decide +kernel
theorem dX8_square_19 : decode cX8_square 19 = .ok (.iconst 0, 1) := by decide +kernel
theorem dX8_square_20 : decode cX8_square 20 = .ok (.putfield 115, 3) := by decide +kernel
theorem dX8_square_23 : decode cX8_square 23 = .ok (.aload_n 0, 1) := by decide +kernel
theorem dX8_square_24 : decode cX8_square 24 = .ok (.iconst (-1), 1) := by decide +kernel
theorem dX8_square_25 : decode cX8_square 25 = .ok (.putfield 31, 3) := by decide +kernel
theorem dX8_square_28 : decode cX8_square 28 = .ok (.aload_n 0, 1) := by decide +kernel
theorem dX8_square_29 : decode cX8_square 29 = .ok (.getfield 34, 3) := by decide +kernel
theorem dX8_square_32 : decode cX8_square 32 = .ok (.invokestatic 62, 3) := by decide +kernel
theorem dX8_square_35 : decode cX8_square 35 = .ok (.aload_n 0, 1) := by decide +kernel
theorem dX8_square_36 : decode cX8_square 36 = .ok (.invokevirtual 136, 3) := by decide +kernel
theorem dX8_square_39 : decode cX8_square 39 = .ok (.aload_n 0, 1) := by decide +kernel
theorem dX8_square_40 : decode cX8_square 40 = .ok (.invokevirtual 118, 3) := by decide +kernel
theorem dX8_square_43 : decode cX8_square 43 = .ok (.ifCond .eq 17, 3) := by decide +kernel
theorem dX8_square_46 : decode cX8_square 46 = .ok (.aload_n 0, 1) := by decide +kernel
theorem dX8_square_47 : decode cX8_square 47 = .ok (.getfield 95, 3) := by decide +kernel
theorem dX8_square_50 : decode cX8_square 50 = .ok (.ifCond .eq 10, 3) := by decide +kernel
theorem dX8_square_53 : decode cX8_square 53 = .ok (.aload_n 0, 1) := by decide +kernel
theorem dX8_square_54 : decode cX8_square 54 = .ok (.invokevirtual 209, 3) := by decide +kernel
theorem dX8_square_57 : decode cX8_square 57 = .ok (.goto (-18), 3) := by decide +kernel
theorem dX8_square_60 : decode cX8_square 60 = .ok (.aload_n 0, 1) := by decide +kernel
theorem dX8_square_61 : decode cX8_square 61 = .ok (.invokevirtual 118, 3) := by decide +kernel
theorem dX8_square_64 : decode cX8_square 64 = .ok (.ifCond .ne 6, 3) := by decide +kernel
theorem dX8_square_67 : decode cX8_square 67 = .ok (.bipush (-4), 2) := by decide +kernel
theorem dX8_square_69 : decode cX8_square 69 = .ok (.ireturn, 1) := by decide +kernel
theorem dX8_square_70 : decode cX8_square 70 = .ok (.iconst 0, 1) := by decide +kernel
theorem dX8_square_71 : decode cX8_square 71 = .ok (.istore_n 1, 1) := by decide +kernel
theorem dX8_square_72 : decode cX8_square 72 = .ok (.iload_n 1, 1) := by decide +kernel
theorem dX8_square_73 : decode cX8_square 73 = .ok (.sipush 1419, 3) := by decide +kernel
theorem dX8_square_76 : decode cX8_square 76 = .ok (.if_icmp .ge 21, 3) := by decide +kernel
theorem dX8_square_79 : decode cX8_square 79 = .ok (.aload_n 0, 1) := by decide +kernel
theorem dX8_square_80 : decode cX8_square 80 = .ok (.getfield 13, 3) := by decide +kernel
theorem dX8_square_83 : decode cX8_square 83 = .ok (.iload_n 1, 1) := by decide +kernel
theorem dX8_square_84 : decode cX8_square 84 = .ok (.aload_n 0, 1) := by decide +kernel
theorem dX8_square_85 : decode cX8_square 85 = .ok (.getfield 34, 3) := by decide +kernel
theorem dX8_square_88 : decode cX8_square 88 = .ok (.iload_n 1, 1) := by decide +kernel
theorem dX8_square_89 : decode cX8_square 89 = .ok (.iaload, 1) := by decide +kernel
theorem dX8_square_90 : decode cX8_square 90 = .ok (.iastore, 1) := by decide +kernel
theorem dX8_square_91 : decode cX8_square 91 = .ok (.iinc 1 1, 3) := by decide +kernel
theorem dX8_square_94 : decode cX8_square 94 = .ok (.goto (-22), 3) := by decide +kernel
theorem dX8_square_97 : decode cX8_square 97 = .ok (.aload_n 0, 1) := by decide +kernel
theorem dX8_square_98 : decode cX8_square 98 = .ok (.getfield 13, 3) := by decide +kernel
theorem dX8_square_101 : decode cX8_square 101 = .ok (.iconst 0, 1) := by decide +kernel
theorem dX8_square_102 : decode cX8_square 102 = .ok (.iaload, 1) := by decide +kernel
theorem dX8_square_103 : decode cX8_square 103 = .ok (.ireturn, 1) := by decide +kernel
theorem dX8_isWind_0 : decode cX8_isWind 0 = .ok (.lload_n 0, 1) := by decide +kernel
theorem dX8_isWind_1 : decode cX8_isWind 1 = .ok (.lconst 0, 1) := by decide +kernel
theorem dX8_isWind_2 : decode cX8_isWind 2 = .ok (.ldc2_w 212, 3) := by decide +kernel
theorem dX8_isWind_5 : decode cX8_isWind 5 = .ok (.invokestatic 68, 3) := by decide +kernel
theorem dX8_isWind_8 : decode cX8_isWind 8 = .ok (.ireturn, 1) := by decide +kernel
theorem dX8_isHigh_0 : decode cX8_isHigh 0 = .ok (.iload_n 0, 1) := by decide +kernel
theorem dX8_isHigh_1 : decode cX8_isHigh 1 = .ok (.i2l, 1) := by decide +kernel
theorem dX8_isHigh_2 : decode cX8_isHigh 2 = .ok (.lconst 0, 1) := by decide +kernel
theorem dX8_isHigh_3 : decode cX8_isHigh 3 = .ok (.ldc2_w 214, 3) := by decide +kernel
theorem dX8_isHigh_6 : decode cX8_isHigh 6 = .ok (.invokestatic 68, 3) := by decide +kernel
theorem dX8_isHigh_9 : decode cX8_isHigh 9 = .ok (.ireturn, 1) := by decide +kernel
theorem dX8_paceOf_0 : decode cX8_paceOf 0 = .ok (.iconst 0, 1) := by decide +kernel
theorem dX8_paceOf_1 : decode cX8_paceOf 1 = .ok (.istore_n 1, 1) := by decide +kernel
theorem dX8_paceOf_2 : decode cX8_paceOf 2 = .ok (.iload_n 1, 1) := by decide +kernel
theorem dX8_paceOf_3 : decode cX8_paceOf 3 = .ok (.iload_n 1, 1) := by decide +kernel
theorem dX8_paceOf_4 : decode cX8_paceOf 4 = .ok (.iconst 1, 1) := by decide +kernel
theorem dX8_paceOf_5 : decode cX8_paceOf 5 = .ok (.iadd, 1) := by decide +kernel
theorem dX8_paceOf_6 : decode cX8_paceOf 6 = .ok (.imul, 1) := by decide +kernel
theorem dX8_paceOf_7 : decode cX8_paceOf 7 = .ok (.iconst 2, 1) := by decide +kernel
theorem dX8_paceOf_8 : decode cX8_paceOf 8 = .ok (.idiv, 1) := by decide +kernel
theorem dX8_paceOf_9 : decode cX8_paceOf 9 = .ok (.iload_n 0, 1) := by decide +kernel
theorem dX8_paceOf_10 : decode cX8_paceOf 10 = .ok (.if_icmp .ge 9, 3) := by decide +kernel
theorem dX8_paceOf_13 : decode cX8_paceOf 13 = .ok (.iinc 1 1, 3) := by decide +kernel
theorem dX8_paceOf_16 : decode cX8_paceOf 16 = .ok (.goto (-14), 3) := by decide +kernel
theorem dX8_paceOf_19 : decode cX8_paceOf 19 = .ok (.iload_n 1, 1) := by decide +kernel
theorem dX8_paceOf_20 : decode cX8_paceOf 20 = .ok (.ireturn, 1) := by decide +kernel
theorem dX8_pace_0 : decode cX8_pace 0 = .ok (.iload_n 1, 1) := by decide +kernel
theorem dX8_pace_1 : decode cX8_pace 1 = .ok (.invokestatic 216, 3) := by decide +kernel
theorem dX8_pace_4 : decode cX8_pace 4 = .ok (.ifCond .eq 10, 3) := by decide +kernel
theorem dX8_pace_7 : decode cX8_pace 7 = .ok (.iload_n 1, 1) := by decide +kernel
theorem dX8_pace_8 : decode cX8_pace 8 = .ok (.invokestatic 220, 3) := by decide +kernel
theorem dX8_pace_11 : decode cX8_pace 11 = .ok (.goto 5, 3) := by decide +kernel
theorem dX8_pace_14 : decode cX8_pace 14 = .ok (.bipush (-2), 2) := by decide +kernel
theorem dX8_pace_16 : decode cX8_pace 16 = .ok (.ireturn, 1) := by decide +kernel
theorem dX8_eastBy_0 : decode cX8_eastBy 0 = .ok (.iload_n 0, 1) := by decide +kernel
theorem dX8_eastBy_1 : decode cX8_eastBy 1 = .ok (.bipush 10, 2) := by decide +kernel
theorem dX8_eastBy_3 : decode cX8_eastBy 3 = .ok (.idiv, 1) := by decide +kernel
theorem dX8_eastBy_4 : decode cX8_eastBy 4 = .ok (.iconst 1, 1) := by decide +kernel
theorem dX8_eastBy_5 : decode cX8_eastBy 5 = .ok (.if_icmp .ne 10, 3) := by decide +kernel
theorem dX8_eastBy_8 : decode cX8_eastBy 8 = .ok (.iload_n 0, 1) := by decide +kernel
theorem dX8_eastBy_9 : decode cX8_eastBy 9 = .ok (.bipush 10, 2) := by decide +kernel
theorem dX8_eastBy_11 : decode cX8_eastBy 11 = .ok (.irem, 1) := by decide +kernel
theorem dX8_eastBy_12 : decode cX8_eastBy 12 = .ok (.goto 20, 3) := by decide +kernel
theorem dX8_eastBy_15 : decode cX8_eastBy 15 = .ok (.iload_n 0, 1) := by decide +kernel
theorem dX8_eastBy_16 : decode cX8_eastBy 16 = .ok (.bipush 10, 2) := by decide +kernel
theorem dX8_eastBy_18 : decode cX8_eastBy 18 = .ok (.idiv, 1) := by decide +kernel
theorem dX8_eastBy_19 : decode cX8_eastBy 19 = .ok (.iconst 3, 1) := by decide +kernel
theorem dX8_eastBy_20 : decode cX8_eastBy 20 = .ok (.if_icmp .ne 11, 3) := by decide +kernel
theorem dX8_eastBy_23 : decode cX8_eastBy 23 = .ok (.iload_n 0, 1) := by decide +kernel
theorem dX8_eastBy_24 : decode cX8_eastBy 24 = .ok (.bipush 10, 2) := by decide +kernel
theorem dX8_eastBy_26 : decode cX8_eastBy 26 = .ok (.irem, 1) := by decide +kernel
theorem dX8_eastBy_27 : decode cX8_eastBy 27 = .ok (.ineg, 1) := by decide +kernel
theorem dX8_eastBy_28 : decode cX8_eastBy 28 = .ok (.goto 4, 3) := by decide +kernel
theorem dX8_eastBy_31 : decode cX8_eastBy 31 = .ok (.iconst 0, 1) := by decide +kernel
theorem dX8_eastBy_32 : decode cX8_eastBy 32 = .ok (.ireturn, 1) := by decide +kernel
theorem dX8_southBy_0 : decode cX8_southBy 0 = .ok (.iload_n 0, 1) := by decide +kernel
theorem dX8_southBy_1 : decode cX8_southBy 1 = .ok (.bipush 10, 2) := by decide +kernel
theorem dX8_southBy_3 : decode cX8_southBy 3 = .ok (.idiv, 1) := by decide +kernel
theorem dX8_southBy_4 : decode cX8_southBy 4 = .ok (.iconst 2, 1) := by decide +kernel
theorem dX8_southBy_5 : decode cX8_southBy 5 = .ok (.if_icmp .ne 10, 3) := by decide +kernel
theorem dX8_southBy_8 : decode cX8_southBy 8 = .ok (.iload_n 0, 1) := by decide +kernel
theorem dX8_southBy_9 : decode cX8_southBy 9 = .ok (.bipush 10, 2) := by decide +kernel
theorem dX8_southBy_11 : decode cX8_southBy 11 = .ok (.irem, 1) := by decide +kernel
theorem dX8_southBy_12 : decode cX8_southBy 12 = .ok (.goto 19, 3) := by decide +kernel
theorem dX8_southBy_15 : decode cX8_southBy 15 = .ok (.iload_n 0, 1) := by decide +kernel
theorem dX8_southBy_16 : decode cX8_southBy 16 = .ok (.bipush 10, 2) := by decide +kernel
theorem dX8_southBy_18 : decode cX8_southBy 18 = .ok (.idiv, 1) := by decide +kernel
theorem dX8_southBy_19 : decode cX8_southBy 19 = .ok (.ifCond .ne 11, 3) := by decide +kernel
theorem dX8_southBy_22 : decode cX8_southBy 22 = .ok (.iload_n 0, 1) := by decide +kernel
theorem dX8_southBy_23 : decode cX8_southBy 23 = .ok (.bipush 10, 2) := by decide +kernel
theorem dX8_southBy_25 : decode cX8_southBy 25 = .ok (.irem, 1) := by decide +kernel
theorem dX8_southBy_26 : decode cX8_southBy 26 = .ok (.ineg, 1) := by decide +kernel
theorem dX8_southBy_27 : decode cX8_southBy 27 = .ok (.goto 4, 3) := by decide +kernel
theorem dX8_southBy_30 : decode cX8_southBy 30 = .ok (.iconst 0, 1) := by decide +kernel
theorem dX8_southBy_31 : decode cX8_southBy 31 = .ok (.ireturn, 1) := by decide +kernel
theorem dX8_isBasin_0 : decode cX8_isBasin 0 = .ok (.iload_n 1, 1) := by decide +kernel
theorem dX8_isBasin_1 : decode cX8_isBasin 1 = .ok (.aload_n 0, 1) := by decide +kernel
theorem dX8_isBasin_2 : decode cX8_isBasin 2 = .ok (.getfield 13, 3) := by decide +kernel
theorem dX8_isBasin_5 : decode cX8_isBasin 5 = .ok (.iconst 3, 1) := by decide +kernel
theorem dX8_isBasin_6 : decode cX8_isBasin 6 = .ok (.iaload, 1) := by decide +kernel
theorem dX8_isBasin_7 : decode cX8_isBasin 7 = .ok (.isub, 1) := by decide +kernel
theorem dX8_isBasin_8 : decode cX8_isBasin 8 = .ok (.invokestatic 223, 3) := by decide +kernel
theorem dX8_isBasin_11 : decode cX8_isBasin 11 = .ok (.aload_n 0, 1) := by decide +kernel
theorem dX8_isBasin_12 : decode cX8_isBasin 12 = .ok (.getfield 13, 3) := by decide +kernel
theorem dX8_isBasin_15 : decode cX8_isBasin 15 = .ok (.iconst 5, 1) := by decide +kernel
theorem dX8_isBasin_16 : decode cX8_isBasin 16 = .ok (.iaload, 1) := by decide +kernel
theorem dX8_isBasin_17 : decode cX8_isBasin 17 = .ok (.if_icmp .gt 27, 3) := by decide +kernel
theorem dX8_isBasin_20 : decode cX8_isBasin 20 = .ok (.iload_n 2, 1) := by decide +kernel
theorem dX8_isBasin_21 : decode cX8_isBasin 21 = .ok (.aload_n 0, 1) := by decide +kernel
theorem dX8_isBasin_22 : decode cX8_isBasin 22 = .ok (.getfield 13, 3) := by decide +kernel
theorem dX8_isBasin_25 : decode cX8_isBasin 25 = .ok (.iconst 4, 1) := by decide +kernel
theorem dX8_isBasin_26 : decode cX8_isBasin 26 = .ok (.iaload, 1) := by decide +kernel
theorem dX8_isBasin_27 : decode cX8_isBasin 27 = .ok (.isub, 1) := by decide +kernel
theorem dX8_isBasin_28 : decode cX8_isBasin 28 = .ok (.invokestatic 223, 3) := by decide +kernel
theorem dX8_isBasin_31 : decode cX8_isBasin 31 = .ok (.aload_n 0, 1) := by decide +kernel
theorem dX8_isBasin_32 : decode cX8_isBasin 32 = .ok (.getfield 13, 3) := by decide +kernel
theorem dX8_isBasin_35 : decode cX8_isBasin 35 = .ok (.iconst 5, 1) := by decide +kernel
theorem dX8_isBasin_36 : decode cX8_isBasin 36 = .ok (.iaload, 1) := by decide +kernel
theorem dX8_isBasin_37 : decode cX8_isBasin 37 = .ok (.if_icmp .gt 7, 3) := by decide +kernel
theorem dX8_isBasin_40 : decode cX8_isBasin 40 = .ok (.iconst 1, 1) := by decide +kernel
theorem dX8_isBasin_41 : decode cX8_isBasin 41 = .ok (.goto 4, 3) := by decide +kernel
theorem dX8_isBasin_44 : decode cX8_isBasin 44 = .ok (.iconst 0, 1) := by decide +kernel
theorem dX8_isBasin_45 : decode cX8_isBasin 45 = .ok (.ireturn, 1) := by decide +kernel
theorem dX8_cellX_0 : decode cX8_cellX 0 = .ok (.aload_n 0, 1) := by decide +kernel
theorem dX8_cellX_1 : decode cX8_cellX 1 = .ok (.getfield 13, 3) := by decide +kernel
theorem dX8_cellX_4 : decode cX8_cellX 4 = .ok (.iconst 3, 1) := by decide +kernel
theorem dX8_cellX_5 : decode cX8_cellX 5 = .ok (.iaload, 1) := by decide +kernel
theorem dX8_cellX_6 : decode cX8_cellX 6 = .ok (.iload_n 1, 1) := by decide +kernel
theorem dX8_cellX_7 : decode cX8_cellX 7 = .ok (.bipush 100, 2) := by decide +kernel
theorem dX8_cellX_9 : decode cX8_cellX 9 = .ok (.idiv, 1) := by decide +kernel
theorem dX8_cellX_10 : decode cX8_cellX 10 = .ok (.iadd, 1) := by decide +kernel
theorem dX8_cellX_11 : decode cX8_cellX 11 = .ok (.ireturn, 1) := by decide +kernel
theorem dX8_cellY_0 : decode cX8_cellY 0 = .ok (.aload_n 0, 1) := by decide +kernel
theorem dX8_cellY_1 : decode cX8_cellY 1 = .ok (.getfield 13, 3) := by decide +kernel
theorem dX8_cellY_4 : decode cX8_cellY 4 = .ok (.iconst 4, 1) := by decide +kernel
theorem dX8_cellY_5 : decode cX8_cellY 5 = .ok (.iaload, 1) := by decide +kernel
theorem dX8_cellY_6 : decode cX8_cellY 6 = .ok (.iload_n 1, 1) := by decide +kernel
theorem dX8_cellY_7 : decode cX8_cellY 7 = .ok (.bipush 100, 2) := by decide +kernel
theorem dX8_cellY_9 : decode cX8_cellY 9 = .ok (.idiv, 1) := by decide +kernel
theorem dX8_cellY_10 : decode cX8_cellY 10 = .ok (.iadd, 1) := by decide +kernel
theorem dX8_cellY_11 : decode cX8_cellY 11 = .ok (.ireturn, 1) := by decide +kernel
theorem dX8_isCaught_0 : decode cX8_isCaught 0 = .ok (.aload_n 0, 1) := by decide +kernel
theorem dX8_isCaught_1 : decode cX8_isCaught 1 = .ok (.aload_n 0, 1) := by decide +kernel
theorem dX8_isCaught_2 : decode cX8_isCaught 2 = .ok (.iload_n 1, 1) := by decide +kernel
theorem dX8_isCaught_3 : decode cX8_isCaught 3 = .ok (.invokevirtual 226, 3) := by decide +kernel
theorem dX8_isCaught_6 : decode cX8_isCaught 6 = .ok (.aload_n 0, 1) := by decide +kernel
theorem dX8_isCaught_7 : decode cX8_isCaught 7 = .ok (.iload_n 2, 1) := by decide +kernel
theorem dX8_isCaught_8 : decode cX8_isCaught 8 = .ok (.invokevirtual 229, 3) := by decide +kernel
theorem dX8_isCaught_11 : decode cX8_isCaught 11 = .ok (.invokevirtual 232, 3) := by decide +kernel
theorem dX8_isCaught_14 : decode cX8_isCaught 14 = .ok (.ireturn, 1) := by decide +kernel
theorem dX8_isOn_0 : decode cX8_isOn 0 = .ok (.aload_n 0, 1) := by decide +kernel
theorem dX8_isOn_1 : decode cX8_isOn 1 = .ok (.iload_n 1, 1) := by decide +kernel
theorem dX8_isOn_2 : decode cX8_isOn 2 = .ok (.iload_n 2, 1) := by decide +kernel
theorem dX8_isOn_3 : decode cX8_isOn 3 = .ok (.invokevirtual 236, 3) := by decide +kernel
theorem dX8_isOn_6 : decode cX8_isOn 6 = .ok (.ifCond .ne 26, 3) := by decide +kernel
theorem dX8_isOn_9 : decode cX8_isOn 9 = .ok (.aload_n 0, 1) := by decide +kernel
theorem dX8_isOn_10 : decode cX8_isOn 10 = .ok (.iload_n 1, 1) := by decide +kernel
theorem dX8_isOn_11 : decode cX8_isOn 11 = .ok (.invokevirtual 226, 3) := by decide +kernel
theorem dX8_isOn_14 : decode cX8_isOn 14 = .ok (.iload_n 3, 1) := by decide +kernel
theorem dX8_isOn_15 : decode cX8_isOn 15 = .ok (.if_icmp .ne 17, 3) := by decide +kernel
theorem dX8_isOn_18 : decode cX8_isOn 18 = .ok (.aload_n 0, 1) := by decide +kernel
theorem dX8_isOn_19 : decode cX8_isOn 19 = .ok (.iload_n 2, 1) := by decide +kernel
theorem dX8_isOn_20 : decode cX8_isOn 20 = .ok (.invokevirtual 229, 3) := by decide +kernel
theorem dX8_isOn_23 : decode cX8_isOn 23 = .ok (.iload 4, 2) := by decide +kernel
theorem dX8_isOn_25 : decode cX8_isOn 25 = .ok (.if_icmp .ne 7, 3) := by decide +kernel
theorem dX8_isOn_28 : decode cX8_isOn 28 = .ok (.iconst 1, 1) := by decide +kernel
theorem dX8_isOn_29 : decode cX8_isOn 29 = .ok (.goto 4, 3) := by decide +kernel
theorem dX8_isOn_32 : decode cX8_isOn 32 = .ok (.iconst 0, 1) := by decide +kernel
theorem dX8_isOn_33 : decode cX8_isOn 33 = .ok (.ireturn, 1) := by decide +kernel
theorem dX8_lump_0 : decode cX8_lump 0 = .ok (.bipush 103, 2) := by decide +kernel
theorem dX8_lump_2 : decode cX8_lump 2 = .ok (.bipush 13, 2) := by decide +kernel
theorem dX8_lump_4 : decode cX8_lump 4 = .ok (.iload_n 1, 1) := by decide +kernel
theorem dX8_lump_5 : decode cX8_lump 5 = .ok (.bipush 32, 2) := by decide +kernel
theorem dX8_lump_7 : decode cX8_lump 7 = .ok (.irem, 1) := by decide +kernel
theorem dX8_lump_8 : decode cX8_lump 8 = .ok (.imul, 1) := by decide +kernel
theorem dX8_lump_9 : decode cX8_lump 9 = .ok (.iadd, 1) := by decide +kernel
theorem dX8_lump_10 : decode cX8_lump 10 = .ok (.ireturn, 1) := by decide +kernel
theorem dX8_isUp_0 : decode cX8_isUp 0 = .ok (.iload_n 1, 1) := by decide +kernel
theorem dX8_isUp_1 : decode cX8_isUp 1 = .ok (.ifCond .le 27, 3) := by decide +kernel
theorem dX8_isUp_4 : decode cX8_isUp 4 = .ok (.aload_n 0, 1) := by decide +kernel
theorem dX8_isUp_5 : decode cX8_isUp 5 = .ok (.getfield 13, 3) := by decide +kernel
theorem dX8_isUp_8 : decode cX8_isUp 8 = .ok (.aload_n 0, 1) := by decide +kernel
theorem dX8_isUp_9 : decode cX8_isUp 9 = .ok (.iload_n 1, 1) := by decide +kernel
theorem dX8_isUp_10 : decode cX8_isUp 10 = .ok (.invokevirtual 239, 3) := by decide +kernel
theorem dX8_isUp_13 : decode cX8_isUp 13 = .ok (.iaload, 1) := by decide +kernel
theorem dX8_isUp_14 : decode cX8_isUp 14 = .ok (.aload_n 0, 1) := by decide +kernel
theorem dX8_isUp_15 : decode cX8_isUp 15 = .ok (.getfield 13, 3) := by decide +kernel
theorem dX8_isUp_18 : decode cX8_isUp 18 = .ok (.bipush 14, 2) := by decide +kernel
theorem dX8_isUp_20 : decode cX8_isUp 20 = .ok (.iaload, 1) := by decide +kernel
theorem dX8_isUp_21 : decode cX8_isUp 21 = .ok (.if_icmp .le 7, 3) := by decide +kernel
theorem dX8_isUp_24 : decode cX8_isUp 24 = .ok (.iconst 1, 1) := by decide +kernel
theorem dX8_isUp_25 : decode cX8_isUp 25 = .ok (.goto 4, 3) := by decide +kernel
theorem dX8_isUp_28 : decode cX8_isUp 28 = .ok (.iconst 0, 1) := by decide +kernel
theorem dX8_isUp_29 : decode cX8_isUp 29 = .ok (.ireturn, 1) := by decide +kernel
theorem dX8_firstBeat_0 : decode cX8_firstBeat 0 = .ok (.iconst 1, 1) := by decide +kernel
theorem dX8_firstBeat_1 : decode cX8_firstBeat 1 = .ok (.aload_n 0, 1) := by decide +kernel
theorem dX8_firstBeat_2 : decode cX8_firstBeat 2 = .ok (.getfield 13, 3) := by decide +kernel
theorem dX8_firstBeat_5 : decode cX8_firstBeat 5 = .ok (.bipush 14, 2) := by decide +kernel
theorem dX8_firstBeat_7 : decode cX8_firstBeat 7 = .ok (.iaload, 1) := by decide +kernel
theorem dX8_firstBeat_8 : decode cX8_firstBeat 8 = .ok (.bipush 32, 2) := by decide +kernel
theorem dX8_firstBeat_10 : decode cX8_firstBeat 10 = .ok (.isub, 1) := by decide +kernel
theorem dX8_firstBeat_11 : decode cX8_firstBeat 11 = .ok (.iconst 2, 1) := by decide +kernel
theorem dX8_firstBeat_12 : decode cX8_firstBeat 12 = .ok (.iadd, 1) := by decide +kernel
theorem dX8_firstBeat_13 : decode cX8_firstBeat 13 = .ok (.invokestatic 242, 3) := by decide +kernel
theorem dX8_firstBeat_16 : decode cX8_firstBeat 16 = .ok (.ireturn, 1) := by decide +kernel
theorem dX8_lands_0 : decode cX8_lands 0 = .ok (.aload_n 0, 1) := by decide +kernel
theorem dX8_lands_1 : decode cX8_lands 1 = .ok (.getfield 13, 3) := by decide +kernel
theorem dX8_lands_4 : decode cX8_lands 4 = .ok (.iload_n 1, 1) := by decide +kernel
theorem dX8_lands_5 : decode cX8_lands 5 = .ok (.iconst 1, 1) := by decide +kernel
theorem dX8_lands_6 : decode cX8_lands 6 = .ok (.iadd, 1) := by decide +kernel
theorem dX8_lands_7 : decode cX8_lands 7 = .ok (.iaload, 1) := by decide +kernel
theorem dX8_lands_8 : decode cX8_lands 8 = .ok (.aload_n 0, 1) := by decide +kernel
theorem dX8_lands_9 : decode cX8_lands 9 = .ok (.getfield 13, 3) := by decide +kernel
theorem dX8_lands_12 : decode cX8_lands 12 = .ok (.iload_n 1, 1) := by decide +kernel
theorem dX8_lands_13 : decode cX8_lands 13 = .ok (.iconst 3, 1) := by decide +kernel
theorem dX8_lands_14 : decode cX8_lands 14 = .ok (.iadd, 1) := by decide +kernel
theorem dX8_lands_15 : decode cX8_lands 15 = .ok (.iconst 2, 1) := by decide +kernel
theorem dX8_lands_16 : decode cX8_lands 16 = .ok (.iload_n 2, 1) := by decide +kernel
theorem dX8_lands_17 : decode cX8_lands 17 = .ok (.imul, 1) := by decide +kernel
theorem dX8_lands_18 : decode cX8_lands 18 = .ok (.iadd, 1) := by decide +kernel
theorem dX8_lands_19 : decode cX8_lands 19 = .ok (.iaload, 1) := by decide +kernel
theorem dX8_lands_20 : decode cX8_lands 20 = .ok (.bipush 100, 2) := by decide +kernel
theorem dX8_lands_22 : decode cX8_lands 22 = .ok (.idiv, 1) := by decide +kernel
theorem dX8_lands_23 : decode cX8_lands 23 = .ok (.iadd, 1) := by decide +kernel
theorem dX8_lands_24 : decode cX8_lands 24 = .ok (.istore_n 3, 1) := by decide +kernel
theorem dX8_lands_25 : decode cX8_lands 25 = .ok (.aload_n 0, 1) := by decide +kernel
theorem dX8_lands_26 : decode cX8_lands 26 = .ok (.getfield 13, 3) := by decide +kernel
theorem dX8_lands_29 : decode cX8_lands 29 = .ok (.iload_n 1, 1) := by decide +kernel
theorem dX8_lands_30 : decode cX8_lands 30 = .ok (.iconst 2, 1) := by decide +kernel
theorem dX8_lands_31 : decode cX8_lands 31 = .ok (.iadd, 1) := by decide +kernel
theorem dX8_lands_32 : decode cX8_lands 32 = .ok (.iaload, 1) := by decide +kernel
theorem dX8_lands_33 : decode cX8_lands 33 = .ok (.aload_n 0, 1) := by decide +kernel
theorem dX8_lands_34 : decode cX8_lands 34 = .ok (.getfield 13, 3) := by decide +kernel
theorem dX8_lands_37 : decode cX8_lands 37 = .ok (.iload_n 1, 1) := by decide +kernel
theorem dX8_lands_38 : decode cX8_lands 38 = .ok (.iconst 4, 1) := by decide +kernel
theorem dX8_lands_39 : decode cX8_lands 39 = .ok (.iadd, 1) := by decide +kernel
theorem dX8_lands_40 : decode cX8_lands 40 = .ok (.iconst 2, 1) := by decide +kernel
theorem dX8_lands_41 : decode cX8_lands 41 = .ok (.iload_n 2, 1) := by decide +kernel
theorem dX8_lands_42 : decode cX8_lands 42 = .ok (.imul, 1) := by decide +kernel
theorem dX8_lands_43 : decode cX8_lands 43 = .ok (.iadd, 1) := by decide +kernel
theorem dX8_lands_44 : decode cX8_lands 44 = .ok (.iaload, 1) := by decide +kernel
theorem dX8_lands_45 : decode cX8_lands 45 = .ok (.bipush 100, 2) := by decide +kernel
theorem dX8_lands_47 : decode cX8_lands 47 = .ok (.idiv, 1) := by decide +kernel
theorem dX8_lands_48 : decode cX8_lands 48 = .ok (.iadd, 1) := by decide +kernel
theorem dX8_lands_49 : decode cX8_lands 49 = .ok (.istore 4, 2) := by decide +kernel
theorem dX8_lands_51 : decode cX8_lands 51 = .ok (.aload_n 0, 1) := by decide +kernel
theorem dX8_lands_52 : decode cX8_lands 52 = .ok (.iload_n 2, 1) := by decide +kernel
theorem dX8_lands_53 : decode cX8_lands 53 = .ok (.invokevirtual 245, 3) := by decide +kernel
theorem dX8_lands_56 : decode cX8_lands 56 = .ok (.istore 5, 2) := by decide +kernel
theorem dX8_lands_58 : decode cX8_lands 58 = .ok (.aload_n 0, 1) := by decide +kernel
theorem dX8_lands_59 : decode cX8_lands 59 = .ok (.iload_n 3, 1) := by decide +kernel
theorem dX8_lands_60 : decode cX8_lands 60 = .ok (.iload 4, 2) := by decide +kernel
theorem dX8_lands_62 : decode cX8_lands 62 = .ok (.invokevirtual 232, 3) := by decide +kernel
theorem dX8_lands_65 : decode cX8_lands 65 = .ok (.ifCond .eq 17, 3) := by decide +kernel
theorem dX8_lands_68 : decode cX8_lands 68 = .ok (.aload_n 0, 1) := by decide +kernel
theorem dX8_lands_69 : decode cX8_lands 69 = .ok (.getfield 13, 3) := by decide +kernel
theorem dX8_lands_72 : decode cX8_lands 72 = .ok (.bipush 18, 2) := by decide +kernel
theorem dX8_lands_74 : decode cX8_lands 74 = .ok (.dup2, 1) := by decide +kernel
theorem dX8_lands_75 : decode cX8_lands 75 = .ok (.iaload, 1) := by decide +kernel
theorem dX8_lands_76 : decode cX8_lands 76 = .ok (.iload 5, 2) := by decide +kernel
theorem dX8_lands_78 : decode cX8_lands 78 = .ok (.iadd, 1) := by decide +kernel
theorem dX8_lands_79 : decode cX8_lands 79 = .ok (.iastore, 1) := by decide +kernel
theorem dX8_lands_80 : decode cX8_lands 80 = .ok (.iconst 0, 1) := by decide +kernel
theorem dX8_lands_81 : decode cX8_lands 81 = .ok (.ireturn, 1) := by decide +kernel
theorem dX8_lands_82 : decode cX8_lands 82 = .ok (.aload_n 0, 1) := by decide +kernel
theorem dX8_lands_83 : decode cX8_lands 83 = .ok (.iload_n 3, 1) := by decide +kernel
theorem dX8_lands_84 : decode cX8_lands 84 = .ok (.iload 4, 2) := by decide +kernel
theorem dX8_lands_86 : decode cX8_lands 86 = .ok (.invokevirtual 248, 3) := by decide +kernel
theorem dX8_lands_89 : decode cX8_lands 89 = .ok (.ifCond .eq 39, 3) := by decide +kernel
theorem dX8_lands_92 : decode cX8_lands 92 = .ok (.aload_n 0, 1) := by decide +kernel
theorem dX8_lands_93 : decode cX8_lands 93 = .ok (.getfield 13, 3) := by decide +kernel
theorem dX8_lands_96 : decode cX8_lands 96 = .ok (.sipush 519, 3) := by decide +kernel
theorem dX8_lands_99 : decode cX8_lands 99 = .ok (.bipush 30, 2) := by decide +kernel
theorem dX8_lands_101 : decode cX8_lands 101 = .ok (.iload 4, 2) := by decide +kernel
theorem dX8_lands_103 : decode cX8_lands 103 = .ok (.imul, 1) := by decide +kernel
theorem dX8_lands_104 : decode cX8_lands 104 = .ok (.iadd, 1) := by decide +kernel
theorem dX8_lands_105 : decode cX8_lands 105 = .ok (.iload_n 3, 1) := by decide +kernel
theorem dX8_lands_106 : decode cX8_lands 106 = .ok (.iadd, 1) := by decide +kernel
theorem dX8_lands_107 : decode cX8_lands 107 = .ok (.dup2, 1) := by decide +kernel
theorem dX8_lands_108 : decode cX8_lands 108 = .ok (.iaload, 1) := by decide +kernel
theorem dX8_lands_109 : decode cX8_lands 109 = .ok (.iload 5, 2) := by decide +kernel
theorem dX8_lands_111 : decode cX8_lands 111 = .ok (.iadd, 1) := by decide +kernel
theorem dX8_lands_112 : decode cX8_lands 112 = .ok (.iastore, 1) := by decide +kernel
theorem dX8_lands_113 : decode cX8_lands 113 = .ok (.aload_n 0, 1) := by decide +kernel
theorem dX8_lands_114 : decode cX8_lands 114 = .ok (.getfield 13, 3) := by decide +kernel
theorem dX8_lands_117 : decode cX8_lands 117 = .ok (.bipush 20, 2) := by decide +kernel
theorem dX8_lands_119 : decode cX8_lands 119 = .ok (.dup2, 1) := by decide +kernel
theorem dX8_lands_120 : decode cX8_lands 120 = .ok (.iaload, 1) := by decide +kernel
theorem dX8_lands_121 : decode cX8_lands 121 = .ok (.iload 5, 2) := by decide +kernel
theorem dX8_lands_123 : decode cX8_lands 123 = .ok (.iadd, 1) := by decide +kernel
theorem dX8_lands_124 : decode cX8_lands 124 = .ok (.iastore, 1) := by decide +kernel
theorem dX8_lands_125 : decode cX8_lands 125 = .ok (.goto 15, 3) := by decide +kernel
theorem dX8_lands_128 : decode cX8_lands 128 = .ok (.aload_n 0, 1) := by decide +kernel
theorem dX8_lands_129 : decode cX8_lands 129 = .ok (.getfield 13, 3) := by decide +kernel
theorem dX8_lands_132 : decode cX8_lands 132 = .ok (.bipush 19, 2) := by decide +kernel
theorem dX8_lands_134 : decode cX8_lands 134 = .ok (.dup2, 1) := by decide +kernel
theorem dX8_lands_135 : decode cX8_lands 135 = .ok (.iaload, 1) := by decide +kernel
theorem dX8_lands_136 : decode cX8_lands 136 = .ok (.iload 5, 2) := by decide +kernel
theorem dX8_lands_138 : decode cX8_lands 138 = .ok (.iadd, 1) := by decide +kernel
theorem dX8_lands_139 : decode cX8_lands 139 = .ok (.iastore, 1) := by decide +kernel
theorem dX8_lands_140 : decode cX8_lands 140 = .ok (.iload 5, 2) := by decide +kernel
theorem dX8_lands_142 : decode cX8_lands 142 = .ok (.ireturn, 1) := by decide +kernel
theorem dX8_drifts_0 : decode cX8_drifts 0 = .ok (.iconst 0, 1) := by decide +kernel
theorem dX8_drifts_1 : decode cX8_drifts 1 = .ok (.istore_n 2, 1) := by decide +kernel
theorem dX8_drifts_2 : decode cX8_drifts 2 = .ok (.aload_n 0, 1) := by decide +kernel
theorem dX8_drifts_3 : decode cX8_drifts 3 = .ok (.invokevirtual 251, 3) := by decide +kernel
theorem dX8_drifts_6 : decode cX8_drifts 6 = .ok (.istore_n 3, 1) := by decide +kernel
theorem dX8_drifts_7 : decode cX8_drifts 7 = .ok (.iload_n 3, 1) := by decide +kernel
theorem dX8_drifts_8 : decode cX8_drifts 8 = .ok (.aload_n 0, 1) := by decide +kernel
theorem dX8_drifts_9 : decode cX8_drifts 9 = .ok (.getfield 13, 3) := by decide +kernel
theorem dX8_drifts_12 : decode cX8_drifts 12 = .ok (.bipush 14, 2) := by decide +kernel
theorem dX8_drifts_14 : decode cX8_drifts 14 = .ok (.iaload, 1) := by decide +kernel
theorem dX8_drifts_15 : decode cX8_drifts 15 = .ok (.if_icmp .gt 138, 3) := by decide +kernel
theorem dX8_drifts_18 : decode cX8_drifts 18 = .ok (.aload_n 0, 1) := by decide +kernel
theorem dX8_drifts_19 : decode cX8_drifts 19 = .ok (.iload_n 3, 1) := by decide +kernel
theorem dX8_drifts_20 : decode cX8_drifts 20 = .ok (.invokevirtual 254, 3) := by decide +kernel
theorem dX8_drifts_23 : decode cX8_drifts 23 = .ok (.ifCond .ne 6, 3) := by decide +kernel
theorem dX8_drifts_26 : decode cX8_drifts 26 = .ok (.goto 121, 3) := by decide +kernel
theorem dX8_drifts_29 : decode cX8_drifts 29 = .ok (.aload_n 0, 1) := by decide +kernel
theorem dX8_drifts_30 : decode cX8_drifts 30 = .ok (.iload_n 3, 1) := by decide +kernel
theorem dX8_drifts_31 : decode cX8_drifts 31 = .ok (.invokevirtual 239, 3) := by decide +kernel
theorem dX8_drifts_34 : decode cX8_drifts 34 = .ok (.istore 4, 2) := by decide +kernel
theorem dX8_drifts_36 : decode cX8_drifts 36 = .ok (.iconst 0, 1) := by decide +kernel
theorem dX8_drifts_37 : decode cX8_drifts 37 = .ok (.istore 5, 2) := by decide +kernel
theorem dX8_drifts_39 : decode cX8_drifts 39 = .ok (.iload 5, 2) := by decide +kernel
theorem dX8_drifts_41 : decode cX8_drifts 41 = .ok (.aload_n 0, 1) := by decide +kernel
theorem dX8_drifts_42 : decode cX8_drifts 42 = .ok (.getfield 13, 3) := by decide +kernel
theorem dX8_drifts_45 : decode cX8_drifts 45 = .ok (.bipush 10, 2) := by decide +kernel
theorem dX8_drifts_47 : decode cX8_drifts 47 = .ok (.iaload, 1) := by decide +kernel
theorem dX8_drifts_48 : decode cX8_drifts 48 = .ok (.if_icmp .ge 99, 3) := by decide +kernel
theorem dX8_drifts_51 : decode cX8_drifts 51 = .ok (.aload_n 0, 1) := by decide +kernel
theorem dX8_drifts_52 : decode cX8_drifts 52 = .ok (.getfield 13, 3) := by decide +kernel
theorem dX8_drifts_55 : decode cX8_drifts 55 = .ok (.iload 4, 2) := by decide +kernel
theorem dX8_drifts_57 : decode cX8_drifts 57 = .ok (.iconst 3, 1) := by decide +kernel
theorem dX8_drifts_58 : decode cX8_drifts 58 = .ok (.iadd, 1) := by decide +kernel
theorem dX8_drifts_59 : decode cX8_drifts 59 = .ok (.iconst 2, 1) := by decide +kernel
theorem dX8_drifts_60 : decode cX8_drifts 60 = .ok (.iload 5, 2) := by decide +kernel
theorem dX8_drifts_62 : decode cX8_drifts 62 = .ok (.imul, 1) := by decide +kernel
theorem dX8_drifts_63 : decode cX8_drifts 63 = .ok (.iadd, 1) := by decide +kernel
theorem dX8_drifts_64 : decode cX8_drifts 64 = .ok (.dup2, 1) := by decide +kernel
theorem dX8_drifts_65 : decode cX8_drifts 65 = .ok (.iaload, 1) := by decide +kernel
theorem dX8_drifts_66 : decode cX8_drifts 66 = .ok (.aload_n 0, 1) := by decide +kernel
theorem dX8_drifts_67 : decode cX8_drifts 67 = .ok (.iload 5, 2) := by decide +kernel
theorem dX8_drifts_69 : decode cX8_drifts 69 = .ok (.invokevirtual 257, 3) := by decide +kernel
theorem dX8_drifts_72 : decode cX8_drifts 72 = .ok (.iload_n 1, 1) := by decide +kernel
theorem dX8_drifts_73 : decode cX8_drifts 73 = .ok (.invokestatic 260, 3) := by decide +kernel
theorem dX8_drifts_76 : decode cX8_drifts 76 = .ok (.imul, 1) := by decide +kernel
theorem dX8_drifts_77 : decode cX8_drifts 77 = .ok (.iadd, 1) := by decide +kernel
theorem dX8_drifts_78 : decode cX8_drifts 78 = .ok (.iastore, 1) := by decide +kernel
theorem dX8_drifts_79 : decode cX8_drifts 79 = .ok (.aload_n 0, 1) := by decide +kernel
theorem dX8_drifts_80 : decode cX8_drifts 80 = .ok (.getfield 13, 3) := by decide +kernel
theorem dX8_drifts_83 : decode cX8_drifts 83 = .ok (.iload 4, 2) := by decide +kernel
theorem dX8_drifts_85 : decode cX8_drifts 85 = .ok (.iconst 4, 1) := by decide +kernel
theorem dX8_drifts_86 : decode cX8_drifts 86 = .ok (.iadd, 1) := by decide +kernel
theorem dX8_drifts_87 : decode cX8_drifts 87 = .ok (.iconst 2, 1) := by decide +kernel
theorem dX8_drifts_88 : decode cX8_drifts 88 = .ok (.iload 5, 2) := by decide +kernel
theorem dX8_drifts_90 : decode cX8_drifts 90 = .ok (.imul, 1) := by decide +kernel
theorem dX8_drifts_91 : decode cX8_drifts 91 = .ok (.iadd, 1) := by decide +kernel
theorem dX8_drifts_92 : decode cX8_drifts 92 = .ok (.dup2, 1) := by decide +kernel
theorem dX8_drifts_93 : decode cX8_drifts 93 = .ok (.iaload, 1) := by decide +kernel
theorem dX8_drifts_94 : decode cX8_drifts 94 = .ok (.aload_n 0, 1) := by decide +kernel
theorem dX8_drifts_95 : decode cX8_drifts 95 = .ok (.iload 5, 2) := by decide +kernel
theorem dX8_drifts_97 : decode cX8_drifts 97 = .ok (.invokevirtual 257, 3) := by decide +kernel
theorem dX8_drifts_100 : decode cX8_drifts 100 = .ok (.iload_n 1, 1) := by decide +kernel
theorem dX8_drifts_101 : decode cX8_drifts 101 = .ok (.invokestatic 263, 3) := by decide +kernel
theorem dX8_drifts_104 : decode cX8_drifts 104 = .ok (.imul, 1) := by decide +kernel
theorem dX8_drifts_105 : decode cX8_drifts 105 = .ok (.iadd, 1) := by decide +kernel
theorem dX8_drifts_106 : decode cX8_drifts 106 = .ok (.iastore, 1) := by decide +kernel
theorem dX8_drifts_107 : decode cX8_drifts 107 = .ok (.iload_n 2, 1) := by decide +kernel
theorem dX8_drifts_108 : decode cX8_drifts 108 = .ok (.aload_n 0, 1) := by decide +kernel
theorem dX8_drifts_109 : decode cX8_drifts 109 = .ok (.getfield 13, 3) := by decide +kernel
theorem dX8_drifts_112 : decode cX8_drifts 112 = .ok (.iload 4, 2) := by decide +kernel
theorem dX8_drifts_114 : decode cX8_drifts 114 = .ok (.iaload, 1) := by decide +kernel
theorem dX8_drifts_115 : decode cX8_drifts 115 = .ok (.aload_n 0, 1) := by decide +kernel
theorem dX8_drifts_116 : decode cX8_drifts 116 = .ok (.getfield 13, 3) := by decide +kernel
theorem dX8_drifts_119 : decode cX8_drifts 119 = .ok (.bipush 14, 2) := by decide +kernel
theorem dX8_drifts_121 : decode cX8_drifts 121 = .ok (.iaload, 1) := by decide +kernel
theorem dX8_drifts_122 : decode cX8_drifts 122 = .ok (.iconst 1, 1) := by decide +kernel
theorem dX8_drifts_123 : decode cX8_drifts 123 = .ok (.iadd, 1) := by decide +kernel
theorem dX8_drifts_124 : decode cX8_drifts 124 = .ok (.if_icmp .ne 14, 3) := by decide +kernel
theorem dX8_drifts_127 : decode cX8_drifts 127 = .ok (.aload_n 0, 1) := by decide +kernel
theorem dX8_drifts_128 : decode cX8_drifts 128 = .ok (.iload 4, 2) := by decide +kernel
theorem dX8_drifts_130 : decode cX8_drifts 130 = .ok (.iload 5, 2) := by decide +kernel
theorem dX8_drifts_132 : decode cX8_drifts 132 = .ok (.invokevirtual 266, 3) := by decide +kernel
theorem dX8_drifts_135 : decode cX8_drifts 135 = .ok (.goto 4, 3) := by decide +kernel
theorem dX8_drifts_138 : decode cX8_drifts 138 = .ok (.iconst 0, 1) := by decide +kernel
theorem dX8_drifts_139 : decode cX8_drifts 139 = .ok (.iadd, 1) := by decide +kernel
theorem dX8_drifts_140 : decode cX8_drifts 140 = .ok (.istore_n 2, 1) := by decide +kernel
theorem dX8_drifts_141 : decode cX8_drifts 141 = .ok (.iinc 5 1, 3) := by decide +kernel
theorem dX8_drifts_144 : decode cX8_drifts 144 = .ok (.goto (-105), 3) := by decide +kernel
theorem dX8_drifts_147 : decode cX8_drifts 147 = .ok (.iinc 3 1, 3) := by decide +kernel
theorem dX8_drifts_150 : decode cX8_drifts 150 = .ok (.goto (-143), 3) := by decide +kernel
theorem dX8_drifts_153 : decode cX8_drifts 153 = .ok (.iload_n 2, 1) := by decide +kernel
theorem dX8_drifts_154 : decode cX8_drifts 154 = .ok (.ireturn, 1) := by decide +kernel
theorem dX8_seenBy_0 : decode cX8_seenBy 0 = .ok (.iload_n 1, 1) := by decide +kernel
theorem dX8_seenBy_1 : decode cX8_seenBy 1 = .ok (.iload_n 2, 1) := by decide +kernel
theorem dX8_seenBy_2 : decode cX8_seenBy 2 = .ok (.isub, 1) := by decide +kernel
theorem dX8_seenBy_3 : decode cX8_seenBy 3 = .ok (.ifCond .le 20, 3) := by decide +kernel
theorem dX8_seenBy_6 : decode cX8_seenBy 6 = .ok (.aload_n 0, 1) := by decide +kernel
theorem dX8_seenBy_7 : decode cX8_seenBy 7 = .ok (.getfield 13, 3) := by decide +kernel
theorem dX8_seenBy_10 : decode cX8_seenBy 10 = .ok (.bipush 71, 2) := by decide +kernel
theorem dX8_seenBy_12 : decode cX8_seenBy 12 = .ok (.iload_n 1, 1) := by decide +kernel
theorem dX8_seenBy_13 : decode cX8_seenBy 13 = .ok (.iload_n 2, 1) := by decide +kernel
theorem dX8_seenBy_14 : decode cX8_seenBy 14 = .ok (.isub, 1) := by decide +kernel
theorem dX8_seenBy_15 : decode cX8_seenBy 15 = .ok (.bipush 32, 2) := by decide +kernel
theorem dX8_seenBy_17 : decode cX8_seenBy 17 = .ok (.irem, 1) := by decide +kernel
theorem dX8_seenBy_18 : decode cX8_seenBy 18 = .ok (.iadd, 1) := by decide +kernel
theorem dX8_seenBy_19 : decode cX8_seenBy 19 = .ok (.iaload, 1) := by decide +kernel
theorem dX8_seenBy_20 : decode cX8_seenBy 20 = .ok (.goto 4, 3) := by decide +kernel
theorem dX8_seenBy_23 : decode cX8_seenBy 23 = .ok (.iconst 0, 1) := by decide +kernel
theorem dX8_seenBy_24 : decode cX8_seenBy 24 = .ok (.ireturn, 1) := by decide +kernel
theorem dX8_letsBy_0 : decode cX8_letsBy 0 = .ok (.bipush 60, 2) := by decide +kernel
theorem dX8_letsBy_2 : decode cX8_letsBy 2 = .ok (.istore_n 2, 1) := by decide +kernel
theorem dX8_letsBy_3 : decode cX8_letsBy 3 = .ok (.iconst 0, 1) := by decide +kernel
theorem dX8_letsBy_4 : decode cX8_letsBy 4 = .ok (.istore_n 3, 1) := by decide +kernel
theorem dX8_letsBy_5 : decode cX8_letsBy 5 = .ok (.iload_n 3, 1) := by decide +kernel
theorem dX8_letsBy_6 : decode cX8_letsBy 6 = .ok (.aload_n 0, 1) := by decide +kernel
theorem dX8_letsBy_7 : decode cX8_letsBy 7 = .ok (.getfield 13, 3) := by decide +kernel
theorem dX8_letsBy_10 : decode cX8_letsBy 10 = .ok (.bipush 12, 2) := by decide +kernel
theorem dX8_letsBy_12 : decode cX8_letsBy 12 = .ok (.iaload, 1) := by decide +kernel
theorem dX8_letsBy_13 : decode cX8_letsBy 13 = .ok (.if_icmp .ge 42, 3) := by decide +kernel
theorem dX8_letsBy_16 : decode cX8_letsBy 16 = .ok (.aload_n 0, 1) := by decide +kernel
theorem dX8_letsBy_17 : decode cX8_letsBy 17 = .ok (.getfield 13, 3) := by decide +kernel
theorem dX8_letsBy_20 : decode cX8_letsBy 20 = .ok (.bipush 59, 2) := by decide +kernel
theorem dX8_letsBy_22 : decode cX8_letsBy 22 = .ok (.iconst 2, 1) := by decide +kernel
theorem dX8_letsBy_23 : decode cX8_letsBy 23 = .ok (.iload_n 3, 1) := by decide +kernel
theorem dX8_letsBy_24 : decode cX8_letsBy 24 = .ok (.imul, 1) := by decide +kernel
theorem dX8_letsBy_25 : decode cX8_letsBy 25 = .ok (.iadd, 1) := by decide +kernel
theorem dX8_letsBy_26 : decode cX8_letsBy 26 = .ok (.iaload, 1) := by decide +kernel
theorem dX8_letsBy_27 : decode cX8_letsBy 27 = .ok (.iload_n 1, 1) := by decide +kernel
theorem dX8_letsBy_28 : decode cX8_letsBy 28 = .ok (.if_icmp .gt 19, 3) := by decide +kernel
theorem dX8_letsBy_31 : decode cX8_letsBy 31 = .ok (.aload_n 0, 1) := by decide +kernel
theorem dX8_letsBy_32 : decode cX8_letsBy 32 = .ok (.getfield 13, 3) := by decide +kernel
theorem dX8_letsBy_35 : decode cX8_letsBy 35 = .ok (.bipush 59, 2) := by decide +kernel
theorem dX8_letsBy_37 : decode cX8_letsBy 37 = .ok (.iconst 2, 1) := by decide +kernel
theorem dX8_letsBy_38 : decode cX8_letsBy 38 = .ok (.iload_n 3, 1) := by decide +kernel
theorem dX8_letsBy_39 : decode cX8_letsBy 39 = .ok (.imul, 1) := by decide +kernel
theorem dX8_letsBy_40 : decode cX8_letsBy 40 = .ok (.iadd, 1) := by decide +kernel
theorem dX8_letsBy_41 : decode cX8_letsBy 41 = .ok (.iconst 1, 1) := by decide +kernel
theorem dX8_letsBy_42 : decode cX8_letsBy 42 = .ok (.iadd, 1) := by decide +kernel
theorem dX8_letsBy_43 : decode cX8_letsBy 43 = .ok (.iaload, 1) := by decide +kernel
theorem dX8_letsBy_44 : decode cX8_letsBy 44 = .ok (.goto 4, 3) := by decide +kernel
theorem dX8_letsBy_47 : decode cX8_letsBy 47 = .ok (.iload_n 2, 1) := by decide +kernel
theorem dX8_letsBy_48 : decode cX8_letsBy 48 = .ok (.istore_n 2, 1) := by decide +kernel
theorem dX8_letsBy_49 : decode cX8_letsBy 49 = .ok (.iinc 3 1, 3) := by decide +kernel
theorem dX8_letsBy_52 : decode cX8_letsBy 52 = .ok (.goto (-47), 3) := by decide +kernel
theorem dX8_letsBy_55 : decode cX8_letsBy 55 = .ok (.aload_n 0, 1) := by decide +kernel
theorem dX8_letsBy_56 : decode cX8_letsBy 56 = .ok (.getfield 13, 3) := by decide +kernel
theorem dX8_letsBy_59 : decode cX8_letsBy 59 = .ok (.bipush 6, 2) := by decide +kernel
theorem dX8_letsBy_61 : decode cX8_letsBy 61 = .ok (.iaload, 1) := by decide +kernel
theorem dX8_letsBy_62 : decode cX8_letsBy 62 = .ok (.iload_n 2, 1) := by decide +kernel
theorem dX8_letsBy_63 : decode cX8_letsBy 63 = .ok (.invokestatic 110, 3) := by decide +kernel
theorem dX8_letsBy_66 : decode cX8_letsBy 66 = .ok (.ireturn, 1) := by decide +kernel
theorem dX8_beat_0 : decode cX8_beat 0 = .ok (.aload_n 0, 1) := by decide +kernel
theorem dX8_beat_1 : decode cX8_beat 1 = .ok (.iload_n 1, 1) := by decide +kernel
theorem dX8_beat_2 : decode cX8_beat 2 = .ok (.invokevirtual 269, 3) := by decide +kernel
theorem dX8_beat_5 : decode cX8_beat 5 = .ok (.istore_n 2, 1) := by decide +kernel
theorem dX8_beat_6 : decode cX8_beat 6 = .ok (.aload_n 0, 1) := by decide +kernel
theorem dX8_beat_7 : decode cX8_beat 7 = .ok (.getfield 13, 3) := by decide +kernel
theorem dX8_beat_10 : decode cX8_beat 10 = .ok (.bipush 14, 2) := by decide +kernel
theorem dX8_beat_12 : decode cX8_beat 12 = .ok (.iaload, 1) := by decide +kernel
theorem dX8_beat_13 : decode cX8_beat 13 = .ok (.iconst 1, 1) := by decide +kernel
theorem dX8_beat_14 : decode cX8_beat 14 = .ok (.iadd, 1) := by decide +kernel
theorem dX8_beat_15 : decode cX8_beat 15 = .ok (.istore_n 3, 1) := by decide +kernel
theorem dX8_beat_16 : decode cX8_beat 16 = .ok (.aload_n 0, 1) := by decide +kernel
theorem dX8_beat_17 : decode cX8_beat 17 = .ok (.getfield 13, 3) := by decide +kernel
theorem dX8_beat_20 : decode cX8_beat 20 = .ok (.bipush 71, 2) := by decide +kernel
theorem dX8_beat_22 : decode cX8_beat 22 = .ok (.iload_n 3, 1) := by decide +kernel
theorem dX8_beat_23 : decode cX8_beat 23 = .ok (.bipush 32, 2) := by decide +kernel
theorem dX8_beat_25 : decode cX8_beat 25 = .ok (.irem, 1) := by decide +kernel
theorem dX8_beat_26 : decode cX8_beat 26 = .ok (.iadd, 1) := by decide +kernel
theorem dX8_beat_27 : decode cX8_beat 27 = .ok (.iload_n 1, 1) := by decide +kernel
theorem dX8_beat_28 : decode cX8_beat 28 = .ok (.iastore, 1) := by decide +kernel
theorem dX8_beat_29 : decode cX8_beat 29 = .ok (.aload_n 0, 1) := by decide +kernel
theorem dX8_beat_30 : decode cX8_beat 30 = .ok (.iload_n 3, 1) := by decide +kernel
theorem dX8_beat_31 : decode cX8_beat 31 = .ok (.aload_n 0, 1) := by decide +kernel
theorem dX8_beat_32 : decode cX8_beat 32 = .ok (.getfield 13, 3) := by decide +kernel
theorem dX8_beat_35 : decode cX8_beat 35 = .ok (.bipush 8, 2) := by decide +kernel
theorem dX8_beat_37 : decode cX8_beat 37 = .ok (.iaload, 1) := by decide +kernel
theorem dX8_beat_38 : decode cX8_beat 38 = .ok (.invokevirtual 272, 3) := by decide +kernel
theorem dX8_beat_41 : decode cX8_beat 41 = .ok (.istore 4, 2) := by decide +kernel
theorem dX8_beat_43 : decode cX8_beat 43 = .ok (.aload_n 0, 1) := by decide +kernel
theorem dX8_beat_44 : decode cX8_beat 44 = .ok (.getfield 13, 3) := by decide +kernel
theorem dX8_beat_47 : decode cX8_beat 47 = .ok (.bipush 22, 2) := by decide +kernel
theorem dX8_beat_49 : decode cX8_beat 49 = .ok (.iaload, 1) := by decide +kernel
theorem dX8_beat_50 : decode cX8_beat 50 = .ok (.iconst (-1), 1) := by decide +kernel
theorem dX8_beat_51 : decode cX8_beat 51 = .ok (.if_icmp .ne 8, 3) := by decide +kernel
theorem dX8_beat_54 : decode cX8_beat 54 = .ok (.iload 4, 2) := by decide +kernel
theorem dX8_beat_56 : decode cX8_beat 56 = .ok (.goto 15, 3) := by decide +kernel
theorem dX8_beat_59 : decode cX8_beat 59 = .ok (.aload_n 0, 1) := by decide +kernel
theorem dX8_beat_60 : decode cX8_beat 60 = .ok (.iload_n 3, 1) := by decide +kernel
theorem dX8_beat_61 : decode cX8_beat 61 = .ok (.aload_n 0, 1) := by decide +kernel
theorem dX8_beat_62 : decode cX8_beat 62 = .ok (.getfield 13, 3) := by decide +kernel
theorem dX8_beat_65 : decode cX8_beat 65 = .ok (.bipush 22, 2) := by decide +kernel
theorem dX8_beat_67 : decode cX8_beat 67 = .ok (.iaload, 1) := by decide +kernel
theorem dX8_beat_68 : decode cX8_beat 68 = .ok (.invokevirtual 272, 3) := by decide +kernel
theorem dX8_beat_71 : decode cX8_beat 71 = .ok (.istore 5, 2) := by decide +kernel
theorem dX8_beat_73 : decode cX8_beat 73 = .ok (.iload 5, 2) := by decide +kernel
theorem dX8_beat_75 : decode cX8_beat 75 = .ok (.bipush 10, 2) := by decide +kernel
theorem dX8_beat_77 : decode cX8_beat 77 = .ok (.irem, 1) := by decide +kernel
theorem dX8_beat_78 : decode cX8_beat 78 = .ok (.iload 4, 2) := by decide +kernel
theorem dX8_beat_80 : decode cX8_beat 80 = .ok (.bipush 10, 2) := by decide +kernel
theorem dX8_beat_82 : decode cX8_beat 82 = .ok (.irem, 1) := by decide +kernel
theorem dX8_beat_83 : decode cX8_beat 83 = .ok (.if_icmp .le 8, 3) := by decide +kernel
theorem dX8_beat_86 : decode cX8_beat 86 = .ok (.iload 5, 2) := by decide +kernel
theorem dX8_beat_88 : decode cX8_beat 88 = .ok (.goto 5, 3) := by decide +kernel
theorem dX8_beat_91 : decode cX8_beat 91 = .ok (.iload 4, 2) := by decide +kernel
theorem dX8_beat_93 : decode cX8_beat 93 = .ok (.istore 4, 2) := by decide +kernel
theorem dX8_beat_95 : decode cX8_beat 95 = .ok (.aload_n 0, 1) := by decide +kernel
theorem dX8_beat_96 : decode cX8_beat 96 = .ok (.iload 4, 2) := by decide +kernel
theorem dX8_beat_98 : decode cX8_beat 98 = .ok (.bipush 10, 2) := by decide +kernel
theorem dX8_beat_100 : decode cX8_beat 100 = .ok (.irem, 1) := by decide +kernel
theorem dX8_beat_101 : decode cX8_beat 101 = .ok (.invokevirtual 275, 3) := by decide +kernel
theorem dX8_beat_104 : decode cX8_beat 104 = .ok (.aload_n 0, 1) := by decide +kernel
theorem dX8_beat_105 : decode cX8_beat 105 = .ok (.getfield 13, 3) := by decide +kernel
theorem dX8_beat_108 : decode cX8_beat 108 = .ok (.bipush 15, 2) := by decide +kernel
theorem dX8_beat_110 : decode cX8_beat 110 = .ok (.iaload, 1) := by decide +kernel
theorem dX8_beat_111 : decode cX8_beat 111 = .ok (.aload_n 0, 1) := by decide +kernel
theorem dX8_beat_112 : decode cX8_beat 112 = .ok (.getfield 13, 3) := by decide +kernel
theorem dX8_beat_115 : decode cX8_beat 115 = .ok (.bipush 9, 2) := by decide +kernel
theorem dX8_beat_117 : decode cX8_beat 117 = .ok (.iaload, 1) := by decide +kernel
theorem dX8_beat_118 : decode cX8_beat 118 = .ok (.iadd, 1) := by decide +kernel
theorem dX8_beat_119 : decode cX8_beat 119 = .ok (.invokestatic 110, 3) := by decide +kernel
theorem dX8_beat_122 : decode cX8_beat 122 = .ok (.istore 6, 2) := by decide +kernel
theorem dX8_beat_124 : decode cX8_beat 124 = .ok (.aload_n 0, 1) := by decide +kernel
theorem dX8_beat_125 : decode cX8_beat 125 = .ok (.getfield 13, 3) := by decide +kernel
theorem dX8_beat_128 : decode cX8_beat 128 = .ok (.bipush 23, 2) := by decide +kernel
theorem dX8_beat_130 : decode cX8_beat 130 = .ok (.iaload, 1) := by decide +kernel
theorem dX8_beat_131 : decode cX8_beat 131 = .ok (.iconst 1, 1) := by decide +kernel
theorem dX8_beat_132 : decode cX8_beat 132 = .ok (.if_icmp .ne 7, 3) := by decide +kernel
theorem dX8_beat_135 : decode cX8_beat 135 = .ok (.iconst 0, 1) := by decide +kernel
theorem dX8_beat_136 : decode cX8_beat 136 = .ok (.goto 5, 3) := by decide +kernel
theorem dX8_beat_139 : decode cX8_beat 139 = .ok (.iload 6, 2) := by decide +kernel
theorem dX8_beat_141 : decode cX8_beat 141 = .ok (.istore 6, 2) := by decide +kernel
theorem dX8_beat_143 : decode cX8_beat 143 = .ok (.aload_n 0, 1) := by decide +kernel
theorem dX8_beat_144 : decode cX8_beat 144 = .ok (.getfield 13, 3) := by decide +kernel
theorem dX8_beat_147 : decode cX8_beat 147 = .ok (.bipush 14, 2) := by decide +kernel
theorem dX8_beat_149 : decode cX8_beat 149 = .ok (.iload_n 3, 1) := by decide +kernel
theorem dX8_beat_150 : decode cX8_beat 150 = .ok (.iastore, 1) := by decide +kernel
theorem dX8_beat_151 : decode cX8_beat 151 = .ok (.aload_n 0, 1) := by decide +kernel
theorem dX8_beat_152 : decode cX8_beat 152 = .ok (.getfield 13, 3) := by decide +kernel
theorem dX8_beat_155 : decode cX8_beat 155 = .ok (.bipush 17, 2) := by decide +kernel
theorem dX8_beat_157 : decode cX8_beat 157 = .ok (.iload 4, 2) := by decide +kernel
theorem dX8_beat_159 : decode cX8_beat 159 = .ok (.iastore, 1) := by decide +kernel
theorem dX8_beat_160 : decode cX8_beat 160 = .ok (.aload_n 0, 1) := by decide +kernel
theorem dX8_beat_161 : decode cX8_beat 161 = .ok (.getfield 13, 3) := by decide +kernel
theorem dX8_beat_164 : decode cX8_beat 164 = .ok (.bipush 15, 2) := by decide +kernel
theorem dX8_beat_166 : decode cX8_beat 166 = .ok (.iload 6, 2) := by decide +kernel
theorem dX8_beat_168 : decode cX8_beat 168 = .ok (.iastore, 1) := by decide +kernel
theorem dX8_beat_169 : decode cX8_beat 169 = .ok (.aload_n 0, 1) := by decide +kernel
theorem dX8_beat_170 : decode cX8_beat 170 = .ok (.getfield 13, 3) := by decide +kernel
theorem dX8_beat_173 : decode cX8_beat 173 = .ok (.bipush 16, 2) := by decide +kernel
theorem dX8_beat_175 : decode cX8_beat 175 = .ok (.dup2, 1) := by decide +kernel
theorem dX8_beat_176 : decode cX8_beat 176 = .ok (.iaload, 1) := by decide +kernel
theorem dX8_beat_177 : decode cX8_beat 177 = .ok (.iload 6, 2) := by decide +kernel
theorem dX8_beat_179 : decode cX8_beat 179 = .ok (.iadd, 1) := by decide +kernel
theorem dX8_beat_180 : decode cX8_beat 180 = .ok (.iastore, 1) := by decide +kernel
theorem dX8_beat_181 : decode cX8_beat 181 = .ok (.aload_n 0, 1) := by decide +kernel
theorem dX8_beat_182 : decode cX8_beat 182 = .ok (.iload_n 3, 1) := by decide +kernel
theorem dX8_beat_183 : decode cX8_beat 183 = .ok (.invokevirtual 239, 3) := by decide +kernel
theorem dX8_beat_186 : decode cX8_beat 186 = .ok (.istore 7, 2) := by decide +kernel
theorem dX8_beat_188 : decode cX8_beat 188 = .ok (.aload_n 0, 1) := by decide +kernel
theorem dX8_beat_189 : decode cX8_beat 189 = .ok (.getfield 13, 3) := by decide +kernel
theorem dX8_beat_192 : decode cX8_beat 192 = .ok (.iload 7, 2) := by decide +kernel
theorem dX8_beat_194 : decode cX8_beat 194 = .ok (.iload 6, 2) := by decide +kernel
theorem dX8_beat_196 : decode cX8_beat 196 = .ok (.ifCond .le 15, 3) := by decide +kernel
theorem dX8_beat_199 : decode cX8_beat 199 = .ok (.iload_n 3, 1) := by decide +kernel
theorem dX8_beat_200 : decode cX8_beat 200 = .ok (.iconst 2, 1) := by decide +kernel
theorem dX8_beat_201 : decode cX8_beat 201 = .ok (.iload 6, 2) := by decide +kernel
theorem dX8_beat_203 : decode cX8_beat 203 = .ok (.invokestatic 220, 3) := by decide +kernel
theorem dX8_beat_206 : decode cX8_beat 206 = .ok (.imul, 1) := by decide +kernel
theorem dX8_beat_207 : decode cX8_beat 207 = .ok (.iadd, 1) := by decide +kernel
theorem dX8_beat_208 : decode cX8_beat 208 = .ok (.goto 4, 3) := by decide +kernel
theorem dX8_beat_211 : decode cX8_beat 211 = .ok (.iconst 0, 1) := by decide +kernel
theorem dX8_beat_212 : decode cX8_beat 212 = .ok (.iastore, 1) := by decide +kernel
theorem dX8_beat_213 : decode cX8_beat 213 = .ok (.iconst 3, 1) := by decide +kernel
theorem dX8_beat_214 : decode cX8_beat 214 = .ok (.istore 8, 2) := by decide +kernel
theorem dX8_beat_216 : decode cX8_beat 216 = .ok (.iload 8, 2) := by decide +kernel
theorem dX8_beat_218 : decode cX8_beat 218 = .ok (.bipush 13, 2) := by decide +kernel
theorem dX8_beat_220 : decode cX8_beat 220 = .ok (.if_icmp .ge 20, 3) := by decide +kernel
theorem dX8_beat_223 : decode cX8_beat 223 = .ok (.aload_n 0, 1) := by decide +kernel
theorem dX8_beat_224 : decode cX8_beat 224 = .ok (.getfield 13, 3) := by decide +kernel
theorem dX8_beat_227 : decode cX8_beat 227 = .ok (.iload 7, 2) := by decide +kernel
theorem dX8_beat_229 : decode cX8_beat 229 = .ok (.iload 8, 2) := by decide +kernel
theorem dX8_beat_231 : decode cX8_beat 231 = .ok (.iadd, 1) := by decide +kernel
theorem dX8_beat_232 : decode cX8_beat 232 = .ok (.iconst 0, 1) := by decide +kernel
theorem dX8_beat_233 : decode cX8_beat 233 = .ok (.iastore, 1) := by decide +kernel
theorem dX8_beat_234 : decode cX8_beat 234 = .ok (.iinc 8 1, 3) := by decide +kernel
theorem dX8_beat_237 : decode cX8_beat 237 = .ok (.goto (-21), 3) := by decide +kernel
theorem dX8_beat_240 : decode cX8_beat 240 = .ok (.aload_n 0, 1) := by decide +kernel
theorem dX8_beat_241 : decode cX8_beat 241 = .ok (.getfield 13, 3) := by decide +kernel
theorem dX8_beat_244 : decode cX8_beat 244 = .ok (.iload 7, 2) := by decide +kernel
theorem dX8_beat_246 : decode cX8_beat 246 = .ok (.iconst 1, 1) := by decide +kernel
theorem dX8_beat_247 : decode cX8_beat 247 = .ok (.iadd, 1) := by decide +kernel
theorem dX8_beat_248 : decode cX8_beat 248 = .ok (.aload_n 0, 1) := by decide +kernel
theorem dX8_beat_249 : decode cX8_beat 249 = .ok (.getfield 13, 3) := by decide +kernel
theorem dX8_beat_252 : decode cX8_beat 252 = .ok (.iconst 3, 1) := by decide +kernel
theorem dX8_beat_253 : decode cX8_beat 253 = .ok (.iaload, 1) := by decide +kernel
theorem dX8_beat_254 : decode cX8_beat 254 = .ok (.iastore, 1) := by decide +kernel
theorem dX8_beat_255 : decode cX8_beat 255 = .ok (.aload_n 0, 1) := by decide +kernel
theorem dX8_beat_256 : decode cX8_beat 256 = .ok (.getfield 13, 3) := by decide +kernel
theorem dX8_beat_259 : decode cX8_beat 259 = .ok (.iload 7, 2) := by decide +kernel
theorem dX8_beat_261 : decode cX8_beat 261 = .ok (.iconst 2, 1) := by decide +kernel
theorem dX8_beat_262 : decode cX8_beat 262 = .ok (.iadd, 1) := by decide +kernel
theorem dX8_beat_263 : decode cX8_beat 263 = .ok (.aload_n 0, 1) := by decide +kernel
theorem dX8_beat_264 : decode cX8_beat 264 = .ok (.getfield 13, 3) := by decide +kernel
theorem dX8_beat_267 : decode cX8_beat 267 = .ok (.iconst 4, 1) := by decide +kernel
theorem dX8_beat_268 : decode cX8_beat 268 = .ok (.iaload, 1) := by decide +kernel
theorem dX8_beat_269 : decode cX8_beat 269 = .ok (.iastore, 1) := by decide +kernel
theorem dX8_beat_270 : decode cX8_beat 270 = .ok (.iconst 0, 1) := by decide +kernel
theorem dX8_beat_271 : decode cX8_beat 271 = .ok (.istore 8, 2) := by decide +kernel
theorem dX8_beat_273 : decode cX8_beat 273 = .ok (.iload 8, 2) := by decide +kernel
theorem dX8_beat_275 : decode cX8_beat 275 = .ok (.aload_n 0, 1) := by decide +kernel
theorem dX8_beat_276 : decode cX8_beat 276 = .ok (.getfield 13, 3) := by decide +kernel
theorem dX8_beat_279 : decode cX8_beat 279 = .ok (.bipush 10, 2) := by decide +kernel
theorem dX8_beat_281 : decode cX8_beat 281 = .ok (.iaload, 1) := by decide +kernel
theorem dX8_beat_282 : decode cX8_beat 282 = .ok (.if_icmp .ge 30, 3) := by decide +kernel
theorem dX8_beat_285 : decode cX8_beat 285 = .ok (.iload 6, 2) := by decide +kernel
theorem dX8_beat_287 : decode cX8_beat 287 = .ok (.ifCond .le 25, 3) := by decide +kernel
theorem dX8_beat_290 : decode cX8_beat 290 = .ok (.aload_n 0, 1) := by decide +kernel
theorem dX8_beat_291 : decode cX8_beat 291 = .ok (.getfield 13, 3) := by decide +kernel
theorem dX8_beat_294 : decode cX8_beat 294 = .ok (.bipush 21, 2) := by decide +kernel
theorem dX8_beat_296 : decode cX8_beat 296 = .ok (.dup2, 1) := by decide +kernel
theorem dX8_beat_297 : decode cX8_beat 297 = .ok (.iaload, 1) := by decide +kernel
theorem dX8_beat_298 : decode cX8_beat 298 = .ok (.aload_n 0, 1) := by decide +kernel
theorem dX8_beat_299 : decode cX8_beat 299 = .ok (.iload 8, 2) := by decide +kernel
theorem dX8_beat_301 : decode cX8_beat 301 = .ok (.invokevirtual 245, 3) := by decide +kernel
theorem dX8_beat_304 : decode cX8_beat 304 = .ok (.iadd, 1) := by decide +kernel
theorem dX8_beat_305 : decode cX8_beat 305 = .ok (.iastore, 1) := by decide +kernel
theorem dX8_beat_306 : decode cX8_beat 306 = .ok (.iinc 8 1, 3) := by decide +kernel
theorem dX8_beat_309 : decode cX8_beat 309 = .ok (.goto (-36), 3) := by decide +kernel
theorem dX8_beat_312 : decode cX8_beat 312 = .ok (.iload_n 2, 1) := by decide +kernel
theorem dX8_beat_313 : decode cX8_beat 313 = .ok (.ireturn, 1) := by decide +kernel
theorem dX8_blow_0 : decode cX8_blow 0 = .ok (.aload_n 0, 1) := by decide +kernel
theorem dX8_blow_1 : decode cX8_blow 1 = .ok (.invokevirtual 278, 3) := by decide +kernel
theorem dX8_blow_4 : decode cX8_blow 4 = .ok (.ifCond .eq 19, 3) := by decide +kernel
theorem dX8_blow_7 : decode cX8_blow 7 = .ok (.iload_n 1, 1) := by decide +kernel
theorem dX8_blow_8 : decode cX8_blow 8 = .ok (.i2l, 1) := by decide +kernel
theorem dX8_blow_9 : decode cX8_blow 9 = .ok (.invokestatic 281, 3) := by decide +kernel
theorem dX8_blow_12 : decode cX8_blow 12 = .ok (.ifCond .eq 11, 3) := by decide +kernel
theorem dX8_blow_15 : decode cX8_blow 15 = .ok (.aload_n 0, 1) := by decide +kernel
theorem dX8_blow_16 : decode cX8_blow 16 = .ok (.iload_n 1, 1) := by decide +kernel
theorem dX8_blow_17 : decode cX8_blow 17 = .ok (.invokevirtual 285, 3) := by decide +kernel
theorem dX8_blow_20 : decode cX8_blow 20 = .ok (.goto 5, 3) := by decide +kernel
theorem dX8_blow_23 : decode cX8_blow 23 = .ok (.bipush (-2), 2) := by decide +kernel
theorem dX8_blow_25 : decode cX8_blow 25 = .ok (.ireturn, 1) := by decide +kernel
theorem dX8_blows_0 : decode cX8_blows 0 = .ok (.aload_n 0, 1) := by decide +kernel
theorem dX8_blows_1 : decode cX8_blows 1 = .ok (.invokevirtual 278, 3) := by decide +kernel
theorem dX8_blows_4 : decode cX8_blows 4 = .ok (.ifCond .eq 23, 3) := by decide +kernel
theorem dX8_blows_7 : decode cX8_blows 7 = .ok (.iload_n 1, 1) := by decide +kernel
theorem dX8_blows_8 : decode cX8_blows 8 = .ok (.i2l, 1) := by decide +kernel
theorem dX8_blows_9 : decode cX8_blows 9 = .ok (.invokestatic 281, 3) := by decide +kernel
theorem dX8_blows_12 : decode cX8_blows 12 = .ok (.ifCond .eq 15, 3) := by decide +kernel
theorem dX8_blows_15 : decode cX8_blows 15 = .ok (.iload_n 2, 1) := by decide +kernel
theorem dX8_blows_16 : decode cX8_blows 16 = .ok (.i2l, 1) := by decide +kernel
theorem dX8_blows_17 : decode cX8_blows 17 = .ok (.lconst 0, 1) := by decide +kernel
theorem dX8_blows_18 : decode cX8_blows 18 = .ok (.ldc2_w 288, 3) := by decide +kernel
theorem dX8_blows_21 : decode cX8_blows 21 = .ok (.invokestatic 68, 3) := by decide +kernel
theorem dX8_blows_24 : decode cX8_blows 24 = .ok (.ifCond .ne 6, 3) := by decide +kernel
theorem dX8_blows_27 : decode cX8_blows 27 = .ok (.bipush (-2), 2) := by decide +kernel
theorem dX8_blows_29 : decode cX8_blows 29 = .ok (.ireturn, 1) := by decide +kernel
theorem dX8_blows_30 : decode cX8_blows 30 = .ok (.iconst 0, 1) := by decide +kernel
theorem dX8_blows_31 : decode cX8_blows 31 = .ok (.istore_n 3, 1) := by decide +kernel
theorem dX8_blows_32 : decode cX8_blows 32 = .ok (.iconst 0, 1) := by decide +kernel
theorem dX8_blows_33 : decode cX8_blows 33 = .ok (.istore 4, 2) := by decide +kernel
theorem dX8_blows_35 : decode cX8_blows 35 = .ok (.iload 4, 2) := by decide +kernel
theorem dX8_blows_37 : decode cX8_blows 37 = .ok (.iload_n 2, 1) := by decide +kernel
theorem dX8_blows_38 : decode cX8_blows 38 = .ok (.if_icmp .ge 17, 3) := by decide +kernel
theorem dX8_blows_41 : decode cX8_blows 41 = .ok (.iload_n 3, 1) := by decide +kernel
theorem dX8_blows_42 : decode cX8_blows 42 = .ok (.aload_n 0, 1) := by decide +kernel
theorem dX8_blows_43 : decode cX8_blows 43 = .ok (.iload_n 1, 1) := by decide +kernel
theorem dX8_blows_44 : decode cX8_blows 44 = .ok (.invokevirtual 285, 3) := by decide +kernel
theorem dX8_blows_47 : decode cX8_blows 47 = .ok (.iadd, 1) := by decide +kernel
theorem dX8_blows_48 : decode cX8_blows 48 = .ok (.istore_n 3, 1) := by decide +kernel
theorem dX8_blows_49 : decode cX8_blows 49 = .ok (.iinc 4 1, 3) := by decide +kernel
theorem dX8_blows_52 : decode cX8_blows 52 = .ok (.goto (-17), 3) := by decide +kernel
theorem dX8_blows_55 : decode cX8_blows 55 = .ok (.iload_n 3, 1) := by decide +kernel
theorem dX8_blows_56 : decode cX8_blows 56 = .ok (.ireturn, 1) := by decide +kernel
theorem dX8_asks_0 : decode cX8_asks 0 = .ok (.iload_n 1, 1) := by decide +kernel
theorem dX8_asks_1 : decode cX8_asks 1 = .ok (.invokestatic 290, 3) := by decide +kernel
theorem dX8_asks_4 : decode cX8_asks 4 = .ok (.ifCond .eq 10, 3) := by decide +kernel
theorem dX8_asks_7 : decode cX8_asks 7 = .ok (.aload_n 0, 1) := by decide +kernel
theorem dX8_asks_8 : decode cX8_asks 8 = .ok (.invokevirtual 278, 3) := by decide +kernel
theorem dX8_asks_11 : decode cX8_asks 11 = .ok (.ifCond .ne 6, 3) := by decide +kernel
theorem dX8_asks_14 : decode cX8_asks 14 = .ok (.bipush (-2), 2) := by decide +kernel
theorem dX8_asks_16 : decode cX8_asks 16 = .ok (.ireturn, 1) := by decide +kernel
theorem dX8_asks_17 : decode cX8_asks 17 = .ok (.aload_n 0, 1) := by decide +kernel
theorem dX8_asks_18 : decode cX8_asks 18 = .ok (.getfield 49, 3) := by decide +kernel
theorem dX8_asks_21 : decode cX8_asks 21 = .ok (.iload_n 1, 1) := by decide +kernel
theorem dX8_asks_22 : decode cX8_asks 22 = .ok (.iaload, 1) := by decide +kernel
theorem dX8_asks_23 : decode cX8_asks 23 = .ok (.iconst (-1), 1) := by decide +kernel
theorem dX8_asks_24 : decode cX8_asks 24 = .ok (.if_icmp .ne 6, 3) := by decide +kernel
theorem dX8_asks_27 : decode cX8_asks 27 = .ok (.bipush (-6), 2) := by decide +kernel
theorem dX8_asks_29 : decode cX8_asks 29 = .ok (.ireturn, 1) := by decide +kernel
theorem dX8_asks_30 : decode cX8_asks 30 = .ok (.iconst 0, 1) := by decide +kernel
theorem dX8_asks_31 : decode cX8_asks 31 = .ok (.istore_n 2, 1) := by decide +kernel
theorem dX8_asks_32 : decode cX8_asks 32 = .ok (.iload_n 2, 1) := by decide +kernel
theorem dX8_asks_33 : decode cX8_asks 33 = .ok (.aload_n 0, 1) := by decide +kernel
theorem dX8_asks_34 : decode cX8_asks 34 = .ok (.getfield 49, 3) := by decide +kernel
theorem dX8_asks_37 : decode cX8_asks 37 = .ok (.iload_n 1, 1) := by decide +kernel
theorem dX8_asks_38 : decode cX8_asks 38 = .ok (.iaload, 1) := by decide +kernel
theorem dX8_asks_39 : decode cX8_asks 39 = .ok (.if_icmp .ge 29, 3) := by decide +kernel
theorem dX8_asks_42 : decode cX8_asks 42 = .ok (.aload_n 0, 1) := by decide +kernel
theorem dX8_asks_43 : decode cX8_asks 43 = .ok (.getfield 55, 3) := by decide +kernel
theorem dX8_asks_46 : decode cX8_asks 46 = .ok (.bipush 60, 2) := by decide +kernel
theorem dX8_asks_48 : decode cX8_asks 48 = .ok (.iload_n 1, 1) := by decide +kernel
theorem dX8_asks_49 : decode cX8_asks 49 = .ok (.imul, 1) := by decide +kernel
theorem dX8_asks_50 : decode cX8_asks 50 = .ok (.iload_n 2, 1) := by decide +kernel
theorem dX8_asks_51 : decode cX8_asks 51 = .ok (.iadd, 1) := by decide +kernel
theorem dX8_asks_52 : decode cX8_asks 52 = .ok (.laload, 1) := by decide +kernel
theorem dX8_asks_53 : decode cX8_asks 53 = .ok (.invokestatic 281, 3) := by decide +kernel
theorem dX8_asks_56 : decode cX8_asks 56 = .ok (.ifCond .ne 6, 3) := by decide +kernel
theorem dX8_asks_59 : decode cX8_asks 59 = .ok (.bipush (-2), 2) := by decide +kernel
theorem dX8_asks_61 : decode cX8_asks 61 = .ok (.ireturn, 1) := by decide +kernel
theorem dX8_asks_62 : decode cX8_asks 62 = .ok (.iinc 2 1, 3) := by decide +kernel
theorem dX8_asks_65 : decode cX8_asks 65 = .ok (.goto (-33), 3) := by decide +kernel
theorem dX8_asks_68 : decode cX8_asks 68 = .ok (.iconst 0, 1) := by decide +kernel
theorem dX8_asks_69 : decode cX8_asks 69 = .ok (.ireturn, 1) := by decide +kernel
theorem dX8_windOf_0 : decode cX8_windOf 0 = .ok (.aload_n 0, 1) := by decide +kernel
theorem dX8_windOf_1 : decode cX8_windOf 1 = .ok (.getfield 55, 3) := by decide +kernel
theorem dX8_windOf_4 : decode cX8_windOf 4 = .ok (.bipush 60, 2) := by decide +kernel
theorem dX8_windOf_6 : decode cX8_windOf 6 = .ok (.iload_n 1, 1) := by decide +kernel
theorem dX8_windOf_7 : decode cX8_windOf 7 = .ok (.imul, 1) := by decide +kernel
theorem dX8_windOf_8 : decode cX8_windOf 8 = .ok (.iload_n 2, 1) := by decide +kernel
theorem dX8_windOf_9 : decode cX8_windOf 9 = .ok (.iadd, 1) := by decide +kernel
theorem dX8_windOf_10 : decode cX8_windOf 10 = .ok (.laload, 1) := by decide +kernel
theorem dX8_windOf_11 : decode cX8_windOf 11 = .ok (.l2i, 1) := by decide +kernel
theorem dX8_windOf_12 : decode cX8_windOf 12 = .ok (.ireturn, 1) := by decide +kernel
theorem dX8_days_0 : decode cX8_days 0 = .ok (.iconst 0, 1) := by decide +kernel
theorem dX8_days_1 : decode cX8_days 1 = .ok (.istore_n 2, 1) := by decide +kernel
theorem dX8_days_2 : decode cX8_days 2 = .ok (.iconst 0, 1) := by decide +kernel
theorem dX8_days_3 : decode cX8_days 3 = .ok (.istore_n 3, 1) := by decide +kernel
theorem dX8_days_4 : decode cX8_days 4 = .ok (.iload_n 3, 1) := by decide +kernel
theorem dX8_days_5 : decode cX8_days 5 = .ok (.aload_n 0, 1) := by decide +kernel
theorem dX8_days_6 : decode cX8_days 6 = .ok (.getfield 49, 3) := by decide +kernel
theorem dX8_days_9 : decode cX8_days 9 = .ok (.iload_n 1, 1) := by decide +kernel
theorem dX8_days_10 : decode cX8_days 10 = .ok (.iaload, 1) := by decide +kernel
theorem dX8_days_11 : decode cX8_days 11 = .ok (.if_icmp .ge 22, 3) := by decide +kernel
theorem dX8_days_14 : decode cX8_days 14 = .ok (.iload_n 2, 1) := by decide +kernel
theorem dX8_days_15 : decode cX8_days 15 = .ok (.aload_n 0, 1) := by decide +kernel
theorem dX8_days_16 : decode cX8_days 16 = .ok (.aload_n 0, 1) := by decide +kernel
theorem dX8_days_17 : decode cX8_days 17 = .ok (.iload_n 1, 1) := by decide +kernel
theorem dX8_days_18 : decode cX8_days 18 = .ok (.iload_n 3, 1) := by decide +kernel
theorem dX8_days_19 : decode cX8_days 19 = .ok (.invokevirtual 293, 3) := by decide +kernel
theorem dX8_days_22 : decode cX8_days 22 = .ok (.invokevirtual 285, 3) := by decide +kernel
theorem dX8_days_25 : decode cX8_days 25 = .ok (.iadd, 1) := by decide +kernel
theorem dX8_days_26 : decode cX8_days 26 = .ok (.istore_n 2, 1) := by decide +kernel
theorem dX8_days_27 : decode cX8_days 27 = .ok (.iinc 3 1, 3) := by decide +kernel
theorem dX8_days_30 : decode cX8_days 30 = .ok (.goto (-26), 3) := by decide +kernel
theorem dX8_days_33 : decode cX8_days 33 = .ok (.iload_n 2, 1) := by decide +kernel
theorem dX8_days_34 : decode cX8_days 34 = .ok (.ireturn, 1) := by decide +kernel
theorem dX8_day_0 : decode cX8_day 0 = .ok (.aload_n 0, 1) := by decide +kernel
theorem dX8_day_1 : decode cX8_day 1 = .ok (.iload_n 1, 1) := by decide +kernel
theorem dX8_day_2 : decode cX8_day 2 = .ok (.invokevirtual 296, 3) := by decide +kernel
theorem dX8_day_5 : decode cX8_day 5 = .ok (.istore_n 2, 1) := by decide +kernel
theorem dX8_day_6 : decode cX8_day 6 = .ok (.iload_n 2, 1) := by decide +kernel
theorem dX8_day_7 : decode cX8_day 7 = .ok (.ifCond .ge 7, 3) := by decide +kernel
theorem dX8_day_10 : decode cX8_day 10 = .ok (.iload_n 2, 1) := by decide +kernel
theorem dX8_day_11 : decode cX8_day 11 = .ok (.goto 8, 3) := by decide +kernel
theorem dX8_day_14 : decode cX8_day 14 = .ok (.aload_n 0, 1) := by decide +kernel
theorem dX8_day_15 : decode cX8_day 15 = .ok (.iload_n 1, 1) := by decide +kernel
theorem dX8_day_16 : decode cX8_day 16 = .ok (.invokevirtual 299, 3) := by decide +kernel
theorem dX8_day_19 : decode cX8_day 19 = .ok (.ireturn, 1) := by decide +kernel
theorem dX8_wet_0 : decode cX8_wet 0 = .ok (.aload_n 0, 1) := by decide +kernel
theorem dX8_wet_1 : decode cX8_wet 1 = .ok (.iload_n 1, 1) := by decide +kernel
theorem dX8_wet_2 : decode cX8_wet 2 = .ok (.iload_n 2, 1) := by decide +kernel
theorem dX8_wet_3 : decode cX8_wet 3 = .ok (.invokevirtual 248, 3) := by decide +kernel
theorem dX8_wet_6 : decode cX8_wet 6 = .ok (.ifCond .eq 12, 3) := by decide +kernel
theorem dX8_wet_9 : decode cX8_wet 9 = .ok (.aload_n 0, 1) := by decide +kernel
theorem dX8_wet_10 : decode cX8_wet 10 = .ok (.iload_n 1, 1) := by decide +kernel
theorem dX8_wet_11 : decode cX8_wet 11 = .ok (.iload_n 2, 1) := by decide +kernel
theorem dX8_wet_12 : decode cX8_wet 12 = .ok (.invokevirtual 76, 3) := by decide +kernel
theorem dX8_wet_15 : decode cX8_wet 15 = .ok (.goto 5, 3) := by decide +kernel
theorem dX8_wet_18 : decode cX8_wet 18 = .ok (.bipush (-2), 2) := by decide +kernel
theorem dX8_wet_20 : decode cX8_wet 20 = .ok (.ireturn, 1) := by decide +kernel
theorem dX8_table_0 : decode cX8_table 0 = .ok (.aload_n 0, 1) := by decide +kernel
theorem dX8_table_1 : decode cX8_table 1 = .ok (.iload_n 1, 1) := by decide +kernel
theorem dX8_table_2 : decode cX8_table 2 = .ok (.invokevirtual 302, 3) := by decide +kernel
theorem dX8_table_5 : decode cX8_table 5 = .ok (.ifCond .eq 15, 3) := by decide +kernel
theorem dX8_table_8 : decode cX8_table 8 = .ok (.iload_n 2, 1) := by decide +kernel
theorem dX8_table_9 : decode cX8_table 9 = .ok (.i2l, 1) := by decide +kernel
theorem dX8_table_10 : decode cX8_table 10 = .ok (.lconst 0, 1) := by decide +kernel
theorem dX8_table_11 : decode cX8_table 11 = .ok (.ldc2_w 305, 3) := by decide +kernel
theorem dX8_table_14 : decode cX8_table 14 = .ok (.invokestatic 68, 3) := by decide +kernel
theorem dX8_table_17 : decode cX8_table 17 = .ok (.ifCond .ne 6, 3) := by decide +kernel
theorem dX8_table_20 : decode cX8_table 20 = .ok (.bipush (-2), 2) := by decide +kernel
theorem dX8_table_22 : decode cX8_table 22 = .ok (.ireturn, 1) := by decide +kernel
theorem dX8_table_23 : decode cX8_table 23 = .ok (.iload_n 2, 1) := by decide +kernel
theorem dX8_table_24 : decode cX8_table 24 = .ok (.iconst 3, 1) := by decide +kernel
theorem dX8_table_25 : decode cX8_table 25 = .ok (.if_icmp .ge 12, 3) := by decide +kernel
theorem dX8_table_28 : decode cX8_table 28 = .ok (.aload_n 0, 1) := by decide +kernel
theorem dX8_table_29 : decode cX8_table 29 = .ok (.iload_n 1, 1) := by decide +kernel
theorem dX8_table_30 : decode cX8_table 30 = .ok (.iload_n 2, 1) := by decide +kernel
theorem dX8_table_31 : decode cX8_table 31 = .ok (.invokevirtual 72, 3) := by decide +kernel
theorem dX8_table_34 : decode cX8_table 34 = .ok (.goto 8, 3) := by decide +kernel
theorem dX8_table_37 : decode cX8_table 37 = .ok (.aload_n 0, 1) := by decide +kernel
theorem dX8_table_38 : decode cX8_table 38 = .ok (.iload_n 1, 1) := by decide +kernel
theorem dX8_table_39 : decode cX8_table 39 = .ok (.invokevirtual 307, 3) := by decide +kernel
theorem dX8_table_42 : decode cX8_table 42 = .ok (.ireturn, 1) := by decide +kernel
theorem dX8_overSet_0 : decode cX8_overSet 0 = .ok (.iconst 0, 1) := by decide +kernel
theorem dX8_overSet_1 : decode cX8_overSet 1 = .ok (.istore_n 1, 1) := by decide +kernel
theorem dX8_overSet_2 : decode cX8_overSet 2 = .ok (.iconst 0, 1) := by decide +kernel
theorem dX8_overSet_3 : decode cX8_overSet 3 = .ok (.istore_n 2, 1) := by decide +kernel
theorem dX8_overSet_4 : decode cX8_overSet 4 = .ok (.iload_n 2, 1) := by decide +kernel
theorem dX8_overSet_5 : decode cX8_overSet 5 = .ok (.aload_n 0, 1) := by decide +kernel
theorem dX8_overSet_6 : decode cX8_overSet 6 = .ok (.getfield 13, 3) := by decide +kernel
theorem dX8_overSet_9 : decode cX8_overSet 9 = .ok (.bipush 11, 2) := by decide +kernel
theorem dX8_overSet_11 : decode cX8_overSet 11 = .ok (.iaload, 1) := by decide +kernel
theorem dX8_overSet_12 : decode cX8_overSet 12 = .ok (.if_icmp .ge 33, 3) := by decide +kernel
theorem dX8_overSet_15 : decode cX8_overSet 15 = .ok (.iload_n 1, 1) := by decide +kernel
theorem dX8_overSet_16 : decode cX8_overSet 16 = .ok (.aload_n 0, 1) := by decide +kernel
theorem dX8_overSet_17 : decode cX8_overSet 17 = .ok (.iload_n 2, 1) := by decide +kernel
theorem dX8_overSet_18 : decode cX8_overSet 18 = .ok (.invokevirtual 307, 3) := by decide +kernel
theorem dX8_overSet_21 : decode cX8_overSet 21 = .ok (.aload_n 0, 1) := by decide +kernel
theorem dX8_overSet_22 : decode cX8_overSet 22 = .ok (.iload_n 2, 1) := by decide +kernel
theorem dX8_overSet_23 : decode cX8_overSet 23 = .ok (.iconst 2, 1) := by decide +kernel
theorem dX8_overSet_24 : decode cX8_overSet 24 = .ok (.invokevirtual 72, 3) := by decide +kernel
theorem dX8_overSet_27 : decode cX8_overSet 27 = .ok (.if_icmp .le 9, 3) := by decide +kernel
theorem dX8_overSet_30 : decode cX8_overSet 30 = .ok (.iconst 1, 1) := by decide +kernel
theorem dX8_overSet_31 : decode cX8_overSet 31 = .ok (.iload_n 2, 1) := by decide +kernel
theorem dX8_overSet_32 : decode cX8_overSet 32 = .ok (.ishl, 1) := by decide +kernel
theorem dX8_overSet_33 : decode cX8_overSet 33 = .ok (.goto 4, 3) := by decide +kernel
theorem dX8_overSet_36 : decode cX8_overSet 36 = .ok (.iconst 0, 1) := by decide +kernel
theorem dX8_overSet_37 : decode cX8_overSet 37 = .ok (.ior, 1) := by decide +kernel
theorem dX8_overSet_38 : decode cX8_overSet 38 = .ok (.istore_n 1, 1) := by decide +kernel
theorem dX8_overSet_39 : decode cX8_overSet 39 = .ok (.iinc 2 1, 3) := by decide +kernel
theorem dX8_overSet_42 : decode cX8_overSet 42 = .ok (.goto (-38), 3) := by decide +kernel
theorem dX8_overSet_45 : decode cX8_overSet 45 = .ok (.iload_n 1, 1) := by decide +kernel
theorem dX8_overSet_46 : decode cX8_overSet 46 = .ok (.ireturn, 1) := by decide +kernel
theorem dX8_over_0 : decode cX8_over 0 = .ok (.aload_n 0, 1) := by decide +kernel
theorem dX8_over_1 : decode cX8_over 1 = .ok (.invokevirtual 310, 3) := by decide +kernel
theorem dX8_over_4 : decode cX8_over 4 = .ok (.ireturn, 1) := by decide +kernel
theorem dX8_lumpsUp_0 : decode cX8_lumpsUp 0 = .ok (.iconst 0, 1) := by decide +kernel
theorem dX8_lumpsUp_1 : decode cX8_lumpsUp 1 = .ok (.istore_n 1, 1) := by decide +kernel
theorem dX8_lumpsUp_2 : decode cX8_lumpsUp 2 = .ok (.aload_n 0, 1) := by decide +kernel
theorem dX8_lumpsUp_3 : decode cX8_lumpsUp 3 = .ok (.invokevirtual 251, 3) := by decide +kernel
theorem dX8_lumpsUp_6 : decode cX8_lumpsUp 6 = .ok (.istore_n 2, 1) := by decide +kernel
theorem dX8_lumpsUp_7 : decode cX8_lumpsUp 7 = .ok (.iload_n 2, 1) := by decide +kernel
theorem dX8_lumpsUp_8 : decode cX8_lumpsUp 8 = .ok (.aload_n 0, 1) := by decide +kernel
theorem dX8_lumpsUp_9 : decode cX8_lumpsUp 9 = .ok (.getfield 13, 3) := by decide +kernel
theorem dX8_lumpsUp_12 : decode cX8_lumpsUp 12 = .ok (.bipush 14, 2) := by decide +kernel
theorem dX8_lumpsUp_14 : decode cX8_lumpsUp 14 = .ok (.iaload, 1) := by decide +kernel
theorem dX8_lumpsUp_15 : decode cX8_lumpsUp 15 = .ok (.if_icmp .gt 25, 3) := by decide +kernel
theorem dX8_lumpsUp_18 : decode cX8_lumpsUp 18 = .ok (.iload_n 1, 1) := by decide +kernel
theorem dX8_lumpsUp_19 : decode cX8_lumpsUp 19 = .ok (.aload_n 0, 1) := by decide +kernel
theorem dX8_lumpsUp_20 : decode cX8_lumpsUp 20 = .ok (.iload_n 2, 1) := by decide +kernel
theorem dX8_lumpsUp_21 : decode cX8_lumpsUp 21 = .ok (.invokevirtual 254, 3) := by decide +kernel
theorem dX8_lumpsUp_24 : decode cX8_lumpsUp 24 = .ok (.ifCond .eq 7, 3) := by decide +kernel
theorem dX8_lumpsUp_27 : decode cX8_lumpsUp 27 = .ok (.iconst 1, 1) := by decide +kernel
theorem dX8_lumpsUp_28 : decode cX8_lumpsUp 28 = .ok (.goto 4, 3) := by decide +kernel
theorem dX8_lumpsUp_31 : decode cX8_lumpsUp 31 = .ok (.iconst 0, 1) := by decide +kernel
theorem dX8_lumpsUp_32 : decode cX8_lumpsUp 32 = .ok (.iadd, 1) := by decide +kernel
theorem dX8_lumpsUp_33 : decode cX8_lumpsUp 33 = .ok (.istore_n 1, 1) := by decide +kernel
theorem dX8_lumpsUp_34 : decode cX8_lumpsUp 34 = .ok (.iinc 2 1, 3) := by decide +kernel
theorem dX8_lumpsUp_37 : decode cX8_lumpsUp 37 = .ok (.goto (-30), 3) := by decide +kernel
theorem dX8_lumpsUp_40 : decode cX8_lumpsUp 40 = .ok (.iload_n 1, 1) := by decide +kernel
theorem dX8_lumpsUp_41 : decode cX8_lumpsUp 41 = .ok (.ireturn, 1) := by decide +kernel
theorem dX8_lumpDrops_0 : decode cX8_lumpDrops 0 = .ok (.iconst 0, 1) := by decide +kernel
theorem dX8_lumpDrops_1 : decode cX8_lumpDrops 1 = .ok (.istore_n 1, 1) := by decide +kernel
theorem dX8_lumpDrops_2 : decode cX8_lumpDrops 2 = .ok (.iconst 0, 1) := by decide +kernel
theorem dX8_lumpDrops_3 : decode cX8_lumpDrops 3 = .ok (.istore_n 2, 1) := by decide +kernel
theorem dX8_lumpDrops_4 : decode cX8_lumpDrops 4 = .ok (.iload_n 2, 1) := by decide +kernel
theorem dX8_lumpDrops_5 : decode cX8_lumpDrops 5 = .ok (.aload_n 0, 1) := by decide +kernel
theorem dX8_lumpDrops_6 : decode cX8_lumpDrops 6 = .ok (.getfield 13, 3) := by decide +kernel
theorem dX8_lumpDrops_9 : decode cX8_lumpDrops 9 = .ok (.bipush 10, 2) := by decide +kernel
theorem dX8_lumpDrops_11 : decode cX8_lumpDrops 11 = .ok (.iaload, 1) := by decide +kernel
theorem dX8_lumpDrops_12 : decode cX8_lumpDrops 12 = .ok (.if_icmp .ge 17, 3) := by decide +kernel
theorem dX8_lumpDrops_15 : decode cX8_lumpDrops 15 = .ok (.iload_n 1, 1) := by decide +kernel
theorem dX8_lumpDrops_16 : decode cX8_lumpDrops 16 = .ok (.aload_n 0, 1) := by decide +kernel
theorem dX8_lumpDrops_17 : decode cX8_lumpDrops 17 = .ok (.iload_n 2, 1) := by decide +kernel
theorem dX8_lumpDrops_18 : decode cX8_lumpDrops 18 = .ok (.invokevirtual 245, 3) := by decide +kernel
theorem dX8_lumpDrops_21 : decode cX8_lumpDrops 21 = .ok (.iadd, 1) := by decide +kernel
theorem dX8_lumpDrops_22 : decode cX8_lumpDrops 22 = .ok (.istore_n 1, 1) := by decide +kernel
theorem dX8_lumpDrops_23 : decode cX8_lumpDrops 23 = .ok (.iinc 2 1, 3) := by decide +kernel
theorem dX8_lumpDrops_26 : decode cX8_lumpDrops 26 = .ok (.goto (-22), 3) := by decide +kernel
theorem dX8_lumpDrops_29 : decode cX8_lumpDrops 29 = .ok (.iload_n 1, 1) := by decide +kernel
theorem dX8_lumpDrops_30 : decode cX8_lumpDrops 30 = .ok (.ireturn, 1) := by decide +kernel
theorem dX8_water_0 : decode cX8_water 0 = .ok (.iload_n 1, 1) := by decide +kernel
theorem dX8_water_1 : decode cX8_water 1 = .ok (.tableswitch 100 0 5 #[39, 49, 68, 76, 84, 92], 39) := by decide +kernel
theorem dX8_water_40 : decode cX8_water 40 = .ok (.aload_n 0, 1) := by decide +kernel
theorem dX8_water_41 : decode cX8_water 41 = .ok (.invokevirtual 313, 3) := by decide +kernel
theorem dX8_water_44 : decode cX8_water 44 = .ok (.aload_n 0, 1) := by decide +kernel
theorem dX8_water_45 : decode cX8_water 45 = .ok (.invokevirtual 316, 3) := by decide +kernel
theorem dX8_water_48 : decode cX8_water 48 = .ok (.imul, 1) := by decide +kernel
theorem dX8_water_49 : decode cX8_water 49 = .ok (.ireturn, 1) := by decide +kernel
theorem dX8_water_50 : decode cX8_water 50 = .ok (.aload_n 0, 1) := by decide +kernel
theorem dX8_water_51 : decode cX8_water 51 = .ok (.getfield 13, 3) := by decide +kernel
theorem dX8_water_54 : decode cX8_water 54 = .ok (.bipush 10, 2) := by decide +kernel
theorem dX8_water_56 : decode cX8_water 56 = .ok (.iaload, 1) := by decide +kernel
theorem dX8_water_57 : decode cX8_water 57 = .ok (.ifCond .ne 7, 3) := by decide +kernel
theorem dX8_water_60 : decode cX8_water 60 = .ok (.iconst 0, 1) := by decide +kernel
theorem dX8_water_61 : decode cX8_water 61 = .ok (.goto 7, 3) := by decide +kernel
theorem dX8_water_64 : decode cX8_water 64 = .ok (.aload_n 0, 1) := by decide +kernel
theorem dX8_water_65 : decode cX8_water 65 = .ok (.invokevirtual 313, 3) := by decide +kernel
theorem dX8_water_68 : decode cX8_water 68 = .ok (.ireturn, 1) := by decide +kernel
theorem dX8_water_69 : decode cX8_water 69 = .ok (.aload_n 0, 1) := by decide +kernel
theorem dX8_water_70 : decode cX8_water 70 = .ok (.getfield 13, 3) := by decide +kernel
theorem dX8_water_73 : decode cX8_water 73 = .ok (.bipush 18, 2) := by decide +kernel
theorem dX8_water_75 : decode cX8_water 75 = .ok (.iaload, 1) := by decide +kernel
theorem dX8_water_76 : decode cX8_water 76 = .ok (.ireturn, 1) := by decide +kernel
theorem dX8_water_77 : decode cX8_water 77 = .ok (.aload_n 0, 1) := by decide +kernel
theorem dX8_water_78 : decode cX8_water 78 = .ok (.getfield 13, 3) := by decide +kernel
theorem dX8_water_81 : decode cX8_water 81 = .ok (.bipush 19, 2) := by decide +kernel
theorem dX8_water_83 : decode cX8_water 83 = .ok (.iaload, 1) := by decide +kernel
theorem dX8_water_84 : decode cX8_water 84 = .ok (.ireturn, 1) := by decide +kernel
theorem dX8_water_85 : decode cX8_water 85 = .ok (.aload_n 0, 1) := by decide +kernel
theorem dX8_water_86 : decode cX8_water 86 = .ok (.getfield 13, 3) := by decide +kernel
theorem dX8_water_89 : decode cX8_water 89 = .ok (.bipush 20, 2) := by decide +kernel
theorem dX8_water_91 : decode cX8_water 91 = .ok (.iaload, 1) := by decide +kernel
theorem dX8_water_92 : decode cX8_water 92 = .ok (.ireturn, 1) := by decide +kernel
theorem dX8_water_93 : decode cX8_water 93 = .ok (.aload_n 0, 1) := by decide +kernel
theorem dX8_water_94 : decode cX8_water 94 = .ok (.getfield 13, 3) := by decide +kernel
theorem dX8_water_97 : decode cX8_water 97 = .ok (.bipush 21, 2) := by decide +kernel
theorem dX8_water_99 : decode cX8_water 99 = .ok (.iaload, 1) := by decide +kernel
theorem dX8_water_100 : decode cX8_water 100 = .ok (.ireturn, 1) := by decide +kernel
theorem dX8_water_101 : decode cX8_water 101 = .ok (.iconst (-1), 1) := by decide +kernel
theorem dX8_water_102 : decode cX8_water 102 = .ok (.ireturn, 1) := by decide +kernel
theorem dX8_jet_0 : decode cX8_jet 0 = .ok (.iload_n 1, 1) := by decide +kernel
theorem dX8_jet_1 : decode cX8_jet 1 = .ok (.ifCond .ne 13, 3) := by decide +kernel
theorem dX8_jet_4 : decode cX8_jet 4 = .ok (.aload_n 0, 1) := by decide +kernel
theorem dX8_jet_5 : decode cX8_jet 5 = .ok (.getfield 13, 3) := by decide +kernel
theorem dX8_jet_8 : decode cX8_jet 8 = .ok (.bipush 15, 2) := by decide +kernel
theorem dX8_jet_10 : decode cX8_jet 10 = .ok (.iaload, 1) := by decide +kernel
theorem dX8_jet_11 : decode cX8_jet 11 = .ok (.goto 49, 3) := by decide +kernel
theorem dX8_jet_14 : decode cX8_jet 14 = .ok (.iload_n 1, 1) := by decide +kernel
theorem dX8_jet_15 : decode cX8_jet 15 = .ok (.iconst 1, 1) := by decide +kernel
theorem dX8_jet_16 : decode cX8_jet 16 = .ok (.if_icmp .ne 13, 3) := by decide +kernel
theorem dX8_jet_19 : decode cX8_jet 19 = .ok (.aload_n 0, 1) := by decide +kernel
theorem dX8_jet_20 : decode cX8_jet 20 = .ok (.getfield 13, 3) := by decide +kernel
theorem dX8_jet_23 : decode cX8_jet 23 = .ok (.bipush 16, 2) := by decide +kernel
theorem dX8_jet_25 : decode cX8_jet 25 = .ok (.iaload, 1) := by decide +kernel
theorem dX8_jet_26 : decode cX8_jet 26 = .ok (.goto 34, 3) := by decide +kernel
theorem dX8_jet_29 : decode cX8_jet 29 = .ok (.iload_n 1, 1) := by decide +kernel
theorem dX8_jet_30 : decode cX8_jet 30 = .ok (.iconst 2, 1) := by decide +kernel
theorem dX8_jet_31 : decode cX8_jet 31 = .ok (.if_icmp .ne 13, 3) := by decide +kernel
theorem dX8_jet_34 : decode cX8_jet 34 = .ok (.aload_n 0, 1) := by decide +kernel
theorem dX8_jet_35 : decode cX8_jet 35 = .ok (.getfield 13, 3) := by decide +kernel
theorem dX8_jet_38 : decode cX8_jet 38 = .ok (.bipush 14, 2) := by decide +kernel
theorem dX8_jet_40 : decode cX8_jet 40 = .ok (.iaload, 1) := by decide +kernel
theorem dX8_jet_41 : decode cX8_jet 41 = .ok (.goto 19, 3) := by decide +kernel
theorem dX8_jet_44 : decode cX8_jet 44 = .ok (.iload_n 1, 1) := by decide +kernel
theorem dX8_jet_45 : decode cX8_jet 45 = .ok (.iconst 3, 1) := by decide +kernel
theorem dX8_jet_46 : decode cX8_jet 46 = .ok (.if_icmp .ne 13, 3) := by decide +kernel
theorem dX8_jet_49 : decode cX8_jet 49 = .ok (.aload_n 0, 1) := by decide +kernel
theorem dX8_jet_50 : decode cX8_jet 50 = .ok (.getfield 13, 3) := by decide +kernel
theorem dX8_jet_53 : decode cX8_jet 53 = .ok (.bipush 17, 2) := by decide +kernel
theorem dX8_jet_55 : decode cX8_jet 55 = .ok (.iaload, 1) := by decide +kernel
theorem dX8_jet_56 : decode cX8_jet 56 = .ok (.goto 4, 3) := by decide +kernel
theorem dX8_jet_59 : decode cX8_jet 59 = .ok (.iconst (-1), 1) := by decide +kernel
theorem dX8_jet_60 : decode cX8_jet 60 = .ok (.ireturn, 1) := by decide +kernel
theorem dX8_lets_0 : decode cX8_lets 0 = .ok (.aload_n 0, 1) := by decide +kernel
theorem dX8_lets_1 : decode cX8_lets 1 = .ok (.invokevirtual 278, 3) := by decide +kernel
theorem dX8_lets_4 : decode cX8_lets 4 = .ok (.ifCond .eq 23, 3) := by decide +kernel
theorem dX8_lets_7 : decode cX8_lets 7 = .ok (.iload_n 1, 1) := by decide +kernel
theorem dX8_lets_8 : decode cX8_lets 8 = .ok (.i2l, 1) := by decide +kernel
theorem dX8_lets_9 : decode cX8_lets 9 = .ok (.lconst 0, 1) := by decide +kernel
theorem dX8_lets_10 : decode cX8_lets 10 = .ok (.ldc2_w 319, 3) := by decide +kernel
theorem dX8_lets_13 : decode cX8_lets 13 = .ok (.invokestatic 68, 3) := by decide +kernel
theorem dX8_lets_16 : decode cX8_lets 16 = .ok (.ifCond .eq 11, 3) := by decide +kernel
theorem dX8_lets_19 : decode cX8_lets 19 = .ok (.aload_n 0, 1) := by decide +kernel
theorem dX8_lets_20 : decode cX8_lets 20 = .ok (.iload_n 1, 1) := by decide +kernel
theorem dX8_lets_21 : decode cX8_lets 21 = .ok (.invokevirtual 275, 3) := by decide +kernel
theorem dX8_lets_24 : decode cX8_lets 24 = .ok (.goto 5, 3) := by decide +kernel
theorem dX8_lets_27 : decode cX8_lets 27 = .ok (.bipush (-2), 2) := by decide +kernel
theorem dX8_lets_29 : decode cX8_lets 29 = .ok (.ireturn, 1) := by decide +kernel
theorem dX8_driftOf_0 : decode cX8_driftOf 0 = .ok (.iload_n 1, 1) := by decide +kernel
theorem dX8_driftOf_1 : decode cX8_driftOf 1 = .ok (.iload_n 3, 1) := by decide +kernel
theorem dX8_driftOf_2 : decode cX8_driftOf 2 = .ok (.bipush 10, 2) := by decide +kernel
theorem dX8_driftOf_4 : decode cX8_driftOf 4 = .ok (.irem, 1) := by decide +kernel
theorem dX8_driftOf_5 : decode cX8_driftOf 5 = .ok (.imul, 1) := by decide +kernel
theorem dX8_driftOf_6 : decode cX8_driftOf 6 = .ok (.iconst 2, 1) := by decide +kernel
theorem dX8_driftOf_7 : decode cX8_driftOf 7 = .ok (.imul, 1) := by decide +kernel
theorem dX8_driftOf_8 : decode cX8_driftOf 8 = .ok (.iload_n 2, 1) := by decide +kernel
theorem dX8_driftOf_9 : decode cX8_driftOf 9 = .ok (.invokestatic 220, 3) := by decide +kernel
theorem dX8_driftOf_12 : decode cX8_driftOf 12 = .ok (.imul, 1) := by decide +kernel
theorem dX8_driftOf_13 : decode cX8_driftOf 13 = .ok (.ireturn, 1) := by decide +kernel
theorem dX8_eastOf_0 : decode cX8_eastOf 0 = .ok (.iload_n 3, 1) := by decide +kernel
theorem dX8_eastOf_1 : decode cX8_eastOf 1 = .ok (.bipush 10, 2) := by decide +kernel
theorem dX8_eastOf_3 : decode cX8_eastOf 3 = .ok (.idiv, 1) := by decide +kernel
theorem dX8_eastOf_4 : decode cX8_eastOf 4 = .ok (.iconst 1, 1) := by decide +kernel
theorem dX8_eastOf_5 : decode cX8_eastOf 5 = .ok (.if_icmp .ne 13, 3) := by decide +kernel
theorem dX8_eastOf_8 : decode cX8_eastOf 8 = .ok (.aload_n 0, 1) := by decide +kernel
theorem dX8_eastOf_9 : decode cX8_eastOf 9 = .ok (.iload_n 1, 1) := by decide +kernel
theorem dX8_eastOf_10 : decode cX8_eastOf 10 = .ok (.iload_n 2, 1) := by decide +kernel
theorem dX8_eastOf_11 : decode cX8_eastOf 11 = .ok (.iload_n 3, 1) := by decide +kernel
theorem dX8_eastOf_12 : decode cX8_eastOf 12 = .ok (.invokevirtual 321, 3) := by decide +kernel
theorem dX8_eastOf_15 : decode cX8_eastOf 15 = .ok (.goto 23, 3) := by decide +kernel
theorem dX8_eastOf_18 : decode cX8_eastOf 18 = .ok (.iload_n 3, 1) := by decide +kernel
theorem dX8_eastOf_19 : decode cX8_eastOf 19 = .ok (.bipush 10, 2) := by decide +kernel
theorem dX8_eastOf_21 : decode cX8_eastOf 21 = .ok (.idiv, 1) := by decide +kernel
theorem dX8_eastOf_22 : decode cX8_eastOf 22 = .ok (.iconst 3, 1) := by decide +kernel
theorem dX8_eastOf_23 : decode cX8_eastOf 23 = .ok (.if_icmp .ne 14, 3) := by decide +kernel
theorem dX8_eastOf_26 : decode cX8_eastOf 26 = .ok (.aload_n 0, 1) := by decide +kernel
theorem dX8_eastOf_27 : decode cX8_eastOf 27 = .ok (.iload_n 1, 1) := by decide +kernel
theorem dX8_eastOf_28 : decode cX8_eastOf 28 = .ok (.iload_n 2, 1) := by decide +kernel
theorem dX8_eastOf_29 : decode cX8_eastOf 29 = .ok (.iload_n 3, 1) := by decide +kernel
theorem dX8_eastOf_30 : decode cX8_eastOf 30 = .ok (.invokevirtual 321, 3) := by decide +kernel
theorem dX8_eastOf_33 : decode cX8_eastOf 33 = .ok (.ineg, 1) := by decide +kernel
theorem dX8_eastOf_34 : decode cX8_eastOf 34 = .ok (.goto 4, 3) := by decide +kernel
theorem dX8_eastOf_37 : decode cX8_eastOf 37 = .ok (.iconst 0, 1) := by decide +kernel
theorem dX8_eastOf_38 : decode cX8_eastOf 38 = .ok (.ireturn, 1) := by decide +kernel
theorem dX8_southOf_0 : decode cX8_southOf 0 = .ok (.iload_n 3, 1) := by decide +kernel
theorem dX8_southOf_1 : decode cX8_southOf 1 = .ok (.bipush 10, 2) := by decide +kernel
theorem dX8_southOf_3 : decode cX8_southOf 3 = .ok (.idiv, 1) := by decide +kernel
theorem dX8_southOf_4 : decode cX8_southOf 4 = .ok (.iconst 2, 1) := by decide +kernel
theorem dX8_southOf_5 : decode cX8_southOf 5 = .ok (.if_icmp .ne 13, 3) := by decide +kernel
theorem dX8_southOf_8 : decode cX8_southOf 8 = .ok (.aload_n 0, 1) := by decide +kernel
theorem dX8_southOf_9 : decode cX8_southOf 9 = .ok (.iload_n 1, 1) := by decide +kernel
theorem dX8_southOf_10 : decode cX8_southOf 10 = .ok (.iload_n 2, 1) := by decide +kernel
theorem dX8_southOf_11 : decode cX8_southOf 11 = .ok (.iload_n 3, 1) := by decide +kernel
theorem dX8_southOf_12 : decode cX8_southOf 12 = .ok (.invokevirtual 321, 3) := by decide +kernel
theorem dX8_southOf_15 : decode cX8_southOf 15 = .ok (.goto 22, 3) := by decide +kernel
theorem dX8_southOf_18 : decode cX8_southOf 18 = .ok (.iload_n 3, 1) := by decide +kernel
theorem dX8_southOf_19 : decode cX8_southOf 19 = .ok (.bipush 10, 2) := by decide +kernel
theorem dX8_southOf_21 : decode cX8_southOf 21 = .ok (.idiv, 1) := by decide +kernel
theorem dX8_southOf_22 : decode cX8_southOf 22 = .ok (.ifCond .ne 14, 3) := by decide +kernel
theorem dX8_southOf_25 : decode cX8_southOf 25 = .ok (.aload_n 0, 1) := by decide +kernel
theorem dX8_southOf_26 : decode cX8_southOf 26 = .ok (.iload_n 1, 1) := by decide +kernel
theorem dX8_southOf_27 : decode cX8_southOf 27 = .ok (.iload_n 2, 1) := by decide +kernel
theorem dX8_southOf_28 : decode cX8_southOf 28 = .ok (.iload_n 3, 1) := by decide +kernel
theorem dX8_southOf_29 : decode cX8_southOf 29 = .ok (.invokevirtual 321, 3) := by decide +kernel
theorem dX8_southOf_32 : decode cX8_southOf 32 = .ok (.ineg, 1) := by decide +kernel
theorem dX8_southOf_33 : decode cX8_southOf 33 = .ok (.goto 4, 3) := by decide +kernel
theorem dX8_southOf_36 : decode cX8_southOf 36 = .ok (.iconst 0, 1) := by decide +kernel
theorem dX8_southOf_37 : decode cX8_southOf 37 = .ok (.ireturn, 1) := by decide +kernel
theorem dX8_land_0 : decode cX8_land 0 = .ok (.aload_n 0, 1) := by decide +kernel
theorem dX8_land_1 : decode cX8_land 1 = .ok (.iload_n 1, 1) := by decide +kernel
theorem dX8_land_2 : decode cX8_land 2 = .ok (.invokevirtual 325, 3) := by decide +kernel
theorem dX8_land_5 : decode cX8_land 5 = .ok (.ifCond .eq 23, 3) := by decide +kernel
theorem dX8_land_8 : decode cX8_land 8 = .ok (.iload_n 2, 1) := by decide +kernel
theorem dX8_land_9 : decode cX8_land 9 = .ok (.i2l, 1) := by decide +kernel
theorem dX8_land_10 : decode cX8_land 10 = .ok (.lconst 1, 1) := by decide +kernel
theorem dX8_land_11 : decode cX8_land 11 = .ok (.ldc2_w 214, 3) := by decide +kernel
theorem dX8_land_14 : decode cX8_land 14 = .ok (.invokestatic 68, 3) := by decide +kernel
theorem dX8_land_17 : decode cX8_land 17 = .ok (.ifCond .eq 11, 3) := by decide +kernel
theorem dX8_land_20 : decode cX8_land 20 = .ok (.iload_n 3, 1) := by decide +kernel
theorem dX8_land_21 : decode cX8_land 21 = .ok (.i2l, 1) := by decide +kernel
theorem dX8_land_22 : decode cX8_land 22 = .ok (.invokestatic 281, 3) := by decide +kernel
theorem dX8_land_25 : decode cX8_land 25 = .ok (.ifCond .ne 6, 3) := by decide +kernel
theorem dX8_land_28 : decode cX8_land 28 = .ok (.bipush (-2), 2) := by decide +kernel
theorem dX8_land_30 : decode cX8_land 30 = .ok (.ireturn, 1) := by decide +kernel
theorem dX8_land_31 : decode cX8_land 31 = .ok (.aload_n 0, 1) := by decide +kernel
theorem dX8_land_32 : decode cX8_land 32 = .ok (.aload_n 0, 1) := by decide +kernel
theorem dX8_land_33 : decode cX8_land 33 = .ok (.aload_n 0, 1) := by decide +kernel
theorem dX8_land_34 : decode cX8_land 34 = .ok (.iload_n 1, 1) := by decide +kernel
theorem dX8_land_35 : decode cX8_land 35 = .ok (.invokevirtual 257, 3) := by decide +kernel
theorem dX8_land_38 : decode cX8_land 38 = .ok (.iload_n 2, 1) := by decide +kernel
theorem dX8_land_39 : decode cX8_land 39 = .ok (.iload_n 3, 1) := by decide +kernel
theorem dX8_land_40 : decode cX8_land 40 = .ok (.invokevirtual 328, 3) := by decide +kernel
theorem dX8_land_43 : decode cX8_land 43 = .ok (.invokevirtual 226, 3) := by decide +kernel
theorem dX8_land_46 : decode cX8_land 46 = .ok (.istore 4, 2) := by decide +kernel
theorem dX8_land_48 : decode cX8_land 48 = .ok (.aload_n 0, 1) := by decide +kernel
theorem dX8_land_49 : decode cX8_land 49 = .ok (.aload_n 0, 1) := by decide +kernel
theorem dX8_land_50 : decode cX8_land 50 = .ok (.aload_n 0, 1) := by decide +kernel
theorem dX8_land_51 : decode cX8_land 51 = .ok (.iload_n 1, 1) := by decide +kernel
theorem dX8_land_52 : decode cX8_land 52 = .ok (.invokevirtual 257, 3) := by decide +kernel
theorem dX8_land_55 : decode cX8_land 55 = .ok (.iload_n 2, 1) := by decide +kernel
theorem dX8_land_56 : decode cX8_land 56 = .ok (.iload_n 3, 1) := by decide +kernel
theorem dX8_land_57 : decode cX8_land 57 = .ok (.invokevirtual 331, 3) := by decide +kernel
theorem dX8_land_60 : decode cX8_land 60 = .ok (.invokevirtual 229, 3) := by decide +kernel
theorem dX8_land_63 : decode cX8_land 63 = .ok (.istore 5, 2) := by decide +kernel
theorem dX8_land_65 : decode cX8_land 65 = .ok (.aload_n 0, 1) := by decide +kernel
theorem dX8_land_66 : decode cX8_land 66 = .ok (.iload 4, 2) := by decide +kernel
theorem dX8_land_68 : decode cX8_land 68 = .ok (.iload 5, 2) := by decide +kernel
theorem dX8_land_70 : decode cX8_land 70 = .ok (.invokevirtual 248, 3) := by decide +kernel
theorem dX8_land_73 : decode cX8_land 73 = .ok (.ifCond .eq 14, 3) := by decide +kernel
theorem dX8_land_76 : decode cX8_land 76 = .ok (.iload 4, 2) := by decide +kernel
theorem dX8_land_78 : decode cX8_land 78 = .ok (.bipush 100, 2) := by decide +kernel
theorem dX8_land_80 : decode cX8_land 80 = .ok (.iload 5, 2) := by decide +kernel
theorem dX8_land_82 : decode cX8_land 82 = .ok (.imul, 1) := by decide +kernel
theorem dX8_land_83 : decode cX8_land 83 = .ok (.iadd, 1) := by decide +kernel
theorem dX8_land_84 : decode cX8_land 84 = .ok (.goto 4, 3) := by decide +kernel
theorem dX8_land_87 : decode cX8_land 87 = .ok (.iconst (-1), 1) := by decide +kernel
theorem dX8_land_88 : decode cX8_land 88 = .ok (.ireturn, 1) := by decide +kernel
theorem dX8_drift_0 : decode cX8_drift 0 = .ok (.aload_n 0, 1) := by decide +kernel
theorem dX8_drift_1 : decode cX8_drift 1 = .ok (.iload_n 1, 1) := by decide +kernel
theorem dX8_drift_2 : decode cX8_drift 2 = .ok (.invokevirtual 325, 3) := by decide +kernel
theorem dX8_drift_5 : decode cX8_drift 5 = .ok (.ifCond .eq 37, 3) := by decide +kernel
theorem dX8_drift_8 : decode cX8_drift 8 = .ok (.iload_n 2, 1) := by decide +kernel
theorem dX8_drift_9 : decode cX8_drift 9 = .ok (.i2l, 1) := by decide +kernel
theorem dX8_drift_10 : decode cX8_drift 10 = .ok (.lconst 1, 1) := by decide +kernel
theorem dX8_drift_11 : decode cX8_drift 11 = .ok (.ldc2_w 214, 3) := by decide +kernel
theorem dX8_drift_14 : decode cX8_drift 14 = .ok (.invokestatic 68, 3) := by decide +kernel
theorem dX8_drift_17 : decode cX8_drift 17 = .ok (.ifCond .eq 25, 3) := by decide +kernel
theorem dX8_drift_20 : decode cX8_drift 20 = .ok (.iload_n 3, 1) := by decide +kernel
theorem dX8_drift_21 : decode cX8_drift 21 = .ok (.i2l, 1) := by decide +kernel
theorem dX8_drift_22 : decode cX8_drift 22 = .ok (.invokestatic 281, 3) := by decide +kernel
theorem dX8_drift_25 : decode cX8_drift 25 = .ok (.ifCond .eq 17, 3) := by decide +kernel
theorem dX8_drift_28 : decode cX8_drift 28 = .ok (.aload_n 0, 1) := by decide +kernel
theorem dX8_drift_29 : decode cX8_drift 29 = .ok (.aload_n 0, 1) := by decide +kernel
theorem dX8_drift_30 : decode cX8_drift 30 = .ok (.iload_n 1, 1) := by decide +kernel
theorem dX8_drift_31 : decode cX8_drift 31 = .ok (.invokevirtual 257, 3) := by decide +kernel
theorem dX8_drift_34 : decode cX8_drift 34 = .ok (.iload_n 2, 1) := by decide +kernel
theorem dX8_drift_35 : decode cX8_drift 35 = .ok (.iload_n 3, 1) := by decide +kernel
theorem dX8_drift_36 : decode cX8_drift 36 = .ok (.invokevirtual 321, 3) := by decide +kernel
theorem dX8_drift_39 : decode cX8_drift 39 = .ok (.goto 5, 3) := by decide +kernel
theorem dX8_drift_42 : decode cX8_drift 42 = .ok (.bipush (-2), 2) := by decide +kernel
theorem dX8_drift_44 : decode cX8_drift 44 = .ok (.ireturn, 1) := by decide +kernel
theorem dX8_isSteadyCaught_0 : decode cX8_isSteadyCaught 0 = .ok (.aload_n 0, 1) := by decide +kernel
theorem dX8_isSteadyCaught_1 : decode cX8_isSteadyCaught 1 = .ok (.aload_n 0, 1) := by decide +kernel
theorem dX8_isSteadyCaught_2 : decode cX8_isSteadyCaught 2 = .ok (.iload_n 1, 1) := by decide +kernel
theorem dX8_isSteadyCaught_3 : decode cX8_isSteadyCaught 3 = .ok (.iload_n 2, 1) := by decide +kernel
theorem dX8_isSteadyCaught_4 : decode cX8_isSteadyCaught 4 = .ok (.iload_n 3, 1) := by decide +kernel
theorem dX8_isSteadyCaught_5 : decode cX8_isSteadyCaught 5 = .ok (.invokevirtual 328, 3) := by decide +kernel
theorem dX8_isSteadyCaught_8 : decode cX8_isSteadyCaught 8 = .ok (.aload_n 0, 1) := by decide +kernel
theorem dX8_isSteadyCaught_9 : decode cX8_isSteadyCaught 9 = .ok (.iload_n 1, 1) := by decide +kernel
theorem dX8_isSteadyCaught_10 : decode cX8_isSteadyCaught 10 = .ok (.iload_n 2, 1) := by decide +kernel
theorem dX8_isSteadyCaught_11 : decode cX8_isSteadyCaught 11 = .ok (.iload_n 3, 1) := by decide +kernel
theorem dX8_isSteadyCaught_12 : decode cX8_isSteadyCaught 12 = .ok (.invokevirtual 331, 3) := by decide +kernel
theorem dX8_isSteadyCaught_15 : decode cX8_isSteadyCaught 15 = .ok (.invokevirtual 236, 3) := by decide +kernel
theorem dX8_isSteadyCaught_18 : decode cX8_isSteadyCaught 18 = .ok (.ireturn, 1) := by decide +kernel
theorem dX8_isSteadyOn_0 : decode cX8_isSteadyOn 0 = .ok (.aload_n 0, 1) := by decide +kernel
theorem dX8_isSteadyOn_1 : decode cX8_isSteadyOn 1 = .ok (.aload_n 0, 1) := by decide +kernel
theorem dX8_isSteadyOn_2 : decode cX8_isSteadyOn 2 = .ok (.aload_n 0, 1) := by decide +kernel
theorem dX8_isSteadyOn_3 : decode cX8_isSteadyOn 3 = .ok (.iload_n 1, 1) := by decide +kernel
theorem dX8_isSteadyOn_4 : decode cX8_isSteadyOn 4 = .ok (.invokevirtual 257, 3) := by decide +kernel
theorem dX8_isSteadyOn_7 : decode cX8_isSteadyOn 7 = .ok (.iload_n 2, 1) := by decide +kernel
theorem dX8_isSteadyOn_8 : decode cX8_isSteadyOn 8 = .ok (.iload_n 3, 1) := by decide +kernel
theorem dX8_isSteadyOn_9 : decode cX8_isSteadyOn 9 = .ok (.invokevirtual 328, 3) := by decide +kernel
theorem dX8_isSteadyOn_12 : decode cX8_isSteadyOn 12 = .ok (.aload_n 0, 1) := by decide +kernel
theorem dX8_isSteadyOn_13 : decode cX8_isSteadyOn 13 = .ok (.aload_n 0, 1) := by decide +kernel
theorem dX8_isSteadyOn_14 : decode cX8_isSteadyOn 14 = .ok (.iload_n 1, 1) := by decide +kernel
theorem dX8_isSteadyOn_15 : decode cX8_isSteadyOn 15 = .ok (.invokevirtual 257, 3) := by decide +kernel
theorem dX8_isSteadyOn_18 : decode cX8_isSteadyOn 18 = .ok (.iload_n 2, 1) := by decide +kernel
theorem dX8_isSteadyOn_19 : decode cX8_isSteadyOn 19 = .ok (.iload_n 3, 1) := by decide +kernel
theorem dX8_isSteadyOn_20 : decode cX8_isSteadyOn 20 = .ok (.invokevirtual 331, 3) := by decide +kernel
theorem dX8_isSteadyOn_23 : decode cX8_isSteadyOn 23 = .ok (.iload 4, 2) := by decide +kernel
theorem dX8_isSteadyOn_25 : decode cX8_isSteadyOn 25 = .ok (.iload 5, 2) := by decide +kernel
theorem dX8_isSteadyOn_27 : decode cX8_isSteadyOn 27 = .ok (.invokevirtual 334, 3) := by decide +kernel
theorem dX8_isSteadyOn_30 : decode cX8_isSteadyOn 30 = .ok (.ireturn, 1) := by decide +kernel
theorem dX8_isAnyOn_0 : decode cX8_isAnyOn 0 = .ok (.iconst 0, 1) := by decide +kernel
theorem dX8_isAnyOn_1 : decode cX8_isAnyOn 1 = .ok (.istore 5, 2) := by decide +kernel
theorem dX8_isAnyOn_3 : decode cX8_isAnyOn 3 = .ok (.iconst 0, 1) := by decide +kernel
theorem dX8_isAnyOn_4 : decode cX8_isAnyOn 4 = .ok (.istore 6, 2) := by decide +kernel
theorem dX8_isAnyOn_6 : decode cX8_isAnyOn 6 = .ok (.iload 6, 2) := by decide +kernel
theorem dX8_isAnyOn_8 : decode cX8_isAnyOn 8 = .ok (.aload_n 0, 1) := by decide +kernel
theorem dX8_isAnyOn_9 : decode cX8_isAnyOn 9 = .ok (.getfield 13, 3) := by decide +kernel
theorem dX8_isAnyOn_12 : decode cX8_isAnyOn 12 = .ok (.bipush 10, 2) := by decide +kernel
theorem dX8_isAnyOn_14 : decode cX8_isAnyOn 14 = .ok (.iaload, 1) := by decide +kernel
theorem dX8_isAnyOn_15 : decode cX8_isAnyOn 15 = .ok (.if_icmp .ge 35, 3) := by decide +kernel
theorem dX8_isAnyOn_18 : decode cX8_isAnyOn 18 = .ok (.iload 5, 2) := by decide +kernel
theorem dX8_isAnyOn_20 : decode cX8_isAnyOn 20 = .ok (.ifCond .ne 17, 3) := by decide +kernel
theorem dX8_isAnyOn_23 : decode cX8_isAnyOn 23 = .ok (.aload_n 0, 1) := by decide +kernel
theorem dX8_isAnyOn_24 : decode cX8_isAnyOn 24 = .ok (.iload 6, 2) := by decide +kernel
theorem dX8_isAnyOn_26 : decode cX8_isAnyOn 26 = .ok (.iload_n 1, 1) := by decide +kernel
theorem dX8_isAnyOn_27 : decode cX8_isAnyOn 27 = .ok (.iload_n 2, 1) := by decide +kernel
theorem dX8_isAnyOn_28 : decode cX8_isAnyOn 28 = .ok (.iload_n 3, 1) := by decide +kernel
theorem dX8_isAnyOn_29 : decode cX8_isAnyOn 29 = .ok (.iload 4, 2) := by decide +kernel
theorem dX8_isAnyOn_31 : decode cX8_isAnyOn 31 = .ok (.invokevirtual 338, 3) := by decide +kernel
theorem dX8_isAnyOn_34 : decode cX8_isAnyOn 34 = .ok (.ifCond .eq 7, 3) := by decide +kernel
theorem dX8_isAnyOn_37 : decode cX8_isAnyOn 37 = .ok (.iconst 1, 1) := by decide +kernel
theorem dX8_isAnyOn_38 : decode cX8_isAnyOn 38 = .ok (.goto 4, 3) := by decide +kernel
theorem dX8_isAnyOn_41 : decode cX8_isAnyOn 41 = .ok (.iconst 0, 1) := by decide +kernel
theorem dX8_isAnyOn_42 : decode cX8_isAnyOn 42 = .ok (.istore 5, 2) := by decide +kernel
theorem dX8_isAnyOn_44 : decode cX8_isAnyOn 44 = .ok (.iinc 6 1, 3) := by decide +kernel
theorem dX8_isAnyOn_47 : decode cX8_isAnyOn 47 = .ok (.goto (-41), 3) := by decide +kernel
theorem dX8_isAnyOn_50 : decode cX8_isAnyOn 50 = .ok (.iload 5, 2) := by decide +kernel
theorem dX8_isAnyOn_52 : decode cX8_isAnyOn 52 = .ok (.ireturn, 1) := by decide +kernel
theorem dX8_strayOf_0 : decode cX8_strayOf 0 = .ok (.iconst 0, 1) := by decide +kernel
theorem dX8_strayOf_1 : decode cX8_strayOf 1 = .ok (.istore_n 3, 1) := by decide +kernel
theorem dX8_strayOf_2 : decode cX8_strayOf 2 = .ok (.iconst 0, 1) := by decide +kernel
theorem dX8_strayOf_3 : decode cX8_strayOf 3 = .ok (.istore 4, 2) := by decide +kernel
theorem dX8_strayOf_5 : decode cX8_strayOf 5 = .ok (.iload 4, 2) := by decide +kernel
theorem dX8_strayOf_7 : decode cX8_strayOf 7 = .ok (.aload_n 0, 1) := by decide +kernel
theorem dX8_strayOf_8 : decode cX8_strayOf 8 = .ok (.getfield 13, 3) := by decide +kernel
theorem dX8_strayOf_11 : decode cX8_strayOf 11 = .ok (.bipush 10, 2) := by decide +kernel
theorem dX8_strayOf_13 : decode cX8_strayOf 13 = .ok (.iaload, 1) := by decide +kernel
theorem dX8_strayOf_14 : decode cX8_strayOf 14 = .ok (.if_icmp .ge 37, 3) := by decide +kernel
theorem dX8_strayOf_17 : decode cX8_strayOf 17 = .ok (.iload_n 3, 1) := by decide +kernel
theorem dX8_strayOf_18 : decode cX8_strayOf 18 = .ok (.aload_n 0, 1) := by decide +kernel
theorem dX8_strayOf_19 : decode cX8_strayOf 19 = .ok (.aload_n 0, 1) := by decide +kernel
theorem dX8_strayOf_20 : decode cX8_strayOf 20 = .ok (.iload 4, 2) := by decide +kernel
theorem dX8_strayOf_22 : decode cX8_strayOf 22 = .ok (.invokevirtual 257, 3) := by decide +kernel
theorem dX8_strayOf_25 : decode cX8_strayOf 25 = .ok (.iload_n 1, 1) := by decide +kernel
theorem dX8_strayOf_26 : decode cX8_strayOf 26 = .ok (.iload_n 2, 1) := by decide +kernel
theorem dX8_strayOf_27 : decode cX8_strayOf 27 = .ok (.invokevirtual 342, 3) := by decide +kernel
theorem dX8_strayOf_30 : decode cX8_strayOf 30 = .ok (.ifCond .eq 7, 3) := by decide +kernel
theorem dX8_strayOf_33 : decode cX8_strayOf 33 = .ok (.iconst 0, 1) := by decide +kernel
theorem dX8_strayOf_34 : decode cX8_strayOf 34 = .ok (.goto 9, 3) := by decide +kernel
theorem dX8_strayOf_37 : decode cX8_strayOf 37 = .ok (.aload_n 0, 1) := by decide +kernel
theorem dX8_strayOf_38 : decode cX8_strayOf 38 = .ok (.iload 4, 2) := by decide +kernel
theorem dX8_strayOf_40 : decode cX8_strayOf 40 = .ok (.invokevirtual 245, 3) := by decide +kernel
theorem dX8_strayOf_43 : decode cX8_strayOf 43 = .ok (.iadd, 1) := by decide +kernel
theorem dX8_strayOf_44 : decode cX8_strayOf 44 = .ok (.istore_n 3, 1) := by decide +kernel
theorem dX8_strayOf_45 : decode cX8_strayOf 45 = .ok (.iinc 4 1, 3) := by decide +kernel
theorem dX8_strayOf_48 : decode cX8_strayOf 48 = .ok (.goto (-43), 3) := by decide +kernel
theorem dX8_strayOf_51 : decode cX8_strayOf 51 = .ok (.iload_n 3, 1) := by decide +kernel
theorem dX8_strayOf_52 : decode cX8_strayOf 52 = .ok (.ireturn, 1) := by decide +kernel
theorem dX8_stray_0 : decode cX8_stray 0 = .ok (.aload_n 0, 1) := by decide +kernel
theorem dX8_stray_1 : decode cX8_stray 1 = .ok (.invokevirtual 278, 3) := by decide +kernel
theorem dX8_stray_4 : decode cX8_stray 4 = .ok (.ifCond .eq 27, 3) := by decide +kernel
theorem dX8_stray_7 : decode cX8_stray 7 = .ok (.iload_n 1, 1) := by decide +kernel
theorem dX8_stray_8 : decode cX8_stray 8 = .ok (.invokestatic 216, 3) := by decide +kernel
theorem dX8_stray_11 : decode cX8_stray 11 = .ok (.ifCond .eq 20, 3) := by decide +kernel
theorem dX8_stray_14 : decode cX8_stray 14 = .ok (.iload_n 2, 1) := by decide +kernel
theorem dX8_stray_15 : decode cX8_stray 15 = .ok (.i2l, 1) := by decide +kernel
theorem dX8_stray_16 : decode cX8_stray 16 = .ok (.invokestatic 281, 3) := by decide +kernel
theorem dX8_stray_19 : decode cX8_stray 19 = .ok (.ifCond .eq 12, 3) := by decide +kernel
theorem dX8_stray_22 : decode cX8_stray 22 = .ok (.aload_n 0, 1) := by decide +kernel
theorem dX8_stray_23 : decode cX8_stray 23 = .ok (.iload_n 1, 1) := by decide +kernel
theorem dX8_stray_24 : decode cX8_stray 24 = .ok (.iload_n 2, 1) := by decide +kernel
theorem dX8_stray_25 : decode cX8_stray 25 = .ok (.invokevirtual 346, 3) := by decide +kernel
theorem dX8_stray_28 : decode cX8_stray 28 = .ok (.goto 5, 3) := by decide +kernel
theorem dX8_stray_31 : decode cX8_stray 31 = .ok (.bipush (-2), 2) := by decide +kernel
theorem dX8_stray_33 : decode cX8_stray 33 = .ok (.ireturn, 1) := by decide +kernel
theorem dX8_low_0 : decode cX8_low 0 = .ok (.aload_n 0, 1) := by decide +kernel
theorem dX8_low_1 : decode cX8_low 1 = .ok (.invokevirtual 278, 3) := by decide +kernel
theorem dX8_low_4 : decode cX8_low 4 = .ok (.ifCond .eq 23, 3) := by decide +kernel
theorem dX8_low_7 : decode cX8_low 7 = .ok (.iload_n 1, 1) := by decide +kernel
theorem dX8_low_8 : decode cX8_low 8 = .ok (.i2l, 1) := by decide +kernel
theorem dX8_low_9 : decode cX8_low 9 = .ok (.invokestatic 281, 3) := by decide +kernel
theorem dX8_low_12 : decode cX8_low 12 = .ok (.ifCond .eq 15, 3) := by decide +kernel
theorem dX8_low_15 : decode cX8_low 15 = .ok (.iload_n 2, 1) := by decide +kernel
theorem dX8_low_16 : decode cX8_low 16 = .ok (.i2l, 1) := by decide +kernel
theorem dX8_low_17 : decode cX8_low 17 = .ok (.lconst 0, 1) := by decide +kernel
theorem dX8_low_18 : decode cX8_low 18 = .ok (.ldc2_w 349, 3) := by decide +kernel
theorem dX8_low_21 : decode cX8_low 21 = .ok (.invokestatic 68, 3) := by decide +kernel
theorem dX8_low_24 : decode cX8_low 24 = .ok (.ifCond .ne 6, 3) := by decide +kernel
theorem dX8_low_27 : decode cX8_low 27 = .ok (.bipush (-2), 2) := by decide +kernel
theorem dX8_low_29 : decode cX8_low 29 = .ok (.ireturn, 1) := by decide +kernel
theorem dX8_low_30 : decode cX8_low 30 = .ok (.iconst 0, 1) := by decide +kernel
theorem dX8_low_31 : decode cX8_low 31 = .ok (.istore_n 3, 1) := by decide +kernel
theorem dX8_low_32 : decode cX8_low 32 = .ok (.iload_n 3, 1) := by decide +kernel
theorem dX8_low_33 : decode cX8_low 33 = .ok (.bipush 60, 2) := by decide +kernel
theorem dX8_low_35 : decode cX8_low 35 = .ok (.if_icmp .ge 21, 3) := by decide +kernel
theorem dX8_low_38 : decode cX8_low 38 = .ok (.aload_n 0, 1) := by decide +kernel
theorem dX8_low_39 : decode cX8_low 39 = .ok (.iload_n 3, 1) := by decide +kernel
theorem dX8_low_40 : decode cX8_low 40 = .ok (.iconst 1, 1) := by decide +kernel
theorem dX8_low_41 : decode cX8_low 41 = .ok (.iadd, 1) := by decide +kernel
theorem dX8_low_42 : decode cX8_low 42 = .ok (.iload_n 1, 1) := by decide +kernel
theorem dX8_low_43 : decode cX8_low 43 = .ok (.invokevirtual 346, 3) := by decide +kernel
theorem dX8_low_46 : decode cX8_low 46 = .ok (.iload_n 2, 1) := by decide +kernel
theorem dX8_low_47 : decode cX8_low 47 = .ok (.if_icmp .gt 9, 3) := by decide +kernel
theorem dX8_low_50 : decode cX8_low 50 = .ok (.iinc 3 1, 3) := by decide +kernel
theorem dX8_low_53 : decode cX8_low 53 = .ok (.goto (-21), 3) := by decide +kernel
theorem dX8_low_56 : decode cX8_low 56 = .ok (.iload_n 3, 1) := by decide +kernel
theorem dX8_low_57 : decode cX8_low 57 = .ok (.ireturn, 1) := by decide +kernel
theorem dX8_bound_0 : decode cX8_bound 0 = .ok (.aload_n 0, 1) := by decide +kernel
theorem dX8_bound_1 : decode cX8_bound 1 = .ok (.iload_n 1, 1) := by decide +kernel
theorem dX8_bound_2 : decode cX8_bound 2 = .ok (.invokevirtual 302, 3) := by decide +kernel
theorem dX8_bound_5 : decode cX8_bound 5 = .ok (.ifCond .eq 11, 3) := by decide +kernel
theorem dX8_bound_8 : decode cX8_bound 8 = .ok (.iload_n 2, 1) := by decide +kernel
theorem dX8_bound_9 : decode cX8_bound 9 = .ok (.i2l, 1) := by decide +kernel
theorem dX8_bound_10 : decode cX8_bound 10 = .ok (.invokestatic 281, 3) := by decide +kernel
theorem dX8_bound_13 : decode cX8_bound 13 = .ok (.ifCond .ne 6, 3) := by decide +kernel
theorem dX8_bound_16 : decode cX8_bound 16 = .ok (.bipush (-2), 2) := by decide +kernel
theorem dX8_bound_18 : decode cX8_bound 18 = .ok (.ireturn, 1) := by decide +kernel
theorem dX8_bound_19 : decode cX8_bound 19 = .ok (.iconst 0, 1) := by decide +kernel
theorem dX8_bound_20 : decode cX8_bound 20 = .ok (.istore_n 3, 1) := by decide +kernel
theorem dX8_bound_21 : decode cX8_bound 21 = .ok (.iload_n 3, 1) := by decide +kernel
theorem dX8_bound_22 : decode cX8_bound 22 = .ok (.bipush 60, 2) := by decide +kernel
theorem dX8_bound_24 : decode cX8_bound 24 = .ok (.if_icmp .ge 32, 3) := by decide +kernel
theorem dX8_bound_27 : decode cX8_bound 27 = .ok (.aload_n 0, 1) := by decide +kernel
theorem dX8_bound_28 : decode cX8_bound 28 = .ok (.iload_n 3, 1) := by decide +kernel
theorem dX8_bound_29 : decode cX8_bound 29 = .ok (.iconst 1, 1) := by decide +kernel
theorem dX8_bound_30 : decode cX8_bound 30 = .ok (.iadd, 1) := by decide +kernel
theorem dX8_bound_31 : decode cX8_bound 31 = .ok (.iload_n 2, 1) := by decide +kernel
theorem dX8_bound_32 : decode cX8_bound 32 = .ok (.aload_n 0, 1) := by decide +kernel
theorem dX8_bound_33 : decode cX8_bound 33 = .ok (.iload_n 1, 1) := by decide +kernel
theorem dX8_bound_34 : decode cX8_bound 34 = .ok (.iconst 0, 1) := by decide +kernel
theorem dX8_bound_35 : decode cX8_bound 35 = .ok (.invokevirtual 72, 3) := by decide +kernel
theorem dX8_bound_38 : decode cX8_bound 38 = .ok (.aload_n 0, 1) := by decide +kernel
theorem dX8_bound_39 : decode cX8_bound 39 = .ok (.iload_n 1, 1) := by decide +kernel
theorem dX8_bound_40 : decode cX8_bound 40 = .ok (.iconst 1, 1) := by decide +kernel
theorem dX8_bound_41 : decode cX8_bound 41 = .ok (.invokevirtual 72, 3) := by decide +kernel
theorem dX8_bound_44 : decode cX8_bound 44 = .ok (.invokevirtual 351, 3) := by decide +kernel
theorem dX8_bound_47 : decode cX8_bound 47 = .ok (.ifCond .ne 9, 3) := by decide +kernel
theorem dX8_bound_50 : decode cX8_bound 50 = .ok (.iinc 3 1, 3) := by decide +kernel
theorem dX8_bound_53 : decode cX8_bound 53 = .ok (.goto (-32), 3) := by decide +kernel
theorem dX8_bound_56 : decode cX8_bound 56 = .ok (.iload_n 3, 1) := by decide +kernel
theorem dX8_bound_57 : decode cX8_bound 57 = .ok (.ireturn, 1) := by decide +kernel
theorem dX8_reach_0 : decode cX8_reach 0 = .ok (.aload_n 0, 1) := by decide +kernel
theorem dX8_reach_1 : decode cX8_reach 1 = .ok (.iload_n 1, 1) := by decide +kernel
theorem dX8_reach_2 : decode cX8_reach 2 = .ok (.invokevirtual 302, 3) := by decide +kernel
theorem dX8_reach_5 : decode cX8_reach 5 = .ok (.ifCond .eq 15, 3) := by decide +kernel
theorem dX8_reach_8 : decode cX8_reach 8 = .ok (.iload_n 2, 1) := by decide +kernel
theorem dX8_reach_9 : decode cX8_reach 9 = .ok (.i2l, 1) := by decide +kernel
theorem dX8_reach_10 : decode cX8_reach 10 = .ok (.lconst 0, 1) := by decide +kernel
theorem dX8_reach_11 : decode cX8_reach 11 = .ok (.ldc2_w 305, 3) := by decide +kernel
theorem dX8_reach_14 : decode cX8_reach 14 = .ok (.invokestatic 68, 3) := by decide +kernel
theorem dX8_reach_17 : decode cX8_reach 17 = .ok (.ifCond .ne 6, 3) := by decide +kernel
theorem dX8_reach_20 : decode cX8_reach 20 = .ok (.bipush (-2), 2) := by decide +kernel
theorem dX8_reach_22 : decode cX8_reach 22 = .ok (.ireturn, 1) := by decide +kernel
theorem dX8_reach_23 : decode cX8_reach 23 = .ok (.iconst 0, 1) := by decide +kernel
theorem dX8_reach_24 : decode cX8_reach 24 = .ok (.istore_n 3, 1) := by decide +kernel
theorem dX8_reach_25 : decode cX8_reach 25 = .ok (.iconst 0, 1) := by decide +kernel
theorem dX8_reach_26 : decode cX8_reach 26 = .ok (.istore 4, 2) := by decide +kernel
theorem dX8_reach_28 : decode cX8_reach 28 = .ok (.iload 4, 2) := by decide +kernel
theorem dX8_reach_30 : decode cX8_reach 30 = .ok (.bipush 10, 2) := by decide +kernel
theorem dX8_reach_32 : decode cX8_reach 32 = .ok (.if_icmp .ge 64, 3) := by decide +kernel
theorem dX8_reach_35 : decode cX8_reach 35 = .ok (.iconst 1, 1) := by decide +kernel
theorem dX8_reach_36 : decode cX8_reach 36 = .ok (.istore 5, 2) := by decide +kernel
theorem dX8_reach_38 : decode cX8_reach 38 = .ok (.iload 5, 2) := by decide +kernel
theorem dX8_reach_40 : decode cX8_reach 40 = .ok (.bipush 60, 2) := by decide +kernel
theorem dX8_reach_42 : decode cX8_reach 42 = .ok (.if_icmp .gt 48, 3) := by decide +kernel
theorem dX8_reach_45 : decode cX8_reach 45 = .ok (.iload_n 3, 1) := by decide +kernel
theorem dX8_reach_46 : decode cX8_reach 46 = .ok (.aload_n 0, 1) := by decide +kernel
theorem dX8_reach_47 : decode cX8_reach 47 = .ok (.iload 5, 2) := by decide +kernel
theorem dX8_reach_49 : decode cX8_reach 49 = .ok (.bipush 10, 2) := by decide +kernel
theorem dX8_reach_51 : decode cX8_reach 51 = .ok (.iload_n 2, 1) := by decide +kernel
theorem dX8_reach_52 : decode cX8_reach 52 = .ok (.imul, 1) := by decide +kernel
theorem dX8_reach_53 : decode cX8_reach 53 = .ok (.iload 4, 2) := by decide +kernel
theorem dX8_reach_55 : decode cX8_reach 55 = .ok (.iadd, 1) := by decide +kernel
theorem dX8_reach_56 : decode cX8_reach 56 = .ok (.aload_n 0, 1) := by decide +kernel
theorem dX8_reach_57 : decode cX8_reach 57 = .ok (.iload_n 1, 1) := by decide +kernel
theorem dX8_reach_58 : decode cX8_reach 58 = .ok (.iconst 0, 1) := by decide +kernel
theorem dX8_reach_59 : decode cX8_reach 59 = .ok (.invokevirtual 72, 3) := by decide +kernel
theorem dX8_reach_62 : decode cX8_reach 62 = .ok (.aload_n 0, 1) := by decide +kernel
theorem dX8_reach_63 : decode cX8_reach 63 = .ok (.iload_n 1, 1) := by decide +kernel
theorem dX8_reach_64 : decode cX8_reach 64 = .ok (.iconst 1, 1) := by decide +kernel
theorem dX8_reach_65 : decode cX8_reach 65 = .ok (.invokevirtual 72, 3) := by decide +kernel
theorem dX8_reach_68 : decode cX8_reach 68 = .ok (.invokevirtual 351, 3) := by decide +kernel
theorem dX8_reach_71 : decode cX8_reach 71 = .ok (.ifCond .eq 10, 3) := by decide +kernel
theorem dX8_reach_74 : decode cX8_reach 74 = .ok (.iconst 1, 1) := by decide +kernel
theorem dX8_reach_75 : decode cX8_reach 75 = .ok (.iload 4, 2) := by decide +kernel
theorem dX8_reach_77 : decode cX8_reach 77 = .ok (.ishl, 1) := by decide +kernel
theorem dX8_reach_78 : decode cX8_reach 78 = .ok (.goto 4, 3) := by decide +kernel
theorem dX8_reach_81 : decode cX8_reach 81 = .ok (.iconst 0, 1) := by decide +kernel
theorem dX8_reach_82 : decode cX8_reach 82 = .ok (.ior, 1) := by decide +kernel
theorem dX8_reach_83 : decode cX8_reach 83 = .ok (.istore_n 3, 1) := by decide +kernel
theorem dX8_reach_84 : decode cX8_reach 84 = .ok (.iinc 5 1, 3) := by decide +kernel
theorem dX8_reach_87 : decode cX8_reach 87 = .ok (.goto (-49), 3) := by decide +kernel
theorem dX8_reach_90 : decode cX8_reach 90 = .ok (.iinc 4 1, 3) := by decide +kernel
theorem dX8_reach_93 : decode cX8_reach 93 = .ok (.goto (-65), 3) := by decide +kernel
theorem dX8_reach_96 : decode cX8_reach 96 = .ok (.iload_n 3, 1) := by decide +kernel
theorem dX8_reach_97 : decode cX8_reach 97 = .ok (.ireturn, 1) := by decide +kernel
theorem dX8_dueX_0 : decode cX8_dueX 0 = .ok (.aload_n 0, 1) := by decide +kernel
theorem dX8_dueX_1 : decode cX8_dueX 1 = .ok (.iload_n 1, 1) := by decide +kernel
theorem dX8_dueX_2 : decode cX8_dueX 2 = .ok (.invokevirtual 239, 3) := by decide +kernel
theorem dX8_dueX_5 : decode cX8_dueX 5 = .ok (.istore 4, 2) := by decide +kernel
theorem dX8_dueX_7 : decode cX8_dueX 7 = .ok (.aload_n 0, 1) := by decide +kernel
theorem dX8_dueX_8 : decode cX8_dueX 8 = .ok (.getfield 13, 3) := by decide +kernel
theorem dX8_dueX_11 : decode cX8_dueX 11 = .ok (.iload 4, 2) := by decide +kernel
theorem dX8_dueX_13 : decode cX8_dueX 13 = .ok (.iconst 1, 1) := by decide +kernel
theorem dX8_dueX_14 : decode cX8_dueX 14 = .ok (.iadd, 1) := by decide +kernel
theorem dX8_dueX_15 : decode cX8_dueX 15 = .ok (.iaload, 1) := by decide +kernel
theorem dX8_dueX_16 : decode cX8_dueX 16 = .ok (.aload_n 0, 1) := by decide +kernel
theorem dX8_dueX_17 : decode cX8_dueX 17 = .ok (.getfield 13, 3) := by decide +kernel
theorem dX8_dueX_20 : decode cX8_dueX 20 = .ok (.iload 4, 2) := by decide +kernel
theorem dX8_dueX_22 : decode cX8_dueX 22 = .ok (.iconst 3, 1) := by decide +kernel
theorem dX8_dueX_23 : decode cX8_dueX 23 = .ok (.iadd, 1) := by decide +kernel
theorem dX8_dueX_24 : decode cX8_dueX 24 = .ok (.iconst 2, 1) := by decide +kernel
theorem dX8_dueX_25 : decode cX8_dueX 25 = .ok (.iload_n 2, 1) := by decide +kernel
theorem dX8_dueX_26 : decode cX8_dueX 26 = .ok (.imul, 1) := by decide +kernel
theorem dX8_dueX_27 : decode cX8_dueX 27 = .ok (.iadd, 1) := by decide +kernel
theorem dX8_dueX_28 : decode cX8_dueX 28 = .ok (.iaload, 1) := by decide +kernel
theorem dX8_dueX_29 : decode cX8_dueX 29 = .ok (.aload_n 0, 1) := by decide +kernel
theorem dX8_dueX_30 : decode cX8_dueX 30 = .ok (.iload_n 2, 1) := by decide +kernel
theorem dX8_dueX_31 : decode cX8_dueX 31 = .ok (.invokevirtual 257, 3) := by decide +kernel
theorem dX8_dueX_34 : decode cX8_dueX 34 = .ok (.iload_n 3, 1) := by decide +kernel
theorem dX8_dueX_35 : decode cX8_dueX 35 = .ok (.invokestatic 260, 3) := by decide +kernel
theorem dX8_dueX_38 : decode cX8_dueX 38 = .ok (.imul, 1) := by decide +kernel
theorem dX8_dueX_39 : decode cX8_dueX 39 = .ok (.aload_n 0, 1) := by decide +kernel
theorem dX8_dueX_40 : decode cX8_dueX 40 = .ok (.getfield 13, 3) := by decide +kernel
theorem dX8_dueX_43 : decode cX8_dueX 43 = .ok (.iload 4, 2) := by decide +kernel
theorem dX8_dueX_45 : decode cX8_dueX 45 = .ok (.iaload, 1) := by decide +kernel
theorem dX8_dueX_46 : decode cX8_dueX 46 = .ok (.aload_n 0, 1) := by decide +kernel
theorem dX8_dueX_47 : decode cX8_dueX 47 = .ok (.getfield 13, 3) := by decide +kernel
theorem dX8_dueX_50 : decode cX8_dueX 50 = .ok (.bipush 14, 2) := by decide +kernel
theorem dX8_dueX_52 : decode cX8_dueX 52 = .ok (.iaload, 1) := by decide +kernel
theorem dX8_dueX_53 : decode cX8_dueX 53 = .ok (.isub, 1) := by decide +kernel
theorem dX8_dueX_54 : decode cX8_dueX 54 = .ok (.imul, 1) := by decide +kernel
theorem dX8_dueX_55 : decode cX8_dueX 55 = .ok (.iadd, 1) := by decide +kernel
theorem dX8_dueX_56 : decode cX8_dueX 56 = .ok (.bipush 100, 2) := by decide +kernel
theorem dX8_dueX_58 : decode cX8_dueX 58 = .ok (.idiv, 1) := by decide +kernel
theorem dX8_dueX_59 : decode cX8_dueX 59 = .ok (.iadd, 1) := by decide +kernel
theorem dX8_dueX_60 : decode cX8_dueX 60 = .ok (.ireturn, 1) := by decide +kernel
theorem dX8_dueY_0 : decode cX8_dueY 0 = .ok (.aload_n 0, 1) := by decide +kernel
theorem dX8_dueY_1 : decode cX8_dueY 1 = .ok (.iload_n 1, 1) := by decide +kernel
theorem dX8_dueY_2 : decode cX8_dueY 2 = .ok (.invokevirtual 239, 3) := by decide +kernel
theorem dX8_dueY_5 : decode cX8_dueY 5 = .ok (.istore 4, 2) := by decide +kernel
theorem dX8_dueY_7 : decode cX8_dueY 7 = .ok (.aload_n 0, 1) := by decide +kernel
theorem dX8_dueY_8 : decode cX8_dueY 8 = .ok (.getfield 13, 3) := by decide +kernel
theorem dX8_dueY_11 : decode cX8_dueY 11 = .ok (.iload 4, 2) := by decide +kernel
theorem dX8_dueY_13 : decode cX8_dueY 13 = .ok (.iconst 2, 1) := by decide +kernel
theorem dX8_dueY_14 : decode cX8_dueY 14 = .ok (.iadd, 1) := by decide +kernel
theorem dX8_dueY_15 : decode cX8_dueY 15 = .ok (.iaload, 1) := by decide +kernel
theorem dX8_dueY_16 : decode cX8_dueY 16 = .ok (.aload_n 0, 1) := by decide +kernel
theorem dX8_dueY_17 : decode cX8_dueY 17 = .ok (.getfield 13, 3) := by decide +kernel
theorem dX8_dueY_20 : decode cX8_dueY 20 = .ok (.iload 4, 2) := by decide +kernel
theorem dX8_dueY_22 : decode cX8_dueY 22 = .ok (.iconst 4, 1) := by decide +kernel
theorem dX8_dueY_23 : decode cX8_dueY 23 = .ok (.iadd, 1) := by decide +kernel
theorem dX8_dueY_24 : decode cX8_dueY 24 = .ok (.iconst 2, 1) := by decide +kernel
theorem dX8_dueY_25 : decode cX8_dueY 25 = .ok (.iload_n 2, 1) := by decide +kernel
theorem dX8_dueY_26 : decode cX8_dueY 26 = .ok (.imul, 1) := by decide +kernel
theorem dX8_dueY_27 : decode cX8_dueY 27 = .ok (.iadd, 1) := by decide +kernel
theorem dX8_dueY_28 : decode cX8_dueY 28 = .ok (.iaload, 1) := by decide +kernel
theorem dX8_dueY_29 : decode cX8_dueY 29 = .ok (.aload_n 0, 1) := by decide +kernel
theorem dX8_dueY_30 : decode cX8_dueY 30 = .ok (.iload_n 2, 1) := by decide +kernel
theorem dX8_dueY_31 : decode cX8_dueY 31 = .ok (.invokevirtual 257, 3) := by decide +kernel
theorem dX8_dueY_34 : decode cX8_dueY 34 = .ok (.iload_n 3, 1) := by decide +kernel
theorem dX8_dueY_35 : decode cX8_dueY 35 = .ok (.invokestatic 263, 3) := by decide +kernel
theorem dX8_dueY_38 : decode cX8_dueY 38 = .ok (.imul, 1) := by decide +kernel
theorem dX8_dueY_39 : decode cX8_dueY 39 = .ok (.aload_n 0, 1) := by decide +kernel
theorem dX8_dueY_40 : decode cX8_dueY 40 = .ok (.getfield 13, 3) := by decide +kernel
theorem dX8_dueY_43 : decode cX8_dueY 43 = .ok (.iload 4, 2) := by decide +kernel
theorem dX8_dueY_45 : decode cX8_dueY 45 = .ok (.iaload, 1) := by decide +kernel
theorem dX8_dueY_46 : decode cX8_dueY 46 = .ok (.aload_n 0, 1) := by decide +kernel
theorem dX8_dueY_47 : decode cX8_dueY 47 = .ok (.getfield 13, 3) := by decide +kernel
theorem dX8_dueY_50 : decode cX8_dueY 50 = .ok (.bipush 14, 2) := by decide +kernel
theorem dX8_dueY_52 : decode cX8_dueY 52 = .ok (.iaload, 1) := by decide +kernel
theorem dX8_dueY_53 : decode cX8_dueY 53 = .ok (.isub, 1) := by decide +kernel
theorem dX8_dueY_54 : decode cX8_dueY 54 = .ok (.imul, 1) := by decide +kernel
theorem dX8_dueY_55 : decode cX8_dueY 55 = .ok (.iadd, 1) := by decide +kernel
theorem dX8_dueY_56 : decode cX8_dueY 56 = .ok (.bipush 100, 2) := by decide +kernel
theorem dX8_dueY_58 : decode cX8_dueY 58 = .ok (.idiv, 1) := by decide +kernel
theorem dX8_dueY_59 : decode cX8_dueY 59 = .ok (.iadd, 1) := by decide +kernel
theorem dX8_dueY_60 : decode cX8_dueY 60 = .ok (.ireturn, 1) := by decide +kernel
theorem dX8_isDueOn_0 : decode cX8_isDueOn 0 = .ok (.aload_n 0, 1) := by decide +kernel
theorem dX8_isDueOn_1 : decode cX8_isDueOn 1 = .ok (.iload_n 1, 1) := by decide +kernel
theorem dX8_isDueOn_2 : decode cX8_isDueOn 2 = .ok (.iload_n 2, 1) := by decide +kernel
theorem dX8_isDueOn_3 : decode cX8_isDueOn 3 = .ok (.iload_n 3, 1) := by decide +kernel
theorem dX8_isDueOn_4 : decode cX8_isDueOn 4 = .ok (.invokevirtual 354, 3) := by decide +kernel
theorem dX8_isDueOn_7 : decode cX8_isDueOn 7 = .ok (.iload 4, 2) := by decide +kernel
theorem dX8_isDueOn_9 : decode cX8_isDueOn 9 = .ok (.if_icmp .ne 30, 3) := by decide +kernel
theorem dX8_isDueOn_12 : decode cX8_isDueOn 12 = .ok (.aload_n 0, 1) := by decide +kernel
theorem dX8_isDueOn_13 : decode cX8_isDueOn 13 = .ok (.iload_n 1, 1) := by decide +kernel
theorem dX8_isDueOn_14 : decode cX8_isDueOn 14 = .ok (.iload_n 2, 1) := by decide +kernel
theorem dX8_isDueOn_15 : decode cX8_isDueOn 15 = .ok (.iload_n 3, 1) := by decide +kernel
theorem dX8_isDueOn_16 : decode cX8_isDueOn 16 = .ok (.invokevirtual 357, 3) := by decide +kernel
theorem dX8_isDueOn_19 : decode cX8_isDueOn 19 = .ok (.iload 5, 2) := by decide +kernel
theorem dX8_isDueOn_21 : decode cX8_isDueOn 21 = .ok (.if_icmp .ne 18, 3) := by decide +kernel
theorem dX8_isDueOn_24 : decode cX8_isDueOn 24 = .ok (.aload_n 0, 1) := by decide +kernel
theorem dX8_isDueOn_25 : decode cX8_isDueOn 25 = .ok (.iload 4, 2) := by decide +kernel
theorem dX8_isDueOn_27 : decode cX8_isDueOn 27 = .ok (.iload 5, 2) := by decide +kernel
theorem dX8_isDueOn_29 : decode cX8_isDueOn 29 = .ok (.invokevirtual 232, 3) := by decide +kernel
theorem dX8_isDueOn_32 : decode cX8_isDueOn 32 = .ok (.ifCond .ne 7, 3) := by decide +kernel
theorem dX8_isDueOn_35 : decode cX8_isDueOn 35 = .ok (.iconst 1, 1) := by decide +kernel
theorem dX8_isDueOn_36 : decode cX8_isDueOn 36 = .ok (.goto 4, 3) := by decide +kernel
theorem dX8_isDueOn_39 : decode cX8_isDueOn 39 = .ok (.iconst 0, 1) := by decide +kernel
theorem dX8_isDueOn_40 : decode cX8_isDueOn 40 = .ok (.ireturn, 1) := by decide +kernel
theorem dX8_alreadyOn_0 : decode cX8_alreadyOn 0 = .ok (.iconst 0, 1) := by decide +kernel
theorem dX8_alreadyOn_1 : decode cX8_alreadyOn 1 = .ok (.istore 4, 2) := by decide +kernel
theorem dX8_alreadyOn_3 : decode cX8_alreadyOn 3 = .ok (.aload_n 0, 1) := by decide +kernel
theorem dX8_alreadyOn_4 : decode cX8_alreadyOn 4 = .ok (.invokevirtual 251, 3) := by decide +kernel
theorem dX8_alreadyOn_7 : decode cX8_alreadyOn 7 = .ok (.istore 5, 2) := by decide +kernel
theorem dX8_alreadyOn_9 : decode cX8_alreadyOn 9 = .ok (.iload 5, 2) := by decide +kernel
theorem dX8_alreadyOn_11 : decode cX8_alreadyOn 11 = .ok (.aload_n 0, 1) := by decide +kernel
theorem dX8_alreadyOn_12 : decode cX8_alreadyOn 12 = .ok (.getfield 13, 3) := by decide +kernel
theorem dX8_alreadyOn_15 : decode cX8_alreadyOn 15 = .ok (.bipush 14, 2) := by decide +kernel
theorem dX8_alreadyOn_17 : decode cX8_alreadyOn 17 = .ok (.iaload, 1) := by decide +kernel
theorem dX8_alreadyOn_18 : decode cX8_alreadyOn 18 = .ok (.if_icmp .gt 68, 3) := by decide +kernel
theorem dX8_alreadyOn_21 : decode cX8_alreadyOn 21 = .ok (.iconst 0, 1) := by decide +kernel
theorem dX8_alreadyOn_22 : decode cX8_alreadyOn 22 = .ok (.istore 6, 2) := by decide +kernel
theorem dX8_alreadyOn_24 : decode cX8_alreadyOn 24 = .ok (.iload 6, 2) := by decide +kernel
theorem dX8_alreadyOn_26 : decode cX8_alreadyOn 26 = .ok (.aload_n 0, 1) := by decide +kernel
theorem dX8_alreadyOn_27 : decode cX8_alreadyOn 27 = .ok (.getfield 13, 3) := by decide +kernel
theorem dX8_alreadyOn_30 : decode cX8_alreadyOn 30 = .ok (.bipush 10, 2) := by decide +kernel
theorem dX8_alreadyOn_32 : decode cX8_alreadyOn 32 = .ok (.iaload, 1) := by decide +kernel
theorem dX8_alreadyOn_33 : decode cX8_alreadyOn 33 = .ok (.if_icmp .ge 47, 3) := by decide +kernel
theorem dX8_alreadyOn_36 : decode cX8_alreadyOn 36 = .ok (.aload_n 0, 1) := by decide +kernel
theorem dX8_alreadyOn_37 : decode cX8_alreadyOn 37 = .ok (.iload 5, 2) := by decide +kernel
theorem dX8_alreadyOn_39 : decode cX8_alreadyOn 39 = .ok (.invokevirtual 254, 3) := by decide +kernel
theorem dX8_alreadyOn_42 : decode cX8_alreadyOn 42 = .ok (.ifCond .eq 38, 3) := by decide +kernel
theorem dX8_alreadyOn_45 : decode cX8_alreadyOn 45 = .ok (.iload 4, 2) := by decide +kernel
theorem dX8_alreadyOn_47 : decode cX8_alreadyOn 47 = .ok (.aload_n 0, 1) := by decide +kernel
theorem dX8_alreadyOn_48 : decode cX8_alreadyOn 48 = .ok (.iload 5, 2) := by decide +kernel
theorem dX8_alreadyOn_50 : decode cX8_alreadyOn 50 = .ok (.iload 6, 2) := by decide +kernel
theorem dX8_alreadyOn_52 : decode cX8_alreadyOn 52 = .ok (.iload_n 3, 1) := by decide +kernel
theorem dX8_alreadyOn_53 : decode cX8_alreadyOn 53 = .ok (.iload_n 1, 1) := by decide +kernel
theorem dX8_alreadyOn_54 : decode cX8_alreadyOn 54 = .ok (.iload_n 2, 1) := by decide +kernel
theorem dX8_alreadyOn_55 : decode cX8_alreadyOn 55 = .ok (.invokevirtual 360, 3) := by decide +kernel
theorem dX8_alreadyOn_58 : decode cX8_alreadyOn 58 = .ok (.ifCond .eq 12, 3) := by decide +kernel
theorem dX8_alreadyOn_61 : decode cX8_alreadyOn 61 = .ok (.aload_n 0, 1) := by decide +kernel
theorem dX8_alreadyOn_62 : decode cX8_alreadyOn 62 = .ok (.iload 6, 2) := by decide +kernel
theorem dX8_alreadyOn_64 : decode cX8_alreadyOn 64 = .ok (.invokevirtual 245, 3) := by decide +kernel
theorem dX8_alreadyOn_67 : decode cX8_alreadyOn 67 = .ok (.goto 4, 3) := by decide +kernel
theorem dX8_alreadyOn_70 : decode cX8_alreadyOn 70 = .ok (.iconst 0, 1) := by decide +kernel
theorem dX8_alreadyOn_71 : decode cX8_alreadyOn 71 = .ok (.iadd, 1) := by decide +kernel
theorem dX8_alreadyOn_72 : decode cX8_alreadyOn 72 = .ok (.istore 4, 2) := by decide +kernel
theorem dX8_alreadyOn_74 : decode cX8_alreadyOn 74 = .ok (.iinc 6 1, 3) := by decide +kernel
theorem dX8_alreadyOn_77 : decode cX8_alreadyOn 77 = .ok (.goto (-53), 3) := by decide +kernel
theorem dX8_alreadyOn_80 : decode cX8_alreadyOn 80 = .ok (.iinc 5 1, 3) := by decide +kernel
theorem dX8_alreadyOn_83 : decode cX8_alreadyOn 83 = .ok (.goto (-74), 3) := by decide +kernel
theorem dX8_alreadyOn_86 : decode cX8_alreadyOn 86 = .ok (.iload 4, 2) := by decide +kernel
theorem dX8_alreadyOn_88 : decode cX8_alreadyOn 88 = .ok (.ireturn, 1) := by decide +kernel
theorem dX8_already_0 : decode cX8_already 0 = .ok (.aload_n 0, 1) := by decide +kernel
theorem dX8_already_1 : decode cX8_already 1 = .ok (.iload_n 1, 1) := by decide +kernel
theorem dX8_already_2 : decode cX8_already 2 = .ok (.invokevirtual 302, 3) := by decide +kernel
theorem dX8_already_5 : decode cX8_already 5 = .ok (.ifCond .eq 31, 3) := by decide +kernel
theorem dX8_already_8 : decode cX8_already 8 = .ok (.iload_n 2, 1) := by decide +kernel
theorem dX8_already_9 : decode cX8_already 9 = .ok (.i2l, 1) := by decide +kernel
theorem dX8_already_10 : decode cX8_already 10 = .ok (.invokestatic 281, 3) := by decide +kernel
theorem dX8_already_13 : decode cX8_already 13 = .ok (.ifCond .eq 23, 3) := by decide +kernel
theorem dX8_already_16 : decode cX8_already 16 = .ok (.aload_n 0, 1) := by decide +kernel
theorem dX8_already_17 : decode cX8_already 17 = .ok (.aload_n 0, 1) := by decide +kernel
theorem dX8_already_18 : decode cX8_already 18 = .ok (.iload_n 1, 1) := by decide +kernel
theorem dX8_already_19 : decode cX8_already 19 = .ok (.iconst 0, 1) := by decide +kernel
theorem dX8_already_20 : decode cX8_already 20 = .ok (.invokevirtual 72, 3) := by decide +kernel
theorem dX8_already_23 : decode cX8_already 23 = .ok (.aload_n 0, 1) := by decide +kernel
theorem dX8_already_24 : decode cX8_already 24 = .ok (.iload_n 1, 1) := by decide +kernel
theorem dX8_already_25 : decode cX8_already 25 = .ok (.iconst 1, 1) := by decide +kernel
theorem dX8_already_26 : decode cX8_already 26 = .ok (.invokevirtual 72, 3) := by decide +kernel
theorem dX8_already_29 : decode cX8_already 29 = .ok (.iload_n 2, 1) := by decide +kernel
theorem dX8_already_30 : decode cX8_already 30 = .ok (.invokevirtual 363, 3) := by decide +kernel
theorem dX8_already_33 : decode cX8_already 33 = .ok (.goto 5, 3) := by decide +kernel
theorem dX8_already_36 : decode cX8_already 36 = .ok (.bipush (-2), 2) := by decide +kernel
theorem dX8_already_38 : decode cX8_already 38 = .ok (.ireturn, 1) := by decide +kernel
theorem dX8_coming_0 : decode cX8_coming 0 = .ok (.aload_n 0, 1) := by decide +kernel
theorem dX8_coming_1 : decode cX8_coming 1 = .ok (.invokevirtual 278, 3) := by decide +kernel
theorem dX8_coming_4 : decode cX8_coming 4 = .ok (.ifCond .eq 11, 3) := by decide +kernel
theorem dX8_coming_7 : decode cX8_coming 7 = .ok (.iload_n 1, 1) := by decide +kernel
theorem dX8_coming_8 : decode cX8_coming 8 = .ok (.i2l, 1) := by decide +kernel
theorem dX8_coming_9 : decode cX8_coming 9 = .ok (.invokestatic 281, 3) := by decide +kernel
theorem dX8_coming_12 : decode cX8_coming 12 = .ok (.ifCond .ne 6, 3) := by decide +kernel
theorem dX8_coming_15 : decode cX8_coming 15 = .ok (.bipush (-2), 2) := by decide +kernel
theorem dX8_coming_17 : decode cX8_coming 17 = .ok (.ireturn, 1) := by decide +kernel
theorem dX8_coming_18 : decode cX8_coming 18 = .ok (.iconst 0, 1) := by decide +kernel
theorem dX8_coming_19 : decode cX8_coming 19 = .ok (.istore_n 2, 1) := by decide +kernel
theorem dX8_coming_20 : decode cX8_coming 20 = .ok (.aload_n 0, 1) := by decide +kernel
theorem dX8_coming_21 : decode cX8_coming 21 = .ok (.invokevirtual 251, 3) := by decide +kernel
theorem dX8_coming_24 : decode cX8_coming 24 = .ok (.istore_n 3, 1) := by decide +kernel
theorem dX8_coming_25 : decode cX8_coming 25 = .ok (.iload_n 3, 1) := by decide +kernel
theorem dX8_coming_26 : decode cX8_coming 26 = .ok (.aload_n 0, 1) := by decide +kernel
theorem dX8_coming_27 : decode cX8_coming 27 = .ok (.getfield 13, 3) := by decide +kernel
theorem dX8_coming_30 : decode cX8_coming 30 = .ok (.bipush 14, 2) := by decide +kernel
theorem dX8_coming_32 : decode cX8_coming 32 = .ok (.iaload, 1) := by decide +kernel
theorem dX8_coming_33 : decode cX8_coming 33 = .ok (.if_icmp .gt 74, 3) := by decide +kernel
theorem dX8_coming_36 : decode cX8_coming 36 = .ok (.iconst 0, 1) := by decide +kernel
theorem dX8_coming_37 : decode cX8_coming 37 = .ok (.istore 4, 2) := by decide +kernel
theorem dX8_coming_39 : decode cX8_coming 39 = .ok (.iload 4, 2) := by decide +kernel
theorem dX8_coming_41 : decode cX8_coming 41 = .ok (.aload_n 0, 1) := by decide +kernel
theorem dX8_coming_42 : decode cX8_coming 42 = .ok (.getfield 13, 3) := by decide +kernel
theorem dX8_coming_45 : decode cX8_coming 45 = .ok (.bipush 10, 2) := by decide +kernel
theorem dX8_coming_47 : decode cX8_coming 47 = .ok (.iaload, 1) := by decide +kernel
theorem dX8_coming_48 : decode cX8_coming 48 = .ok (.if_icmp .ge 53, 3) := by decide +kernel
theorem dX8_coming_51 : decode cX8_coming 51 = .ok (.aload_n 0, 1) := by decide +kernel
theorem dX8_coming_52 : decode cX8_coming 52 = .ok (.iload_n 3, 1) := by decide +kernel
theorem dX8_coming_53 : decode cX8_coming 53 = .ok (.invokevirtual 254, 3) := by decide +kernel
theorem dX8_coming_56 : decode cX8_coming 56 = .ok (.ifCond .eq 45, 3) := by decide +kernel
theorem dX8_coming_59 : decode cX8_coming 59 = .ok (.iload_n 2, 1) := by decide +kernel
theorem dX8_coming_60 : decode cX8_coming 60 = .ok (.aload_n 0, 1) := by decide +kernel
theorem dX8_coming_61 : decode cX8_coming 61 = .ok (.aload_n 0, 1) := by decide +kernel
theorem dX8_coming_62 : decode cX8_coming 62 = .ok (.iload_n 3, 1) := by decide +kernel
theorem dX8_coming_63 : decode cX8_coming 63 = .ok (.iload 4, 2) := by decide +kernel
theorem dX8_coming_65 : decode cX8_coming 65 = .ok (.iload_n 1, 1) := by decide +kernel
theorem dX8_coming_66 : decode cX8_coming 66 = .ok (.invokevirtual 354, 3) := by decide +kernel
theorem dX8_coming_69 : decode cX8_coming 69 = .ok (.aload_n 0, 1) := by decide +kernel
theorem dX8_coming_70 : decode cX8_coming 70 = .ok (.iload_n 3, 1) := by decide +kernel
theorem dX8_coming_71 : decode cX8_coming 71 = .ok (.iload 4, 2) := by decide +kernel
theorem dX8_coming_73 : decode cX8_coming 73 = .ok (.iload_n 1, 1) := by decide +kernel
theorem dX8_coming_74 : decode cX8_coming 74 = .ok (.invokevirtual 357, 3) := by decide +kernel
theorem dX8_coming_77 : decode cX8_coming 77 = .ok (.invokevirtual 232, 3) := by decide +kernel
theorem dX8_coming_80 : decode cX8_coming 80 = .ok (.ifCond .eq 7, 3) := by decide +kernel
theorem dX8_coming_83 : decode cX8_coming 83 = .ok (.iconst 0, 1) := by decide +kernel
theorem dX8_coming_84 : decode cX8_coming 84 = .ok (.goto 9, 3) := by decide +kernel
theorem dX8_coming_87 : decode cX8_coming 87 = .ok (.aload_n 0, 1) := by decide +kernel
theorem dX8_coming_88 : decode cX8_coming 88 = .ok (.iload 4, 2) := by decide +kernel
theorem dX8_coming_90 : decode cX8_coming 90 = .ok (.invokevirtual 245, 3) := by decide +kernel
theorem dX8_coming_93 : decode cX8_coming 93 = .ok (.iadd, 1) := by decide +kernel
theorem dX8_coming_94 : decode cX8_coming 94 = .ok (.istore_n 2, 1) := by decide +kernel
theorem dX8_coming_95 : decode cX8_coming 95 = .ok (.iinc 4 1, 3) := by decide +kernel
theorem dX8_coming_98 : decode cX8_coming 98 = .ok (.goto (-59), 3) := by decide +kernel
theorem dX8_coming_101 : decode cX8_coming 101 = .ok (.iinc 3 1, 3) := by decide +kernel
theorem dX8_coming_104 : decode cX8_coming 104 = .ok (.goto (-79), 3) := by decide +kernel
theorem dX8_coming_107 : decode cX8_coming 107 = .ok (.iload_n 2, 1) := by decide +kernel
theorem dX8_coming_108 : decode cX8_coming 108 = .ok (.ireturn, 1) := by decide +kernel
theorem dX8_worst_0 : decode cX8_worst 0 = .ok (.aload_n 0, 1) := by decide +kernel
theorem dX8_worst_1 : decode cX8_worst 1 = .ok (.iload_n 1, 1) := by decide +kernel
theorem dX8_worst_2 : decode cX8_worst 2 = .ok (.invokevirtual 302, 3) := by decide +kernel
theorem dX8_worst_5 : decode cX8_worst 5 = .ok (.ifCond .ne 6, 3) := by decide +kernel
theorem dX8_worst_8 : decode cX8_worst 8 = .ok (.bipush (-2), 2) := by decide +kernel
theorem dX8_worst_10 : decode cX8_worst 10 = .ok (.ireturn, 1) := by decide +kernel
theorem dX8_worst_11 : decode cX8_worst 11 = .ok (.iconst (-1), 1) := by decide +kernel
theorem dX8_worst_12 : decode cX8_worst 12 = .ok (.istore_n 2, 1) := by decide +kernel
theorem dX8_worst_13 : decode cX8_worst 13 = .ok (.iconst 0, 1) := by decide +kernel
theorem dX8_worst_14 : decode cX8_worst 14 = .ok (.istore_n 3, 1) := by decide +kernel
theorem dX8_worst_15 : decode cX8_worst 15 = .ok (.iconst 0, 1) := by decide +kernel
theorem dX8_worst_16 : decode cX8_worst 16 = .ok (.istore 4, 2) := by decide +kernel
theorem dX8_worst_18 : decode cX8_worst 18 = .ok (.iload 4, 2) := by decide +kernel
theorem dX8_worst_20 : decode cX8_worst 20 = .ok (.bipush 40, 2) := by decide +kernel
theorem dX8_worst_22 : decode cX8_worst 22 = .ok (.if_icmp .ge 44, 3) := by decide +kernel
theorem dX8_worst_25 : decode cX8_worst 25 = .ok (.aload_n 0, 1) := by decide +kernel
theorem dX8_worst_26 : decode cX8_worst 26 = .ok (.aload_n 0, 1) := by decide +kernel
theorem dX8_worst_27 : decode cX8_worst 27 = .ok (.iload_n 1, 1) := by decide +kernel
theorem dX8_worst_28 : decode cX8_worst 28 = .ok (.iconst 0, 1) := by decide +kernel
theorem dX8_worst_29 : decode cX8_worst 29 = .ok (.invokevirtual 72, 3) := by decide +kernel
theorem dX8_worst_32 : decode cX8_worst 32 = .ok (.aload_n 0, 1) := by decide +kernel
theorem dX8_worst_33 : decode cX8_worst 33 = .ok (.iload_n 1, 1) := by decide +kernel
theorem dX8_worst_34 : decode cX8_worst 34 = .ok (.iconst 1, 1) := by decide +kernel
theorem dX8_worst_35 : decode cX8_worst 35 = .ok (.invokevirtual 72, 3) := by decide +kernel
theorem dX8_worst_38 : decode cX8_worst 38 = .ok (.iload 4, 2) := by decide +kernel
theorem dX8_worst_40 : decode cX8_worst 40 = .ok (.invokevirtual 363, 3) := by decide +kernel
theorem dX8_worst_43 : decode cX8_worst 43 = .ok (.istore 5, 2) := by decide +kernel
theorem dX8_worst_45 : decode cX8_worst 45 = .ok (.iload 5, 2) := by decide +kernel
theorem dX8_worst_47 : decode cX8_worst 47 = .ok (.iload_n 3, 1) := by decide +kernel
theorem dX8_worst_48 : decode cX8_worst 48 = .ok (.if_icmp .gt 6, 3) := by decide +kernel
theorem dX8_worst_51 : decode cX8_worst 51 = .ok (.goto 9, 3) := by decide +kernel
theorem dX8_worst_54 : decode cX8_worst 54 = .ok (.iload 4, 2) := by decide +kernel
theorem dX8_worst_56 : decode cX8_worst 56 = .ok (.istore_n 2, 1) := by decide +kernel
theorem dX8_worst_57 : decode cX8_worst 57 = .ok (.iload 5, 2) := by decide +kernel
theorem dX8_worst_59 : decode cX8_worst 59 = .ok (.istore_n 3, 1) := by decide +kernel
theorem dX8_worst_60 : decode cX8_worst 60 = .ok (.iinc 4 1, 3) := by decide +kernel
theorem dX8_worst_63 : decode cX8_worst 63 = .ok (.goto (-45), 3) := by decide +kernel
theorem dX8_worst_66 : decode cX8_worst 66 = .ok (.iload_n 2, 1) := by decide +kernel
theorem dX8_worst_67 : decode cX8_worst 67 = .ok (.ireturn, 1) := by decide +kernel
theorem dX8_last_0 : decode cX8_last 0 = .ok (.aload_n 0, 1) := by decide +kernel
theorem dX8_last_1 : decode cX8_last 1 = .ok (.iload_n 1, 1) := by decide +kernel
theorem dX8_last_2 : decode cX8_last 2 = .ok (.invokevirtual 302, 3) := by decide +kernel
theorem dX8_last_5 : decode cX8_last 5 = .ok (.ifCond .eq 11, 3) := by decide +kernel
theorem dX8_last_8 : decode cX8_last 8 = .ok (.iload_n 2, 1) := by decide +kernel
theorem dX8_last_9 : decode cX8_last 9 = .ok (.i2l, 1) := by decide +kernel
theorem dX8_last_10 : decode cX8_last 10 = .ok (.invokestatic 281, 3) := by decide +kernel
theorem dX8_last_13 : decode cX8_last 13 = .ok (.ifCond .ne 6, 3) := by decide +kernel
theorem dX8_last_16 : decode cX8_last 16 = .ok (.bipush (-2), 2) := by decide +kernel
theorem dX8_last_18 : decode cX8_last 18 = .ok (.ireturn, 1) := by decide +kernel
theorem dX8_last_19 : decode cX8_last 19 = .ok (.iconst 0, 1) := by decide +kernel
theorem dX8_last_20 : decode cX8_last 20 = .ok (.istore_n 3, 1) := by decide +kernel
theorem dX8_last_21 : decode cX8_last 21 = .ok (.aload_n 0, 1) := by decide +kernel
theorem dX8_last_22 : decode cX8_last 22 = .ok (.invokevirtual 251, 3) := by decide +kernel
theorem dX8_last_25 : decode cX8_last 25 = .ok (.istore 4, 2) := by decide +kernel
theorem dX8_last_27 : decode cX8_last 27 = .ok (.iload 4, 2) := by decide +kernel
theorem dX8_last_29 : decode cX8_last 29 = .ok (.aload_n 0, 1) := by decide +kernel
theorem dX8_last_30 : decode cX8_last 30 = .ok (.getfield 13, 3) := by decide +kernel
theorem dX8_last_33 : decode cX8_last 33 = .ok (.bipush 14, 2) := by decide +kernel
theorem dX8_last_35 : decode cX8_last 35 = .ok (.iaload, 1) := by decide +kernel
theorem dX8_last_36 : decode cX8_last 36 = .ok (.if_icmp .gt 95, 3) := by decide +kernel
theorem dX8_last_39 : decode cX8_last 39 = .ok (.iconst 0, 1) := by decide +kernel
theorem dX8_last_40 : decode cX8_last 40 = .ok (.istore 5, 2) := by decide +kernel
theorem dX8_last_42 : decode cX8_last 42 = .ok (.iload 5, 2) := by decide +kernel
theorem dX8_last_44 : decode cX8_last 44 = .ok (.aload_n 0, 1) := by decide +kernel
theorem dX8_last_45 : decode cX8_last 45 = .ok (.getfield 13, 3) := by decide +kernel
theorem dX8_last_48 : decode cX8_last 48 = .ok (.bipush 10, 2) := by decide +kernel
theorem dX8_last_50 : decode cX8_last 50 = .ok (.iaload, 1) := by decide +kernel
theorem dX8_last_51 : decode cX8_last 51 = .ok (.if_icmp .ge 74, 3) := by decide +kernel
theorem dX8_last_54 : decode cX8_last 54 = .ok (.aload_n 0, 1) := by decide +kernel
theorem dX8_last_55 : decode cX8_last 55 = .ok (.iload 4, 2) := by decide +kernel
theorem dX8_last_57 : decode cX8_last 57 = .ok (.invokevirtual 254, 3) := by decide +kernel
theorem dX8_last_60 : decode cX8_last 60 = .ok (.ifCond .eq 65, 3) := by decide +kernel
theorem dX8_last_63 : decode cX8_last 63 = .ok (.aload_n 0, 1) := by decide +kernel
theorem dX8_last_64 : decode cX8_last 64 = .ok (.iload 4, 2) := by decide +kernel
theorem dX8_last_66 : decode cX8_last 66 = .ok (.iload 5, 2) := by decide +kernel
theorem dX8_last_68 : decode cX8_last 68 = .ok (.iload_n 2, 1) := by decide +kernel
theorem dX8_last_69 : decode cX8_last 69 = .ok (.aload_n 0, 1) := by decide +kernel
theorem dX8_last_70 : decode cX8_last 70 = .ok (.iload_n 1, 1) := by decide +kernel
theorem dX8_last_71 : decode cX8_last 71 = .ok (.iconst 0, 1) := by decide +kernel
theorem dX8_last_72 : decode cX8_last 72 = .ok (.invokevirtual 72, 3) := by decide +kernel
theorem dX8_last_75 : decode cX8_last 75 = .ok (.aload_n 0, 1) := by decide +kernel
theorem dX8_last_76 : decode cX8_last 76 = .ok (.iload_n 1, 1) := by decide +kernel
theorem dX8_last_77 : decode cX8_last 77 = .ok (.iconst 1, 1) := by decide +kernel
theorem dX8_last_78 : decode cX8_last 78 = .ok (.invokevirtual 72, 3) := by decide +kernel
theorem dX8_last_81 : decode cX8_last 81 = .ok (.invokevirtual 360, 3) := by decide +kernel
theorem dX8_last_84 : decode cX8_last 84 = .ok (.istore 6, 2) := by decide +kernel
theorem dX8_last_86 : decode cX8_last 86 = .ok (.iload 6, 2) := by decide +kernel
theorem dX8_last_88 : decode cX8_last 88 = .ok (.ifCond .eq 29, 3) := by decide +kernel
theorem dX8_last_91 : decode cX8_last 91 = .ok (.iload_n 3, 1) := by decide +kernel
theorem dX8_last_92 : decode cX8_last 92 = .ok (.aload_n 0, 1) := by decide +kernel
theorem dX8_last_93 : decode cX8_last 93 = .ok (.getfield 13, 3) := by decide +kernel
theorem dX8_last_96 : decode cX8_last 96 = .ok (.aload_n 0, 1) := by decide +kernel
theorem dX8_last_97 : decode cX8_last 97 = .ok (.iload 4, 2) := by decide +kernel
theorem dX8_last_99 : decode cX8_last 99 = .ok (.invokevirtual 239, 3) := by decide +kernel
theorem dX8_last_102 : decode cX8_last 102 = .ok (.iaload, 1) := by decide +kernel
theorem dX8_last_103 : decode cX8_last 103 = .ok (.aload_n 0, 1) := by decide +kernel
theorem dX8_last_104 : decode cX8_last 104 = .ok (.getfield 13, 3) := by decide +kernel
theorem dX8_last_107 : decode cX8_last 107 = .ok (.bipush 14, 2) := by decide +kernel
theorem dX8_last_109 : decode cX8_last 109 = .ok (.iaload, 1) := by decide +kernel
theorem dX8_last_110 : decode cX8_last 110 = .ok (.isub, 1) := by decide +kernel
theorem dX8_last_111 : decode cX8_last 111 = .ok (.invokestatic 242, 3) := by decide +kernel
theorem dX8_last_114 : decode cX8_last 114 = .ok (.goto 4, 3) := by decide +kernel
theorem dX8_last_117 : decode cX8_last 117 = .ok (.iload_n 3, 1) := by decide +kernel
theorem dX8_last_118 : decode cX8_last 118 = .ok (.istore_n 3, 1) := by decide +kernel
theorem dX8_last_119 : decode cX8_last 119 = .ok (.iinc 5 1, 3) := by decide +kernel
theorem dX8_last_122 : decode cX8_last 122 = .ok (.goto (-80), 3) := by decide +kernel
theorem dX8_last_125 : decode cX8_last 125 = .ok (.iinc 4 1, 3) := by decide +kernel
theorem dX8_last_128 : decode cX8_last 128 = .ok (.goto (-101), 3) := by decide +kernel
theorem dX8_last_131 : decode cX8_last 131 = .ok (.iload_n 3, 1) := by decide +kernel
theorem dX8_last_132 : decode cX8_last 132 = .ok (.ireturn, 1) := by decide +kernel
theorem dX8_thinks_0 : decode cX8_thinks 0 = .ok (.iconst 0, 1) := by decide +kernel
theorem dX8_thinks_1 : decode cX8_thinks 1 = .ok (.istore_n 1, 1) := by decide +kernel
theorem dX8_thinks_2 : decode cX8_thinks 2 = .ok (.iload_n 1, 1) := by decide +kernel
theorem dX8_thinks_3 : decode cX8_thinks 3 = .ok (.sipush 1419, 3) := by decide +kernel
theorem dX8_thinks_6 : decode cX8_thinks 6 = .ok (.if_icmp .ge 21, 3) := by decide +kernel
theorem dX8_thinks_9 : decode cX8_thinks 9 = .ok (.aload_n 0, 1) := by decide +kernel
theorem dX8_thinks_10 : decode cX8_thinks 10 = .ok (.getfield 37, 3) := by decide +kernel
theorem dX8_thinks_13 : decode cX8_thinks 13 = .ok (.iload_n 1, 1) := by decide +kernel
theorem dX8_thinks_14 : decode cX8_thinks 14 = .ok (.aload_n 0, 1) := by decide +kernel
theorem dX8_thinks_15 : decode cX8_thinks 15 = .ok (.getfield 13, 3) := by decide +kernel
theorem dX8_thinks_18 : decode cX8_thinks 18 = .ok (.iload_n 1, 1) := by decide +kernel
theorem dX8_thinks_19 : decode cX8_thinks 19 = .ok (.iaload, 1) := by decide +kernel
theorem dX8_thinks_20 : decode cX8_thinks 20 = .ok (.iastore, 1) := by decide +kernel
theorem dX8_thinks_21 : decode cX8_thinks 21 = .ok (.iinc 1 1, 3) := by decide +kernel
theorem dX8_thinks_24 : decode cX8_thinks 24 = .ok (.goto (-22), 3) := by decide +kernel
theorem dX8_thinks_27 : decode cX8_thinks 27 = .ok (.return_, 1) := by decide +kernel
theorem dX8_wakes_0 : decode cX8_wakes 0 = .ok (.iconst 0, 1) := by decide +kernel
theorem dX8_wakes_1 : decode cX8_wakes 1 = .ok (.istore_n 1, 1) := by decide +kernel
theorem dX8_wakes_2 : decode cX8_wakes 2 = .ok (.iload_n 1, 1) := by decide +kernel
theorem dX8_wakes_3 : decode cX8_wakes 3 = .ok (.sipush 1419, 3) := by decide +kernel
theorem dX8_wakes_6 : decode cX8_wakes 6 = .ok (.if_icmp .ge 21, 3) := by decide +kernel
theorem dX8_wakes_9 : decode cX8_wakes 9 = .ok (.aload_n 0, 1) := by decide +kernel
theorem dX8_wakes_10 : decode cX8_wakes 10 = .ok (.getfield 13, 3) := by decide +kernel
theorem dX8_wakes_13 : decode cX8_wakes 13 = .ok (.iload_n 1, 1) := by decide +kernel
theorem dX8_wakes_14 : decode cX8_wakes 14 = .ok (.aload_n 0, 1) := by decide +kernel
theorem dX8_wakes_15 : decode cX8_wakes 15 = .ok (.getfield 37, 3) := by decide +kernel
theorem dX8_wakes_18 : decode cX8_wakes 18 = .ok (.iload_n 1, 1) := by decide +kernel
theorem dX8_wakes_19 : decode cX8_wakes 19 = .ok (.iaload, 1) := by decide +kernel
