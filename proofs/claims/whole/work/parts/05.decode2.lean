theorem dX7_wet_9 : decode cX7_wet 9 = .ok (.invokevirtual 120, 3) := by decide +kernel
theorem dX7_wet_12 : decode cX7_wet 12 = .ok (.ifCond .eq 18, 3) := by decide +kernel
theorem dX7_wet_15 : decode cX7_wet 15 = .ok (.aload_n 0, 1) := by decide +kernel
theorem dX7_wet_16 : decode cX7_wet 16 = .ok (.getfield 19, 3) := by decide +kernel
theorem dX7_wet_19 : decode cX7_wet 19 = .ok (.getfield 75, 3) := by decide +kernel
theorem dX7_wet_22 : decode cX7_wet 22 = .ok (.iload_n 1, 1) := by decide +kernel
theorem dX7_wet_23 : decode cX7_wet 23 = .ok (.iload_n 2, 1) := by decide +kernel
theorem dX7_wet_24 : decode cX7_wet 24 = .ok (.invokevirtual 124, 3) := by decide +kernel
theorem dX7_wet_27 : decode cX7_wet 27 = .ok (.goto 5, 3) := by decide +kernel
theorem dX7_wet_30 : decode cX7_wet 30 = .ok (.bipush (-2), 2) := by decide +kernel
theorem dX7_wet_32 : decode cX7_wet 32 = .ok (.ireturn, 1) := by decide +kernel
theorem dX7_table_0 : decode cX7_table 0 = .ok (.aload_n 0, 1) := by decide +kernel
theorem dX7_table_1 : decode cX7_table 1 = .ok (.iload_n 1, 1) := by decide +kernel
theorem dX7_table_2 : decode cX7_table 2 = .ok (.invokevirtual 127, 3) := by decide +kernel
theorem dX7_table_5 : decode cX7_table 5 = .ok (.ifCond .ne 6, 3) := by decide +kernel
theorem dX7_table_8 : decode cX7_table 8 = .ok (.bipush (-2), 2) := by decide +kernel
theorem dX7_table_10 : decode cX7_table 10 = .ok (.ireturn, 1) := by decide +kernel
theorem dX7_table_11 : decode cX7_table 11 = .ok (.iload_n 2, 1) := by decide +kernel
theorem dX7_table_12 : decode cX7_table 12 = .ok (.tableswitch 80 0 3 #[32, 45, 58, 71], 32) := by decide +kernel
theorem dX7_table_44 : decode cX7_table 44 = .ok (.aload_n 0, 1) := by decide +kernel
theorem dX7_table_45 : decode cX7_table 45 = .ok (.getfield 19, 3) := by decide +kernel
theorem dX7_table_48 : decode cX7_table 48 = .ok (.getfield 28, 3) := by decide +kernel
theorem dX7_table_51 : decode cX7_table 51 = .ok (.getfield 131, 3) := by decide +kernel
theorem dX7_table_54 : decode cX7_table 54 = .ok (.iload_n 1, 1) := by decide +kernel
theorem dX7_table_55 : decode cX7_table 55 = .ok (.iaload, 1) := by decide +kernel
theorem dX7_table_56 : decode cX7_table 56 = .ok (.ireturn, 1) := by decide +kernel
theorem dX7_table_57 : decode cX7_table 57 = .ok (.aload_n 0, 1) := by decide +kernel
theorem dX7_table_58 : decode cX7_table 58 = .ok (.getfield 19, 3) := by decide +kernel
theorem dX7_table_61 : decode cX7_table 61 = .ok (.getfield 28, 3) := by decide +kernel
theorem dX7_table_64 : decode cX7_table 64 = .ok (.getfield 135, 3) := by decide +kernel
theorem dX7_table_67 : decode cX7_table 67 = .ok (.iload_n 1, 1) := by decide +kernel
theorem dX7_table_68 : decode cX7_table 68 = .ok (.iaload, 1) := by decide +kernel
theorem dX7_table_69 : decode cX7_table 69 = .ok (.ireturn, 1) := by decide +kernel
theorem dX7_table_70 : decode cX7_table 70 = .ok (.aload_n 0, 1) := by decide +kernel
theorem dX7_table_71 : decode cX7_table 71 = .ok (.getfield 19, 3) := by decide +kernel
theorem dX7_table_74 : decode cX7_table 74 = .ok (.getfield 28, 3) := by decide +kernel
theorem dX7_table_77 : decode cX7_table 77 = .ok (.getfield 138, 3) := by decide +kernel
theorem dX7_table_80 : decode cX7_table 80 = .ok (.iload_n 1, 1) := by decide +kernel
theorem dX7_table_81 : decode cX7_table 81 = .ok (.iaload, 1) := by decide +kernel
theorem dX7_table_82 : decode cX7_table 82 = .ok (.ireturn, 1) := by decide +kernel
theorem dX7_table_83 : decode cX7_table 83 = .ok (.aload_n 0, 1) := by decide +kernel
theorem dX7_table_84 : decode cX7_table 84 = .ok (.getfield 19, 3) := by decide +kernel
theorem dX7_table_87 : decode cX7_table 87 = .ok (.iload_n 1, 1) := by decide +kernel
theorem dX7_table_88 : decode cX7_table 88 = .ok (.invokevirtual 141, 3) := by decide +kernel
theorem dX7_table_91 : decode cX7_table 91 = .ok (.ireturn, 1) := by decide +kernel
theorem dX7_table_92 : decode cX7_table 92 = .ok (.bipush (-2), 2) := by decide +kernel
theorem dX7_table_94 : decode cX7_table 94 = .ok (.ireturn, 1) := by decide +kernel
theorem dX7_over_0 : decode cX7_over 0 = .ok (.aload_n 0, 1) := by decide +kernel
theorem dX7_over_1 : decode cX7_over 1 = .ok (.getfield 19, 3) := by decide +kernel
theorem dX7_over_4 : decode cX7_over 4 = .ok (.invokevirtual 144, 3) := by decide +kernel
theorem dX7_over_7 : decode cX7_over 7 = .ok (.ireturn, 1) := by decide +kernel
theorem dX7_water_0 : decode cX7_water 0 = .ok (.aload_n 0, 1) := by decide +kernel
theorem dX7_water_1 : decode cX7_water 1 = .ok (.getfield 19, 3) := by decide +kernel
theorem dX7_water_4 : decode cX7_water 4 = .ok (.getfield 75, 3) := by decide +kernel
theorem dX7_water_7 : decode cX7_water 7 = .ok (.astore_n 2, 1) := by decide +kernel
theorem dX7_water_8 : decode cX7_water 8 = .ok (.iload_n 1, 1) := by decide +kernel
theorem dX7_water_9 : decode cX7_water 9 = .ok (.tableswitch 80 0 5 #[39, 44, 60, 65, 70, 75], 39) := by decide +kernel
theorem dX7_water_48 : decode cX7_water 48 = .ok (.aload_n 2, 1) := by decide +kernel
theorem dX7_water_49 : decode cX7_water 49 = .ok (.invokevirtual 148, 3) := by decide +kernel
theorem dX7_water_52 : decode cX7_water 52 = .ok (.ireturn, 1) := by decide +kernel
theorem dX7_water_53 : decode cX7_water 53 = .ok (.aload_n 2, 1) := by decide +kernel
theorem dX7_water_54 : decode cX7_water 54 = .ok (.invokevirtual 148, 3) := by decide +kernel
theorem dX7_water_57 : decode cX7_water 57 = .ok (.ifCond .le 10, 3) := by decide +kernel
theorem dX7_water_60 : decode cX7_water 60 = .ok (.aload_n 2, 1) := by decide +kernel
theorem dX7_water_61 : decode cX7_water 61 = .ok (.invokevirtual 151, 3) := by decide +kernel
theorem dX7_water_64 : decode cX7_water 64 = .ok (.goto 4, 3) := by decide +kernel
theorem dX7_water_67 : decode cX7_water 67 = .ok (.iconst 0, 1) := by decide +kernel
theorem dX7_water_68 : decode cX7_water 68 = .ok (.ireturn, 1) := by decide +kernel
theorem dX7_water_69 : decode cX7_water 69 = .ok (.aload_n 2, 1) := by decide +kernel
theorem dX7_water_70 : decode cX7_water 70 = .ok (.getfield 154, 3) := by decide +kernel
theorem dX7_water_73 : decode cX7_water 73 = .ok (.ireturn, 1) := by decide +kernel
theorem dX7_water_74 : decode cX7_water 74 = .ok (.aload_n 2, 1) := by decide +kernel
theorem dX7_water_75 : decode cX7_water 75 = .ok (.getfield 157, 3) := by decide +kernel
theorem dX7_water_78 : decode cX7_water 78 = .ok (.ireturn, 1) := by decide +kernel
theorem dX7_water_79 : decode cX7_water 79 = .ok (.aload_n 2, 1) := by decide +kernel
theorem dX7_water_80 : decode cX7_water 80 = .ok (.getfield 160, 3) := by decide +kernel
theorem dX7_water_83 : decode cX7_water 83 = .ok (.ireturn, 1) := by decide +kernel
theorem dX7_water_84 : decode cX7_water 84 = .ok (.aload_n 2, 1) := by decide +kernel
theorem dX7_water_85 : decode cX7_water 85 = .ok (.getfield 163, 3) := by decide +kernel
theorem dX7_water_88 : decode cX7_water 88 = .ok (.ireturn, 1) := by decide +kernel
theorem dX7_water_89 : decode cX7_water 89 = .ok (.iconst (-1), 1) := by decide +kernel
theorem dX7_water_90 : decode cX7_water 90 = .ok (.ireturn, 1) := by decide +kernel
theorem dX7_jet_0 : decode cX7_jet 0 = .ok (.iload_n 1, 1) := by decide +kernel
theorem dX7_jet_1 : decode cX7_jet 1 = .ok (.tableswitch 75 0 3 #[31, 42, 53, 64], 31) := by decide +kernel
theorem dX7_jet_32 : decode cX7_jet 32 = .ok (.aload_n 0, 1) := by decide +kernel
theorem dX7_jet_33 : decode cX7_jet 33 = .ok (.getfield 19, 3) := by decide +kernel
theorem dX7_jet_36 : decode cX7_jet 36 = .ok (.getfield 75, 3) := by decide +kernel
theorem dX7_jet_39 : decode cX7_jet 39 = .ok (.getfield 166, 3) := by decide +kernel
theorem dX7_jet_42 : decode cX7_jet 42 = .ok (.ireturn, 1) := by decide +kernel
theorem dX7_jet_43 : decode cX7_jet 43 = .ok (.aload_n 0, 1) := by decide +kernel
theorem dX7_jet_44 : decode cX7_jet 44 = .ok (.getfield 19, 3) := by decide +kernel
theorem dX7_jet_47 : decode cX7_jet 47 = .ok (.getfield 75, 3) := by decide +kernel
theorem dX7_jet_50 : decode cX7_jet 50 = .ok (.getfield 169, 3) := by decide +kernel
theorem dX7_jet_53 : decode cX7_jet 53 = .ok (.ireturn, 1) := by decide +kernel
theorem dX7_jet_54 : decode cX7_jet 54 = .ok (.aload_n 0, 1) := by decide +kernel
theorem dX7_jet_55 : decode cX7_jet 55 = .ok (.getfield 19, 3) := by decide +kernel
theorem dX7_jet_58 : decode cX7_jet 58 = .ok (.getfield 75, 3) := by decide +kernel
theorem dX7_jet_61 : decode cX7_jet 61 = .ok (.getfield 172, 3) := by decide +kernel
theorem dX7_jet_64 : decode cX7_jet 64 = .ok (.ireturn, 1) := by decide +kernel
theorem dX7_jet_65 : decode cX7_jet 65 = .ok (.aload_n 0, 1) := by decide +kernel
theorem dX7_jet_66 : decode cX7_jet 66 = .ok (.getfield 19, 3) := by decide +kernel
theorem dX7_jet_69 : decode cX7_jet 69 = .ok (.getfield 75, 3) := by decide +kernel
theorem dX7_jet_72 : decode cX7_jet 72 = .ok (.getfield 175, 3) := by decide +kernel
theorem dX7_jet_75 : decode cX7_jet 75 = .ok (.ireturn, 1) := by decide +kernel
theorem dX7_jet_76 : decode cX7_jet 76 = .ok (.iconst (-1), 1) := by decide +kernel
theorem dX7_jet_77 : decode cX7_jet 77 = .ok (.ireturn, 1) := by decide +kernel
theorem dX7_lets_0 : decode cX7_lets 0 = .ok (.aload_n 0, 1) := by decide +kernel
theorem dX7_lets_1 : decode cX7_lets 1 = .ok (.invokevirtual 178, 3) := by decide +kernel
theorem dX7_lets_4 : decode cX7_lets 4 = .ok (.ifCond .eq 27, 3) := by decide +kernel
theorem dX7_lets_7 : decode cX7_lets 7 = .ok (.iload_n 1, 1) := by decide +kernel
theorem dX7_lets_8 : decode cX7_lets 8 = .ok (.iconst 0, 1) := by decide +kernel
theorem dX7_lets_9 : decode cX7_lets 9 = .ok (.bipush 9, 2) := by decide +kernel
theorem dX7_lets_11 : decode cX7_lets 11 = .ok (.invokestatic 93, 3) := by decide +kernel
theorem dX7_lets_14 : decode cX7_lets 14 = .ok (.ifCond .eq 17, 3) := by decide +kernel
theorem dX7_lets_17 : decode cX7_lets 17 = .ok (.aload_n 0, 1) := by decide +kernel
theorem dX7_lets_18 : decode cX7_lets 18 = .ok (.getfield 19, 3) := by decide +kernel
theorem dX7_lets_21 : decode cX7_lets 21 = .ok (.getfield 28, 3) := by decide +kernel
theorem dX7_lets_24 : decode cX7_lets 24 = .ok (.iload_n 1, 1) := by decide +kernel
theorem dX7_lets_25 : decode cX7_lets 25 = .ok (.invokevirtual 181, 3) := by decide +kernel
theorem dX7_lets_28 : decode cX7_lets 28 = .ok (.goto 5, 3) := by decide +kernel
theorem dX7_lets_31 : decode cX7_lets 31 = .ok (.bipush (-2), 2) := by decide +kernel
theorem dX7_lets_33 : decode cX7_lets 33 = .ok (.ireturn, 1) := by decide +kernel
theorem dX7_ice_0 : decode cX7_ice 0 = .ok (.aload_n 0, 1) := by decide +kernel
theorem dX7_ice_1 : decode cX7_ice 1 = .ok (.getfield 19, 3) := by decide +kernel
theorem dX7_ice_4 : decode cX7_ice 4 = .ok (.invokevirtual 184, 3) := by decide +kernel
theorem dX7_ice_7 : decode cX7_ice 7 = .ok (.ireturn, 1) := by decide +kernel
theorem dX7_sum_0 : decode cX7_sum 0 = .ok (.aload_n 0, 1) := by decide +kernel
theorem dX7_sum_1 : decode cX7_sum 1 = .ok (.getfield 19, 3) := by decide +kernel
theorem dX7_sum_4 : decode cX7_sum 4 = .ok (.getfield 28, 3) := by decide +kernel
theorem dX7_sum_7 : decode cX7_sum 7 = .ok (.iload_n 1, 1) := by decide +kernel
theorem dX7_sum_8 : decode cX7_sum 8 = .ok (.iload_n 2, 1) := by decide +kernel
theorem dX7_sum_9 : decode cX7_sum 9 = .ok (.invokevirtual 120, 3) := by decide +kernel
theorem dX7_sum_12 : decode cX7_sum 12 = .ok (.ifCond .eq 24, 3) := by decide +kernel
theorem dX7_sum_15 : decode cX7_sum 15 = .ok (.iload_n 3, 1) := by decide +kernel
theorem dX7_sum_16 : decode cX7_sum 16 = .ok (.iconst 1, 1) := by decide +kernel
theorem dX7_sum_17 : decode cX7_sum 17 = .ok (.bipush 30, 2) := by decide +kernel
theorem dX7_sum_19 : decode cX7_sum 19 = .ok (.invokestatic 93, 3) := by decide +kernel
theorem dX7_sum_22 : decode cX7_sum 22 = .ok (.ifCond .eq 14, 3) := by decide +kernel
theorem dX7_sum_25 : decode cX7_sum 25 = .ok (.iload 4, 2) := by decide +kernel
theorem dX7_sum_27 : decode cX7_sum 27 = .ok (.iconst 1, 1) := by decide +kernel
theorem dX7_sum_28 : decode cX7_sum 28 = .ok (.bipush 30, 2) := by decide +kernel
theorem dX7_sum_30 : decode cX7_sum 30 = .ok (.invokestatic 93, 3) := by decide +kernel
theorem dX7_sum_33 : decode cX7_sum 33 = .ok (.ifCond .ne 6, 3) := by decide +kernel
theorem dX7_sum_36 : decode cX7_sum 36 = .ok (.bipush (-2), 2) := by decide +kernel
theorem dX7_sum_38 : decode cX7_sum 38 = .ok (.ireturn, 1) := by decide +kernel
theorem dX7_sum_39 : decode cX7_sum 39 = .ok (.iload_n 1, 1) := by decide +kernel
theorem dX7_sum_40 : decode cX7_sum 40 = .ok (.iload_n 3, 1) := by decide +kernel
theorem dX7_sum_41 : decode cX7_sum 41 = .ok (.iadd, 1) := by decide +kernel
theorem dX7_sum_42 : decode cX7_sum 42 = .ok (.aload_n 0, 1) := by decide +kernel
theorem dX7_sum_43 : decode cX7_sum 43 = .ok (.getfield 19, 3) := by decide +kernel
theorem dX7_sum_46 : decode cX7_sum 46 = .ok (.getfield 28, 3) := by decide +kernel
theorem dX7_sum_49 : decode cX7_sum 49 = .ok (.getfield 187, 3) := by decide +kernel
theorem dX7_sum_52 : decode cX7_sum 52 = .ok (.invokestatic 190, 3) := by decide +kernel
theorem dX7_sum_55 : decode cX7_sum 55 = .ok (.istore 5, 2) := by decide +kernel
theorem dX7_sum_57 : decode cX7_sum 57 = .ok (.iload_n 2, 1) := by decide +kernel
theorem dX7_sum_58 : decode cX7_sum 58 = .ok (.iload 4, 2) := by decide +kernel
theorem dX7_sum_60 : decode cX7_sum 60 = .ok (.iadd, 1) := by decide +kernel
theorem dX7_sum_61 : decode cX7_sum 61 = .ok (.aload_n 0, 1) := by decide +kernel
theorem dX7_sum_62 : decode cX7_sum 62 = .ok (.getfield 19, 3) := by decide +kernel
theorem dX7_sum_65 : decode cX7_sum 65 = .ok (.getfield 28, 3) := by decide +kernel
theorem dX7_sum_68 : decode cX7_sum 68 = .ok (.getfield 195, 3) := by decide +kernel
theorem dX7_sum_71 : decode cX7_sum 71 = .ok (.invokestatic 190, 3) := by decide +kernel
theorem dX7_sum_74 : decode cX7_sum 74 = .ok (.istore 6, 2) := by decide +kernel
theorem dX7_sum_76 : decode cX7_sum 76 = .ok (.iconst 0, 1) := by decide +kernel
theorem dX7_sum_77 : decode cX7_sum 77 = .ok (.istore 7, 2) := by decide +kernel
theorem dX7_sum_79 : decode cX7_sum 79 = .ok (.iload_n 2, 1) := by decide +kernel
theorem dX7_sum_80 : decode cX7_sum 80 = .ok (.istore 8, 2) := by decide +kernel
theorem dX7_sum_82 : decode cX7_sum 82 = .ok (.iload 8, 2) := by decide +kernel
theorem dX7_sum_84 : decode cX7_sum 84 = .ok (.iload 6, 2) := by decide +kernel
theorem dX7_sum_86 : decode cX7_sum 86 = .ok (.if_icmp .ge 44, 3) := by decide +kernel
theorem dX7_sum_89 : decode cX7_sum 89 = .ok (.iload_n 1, 1) := by decide +kernel
theorem dX7_sum_90 : decode cX7_sum 90 = .ok (.istore 9, 2) := by decide +kernel
theorem dX7_sum_92 : decode cX7_sum 92 = .ok (.iload 9, 2) := by decide +kernel
theorem dX7_sum_94 : decode cX7_sum 94 = .ok (.iload 5, 2) := by decide +kernel
theorem dX7_sum_96 : decode cX7_sum 96 = .ok (.if_icmp .ge 28, 3) := by decide +kernel
theorem dX7_sum_99 : decode cX7_sum 99 = .ok (.iload 7, 2) := by decide +kernel
theorem dX7_sum_101 : decode cX7_sum 101 = .ok (.aload_n 0, 1) := by decide +kernel
theorem dX7_sum_102 : decode cX7_sum 102 = .ok (.getfield 19, 3) := by decide +kernel
theorem dX7_sum_105 : decode cX7_sum 105 = .ok (.getfield 75, 3) := by decide +kernel
theorem dX7_sum_108 : decode cX7_sum 108 = .ok (.iload 9, 2) := by decide +kernel
theorem dX7_sum_110 : decode cX7_sum 110 = .ok (.iload 8, 2) := by decide +kernel
theorem dX7_sum_112 : decode cX7_sum 112 = .ok (.invokevirtual 124, 3) := by decide +kernel
theorem dX7_sum_115 : decode cX7_sum 115 = .ok (.iadd, 1) := by decide +kernel
theorem dX7_sum_116 : decode cX7_sum 116 = .ok (.istore 7, 2) := by decide +kernel
theorem dX7_sum_118 : decode cX7_sum 118 = .ok (.iinc 9 1, 3) := by decide +kernel
theorem dX7_sum_121 : decode cX7_sum 121 = .ok (.goto (-29), 3) := by decide +kernel
theorem dX7_sum_124 : decode cX7_sum 124 = .ok (.iinc 8 1, 3) := by decide +kernel
theorem dX7_sum_127 : decode cX7_sum 127 = .ok (.goto (-45), 3) := by decide +kernel
theorem dX7_sum_130 : decode cX7_sum 130 = .ok (.iload 7, 2) := by decide +kernel
theorem dX7_sum_132 : decode cX7_sum 132 = .ok (.ireturn, 1) := by decide +kernel
theorem dX7_wettest_0 : decode cX7_wettest 0 = .ok (.aload_n 0, 1) := by decide +kernel
theorem dX7_wettest_1 : decode cX7_wettest 1 = .ok (.invokevirtual 178, 3) := by decide +kernel
theorem dX7_wettest_4 : decode cX7_wettest 4 = .ok (.ifCond .eq 12, 3) := by decide +kernel
theorem dX7_wettest_7 : decode cX7_wettest 7 = .ok (.iload_n 1, 1) := by decide +kernel
theorem dX7_wettest_8 : decode cX7_wettest 8 = .ok (.iconst 0, 1) := by decide +kernel
theorem dX7_wettest_9 : decode cX7_wettest 9 = .ok (.iconst 1, 1) := by decide +kernel
theorem dX7_wettest_10 : decode cX7_wettest 10 = .ok (.invokestatic 93, 3) := by decide +kernel
theorem dX7_wettest_13 : decode cX7_wettest 13 = .ok (.ifCond .ne 6, 3) := by decide +kernel
theorem dX7_wettest_16 : decode cX7_wettest 16 = .ok (.bipush (-2), 2) := by decide +kernel
theorem dX7_wettest_18 : decode cX7_wettest 18 = .ok (.ireturn, 1) := by decide +kernel
theorem dX7_wettest_19 : decode cX7_wettest 19 = .ok (.iconst 0, 1) := by decide +kernel
theorem dX7_wettest_20 : decode cX7_wettest 20 = .ok (.istore_n 2, 1) := by decide +kernel
theorem dX7_wettest_21 : decode cX7_wettest 21 = .ok (.iconst (-1), 1) := by decide +kernel
theorem dX7_wettest_22 : decode cX7_wettest 22 = .ok (.istore_n 3, 1) := by decide +kernel
theorem dX7_wettest_23 : decode cX7_wettest 23 = .ok (.iconst 0, 1) := by decide +kernel
theorem dX7_wettest_24 : decode cX7_wettest 24 = .ok (.istore 4, 2) := by decide +kernel
theorem dX7_wettest_26 : decode cX7_wettest 26 = .ok (.iload 4, 2) := by decide +kernel
theorem dX7_wettest_28 : decode cX7_wettest 28 = .ok (.aload_n 0, 1) := by decide +kernel
theorem dX7_wettest_29 : decode cX7_wettest 29 = .ok (.getfield 19, 3) := by decide +kernel
theorem dX7_wettest_32 : decode cX7_wettest 32 = .ok (.getfield 28, 3) := by decide +kernel
theorem dX7_wettest_35 : decode cX7_wettest 35 = .ok (.getfield 195, 3) := by decide +kernel
theorem dX7_wettest_38 : decode cX7_wettest 38 = .ok (.if_icmp .ge 74, 3) := by decide +kernel
theorem dX7_wettest_41 : decode cX7_wettest 41 = .ok (.iconst 0, 1) := by decide +kernel
theorem dX7_wettest_42 : decode cX7_wettest 42 = .ok (.istore 5, 2) := by decide +kernel
theorem dX7_wettest_44 : decode cX7_wettest 44 = .ok (.iload 5, 2) := by decide +kernel
theorem dX7_wettest_46 : decode cX7_wettest 46 = .ok (.aload_n 0, 1) := by decide +kernel
theorem dX7_wettest_47 : decode cX7_wettest 47 = .ok (.getfield 19, 3) := by decide +kernel
theorem dX7_wettest_50 : decode cX7_wettest 50 = .ok (.getfield 28, 3) := by decide +kernel
theorem dX7_wettest_53 : decode cX7_wettest 53 = .ok (.getfield 187, 3) := by decide +kernel
theorem dX7_wettest_56 : decode cX7_wettest 56 = .ok (.if_icmp .ge 50, 3) := by decide +kernel
theorem dX7_wettest_59 : decode cX7_wettest 59 = .ok (.aload_n 0, 1) := by decide +kernel
theorem dX7_wettest_60 : decode cX7_wettest 60 = .ok (.getfield 19, 3) := by decide +kernel
theorem dX7_wettest_63 : decode cX7_wettest 63 = .ok (.getfield 75, 3) := by decide +kernel
theorem dX7_wettest_66 : decode cX7_wettest 66 = .ok (.iload 5, 2) := by decide +kernel
theorem dX7_wettest_68 : decode cX7_wettest 68 = .ok (.iload 4, 2) := by decide +kernel
theorem dX7_wettest_70 : decode cX7_wettest 70 = .ok (.invokevirtual 124, 3) := by decide +kernel
theorem dX7_wettest_73 : decode cX7_wettest 73 = .ok (.iload_n 2, 1) := by decide +kernel
theorem dX7_wettest_74 : decode cX7_wettest 74 = .ok (.if_icmp .le 26, 3) := by decide +kernel
theorem dX7_wettest_77 : decode cX7_wettest 77 = .ok (.aload_n 0, 1) := by decide +kernel
theorem dX7_wettest_78 : decode cX7_wettest 78 = .ok (.getfield 19, 3) := by decide +kernel
theorem dX7_wettest_81 : decode cX7_wettest 81 = .ok (.getfield 75, 3) := by decide +kernel
theorem dX7_wettest_84 : decode cX7_wettest 84 = .ok (.iload 5, 2) := by decide +kernel
theorem dX7_wettest_86 : decode cX7_wettest 86 = .ok (.iload 4, 2) := by decide +kernel
theorem dX7_wettest_88 : decode cX7_wettest 88 = .ok (.invokevirtual 124, 3) := by decide +kernel
theorem dX7_wettest_91 : decode cX7_wettest 91 = .ok (.istore_n 2, 1) := by decide +kernel
theorem dX7_wettest_92 : decode cX7_wettest 92 = .ok (.iload 5, 2) := by decide +kernel
theorem dX7_wettest_94 : decode cX7_wettest 94 = .ok (.iload 4, 2) := by decide +kernel
theorem dX7_wettest_96 : decode cX7_wettest 96 = .ok (.invokestatic 196, 3) := by decide +kernel
theorem dX7_wettest_99 : decode cX7_wettest 99 = .ok (.istore_n 3, 1) := by decide +kernel
theorem dX7_wettest_100 : decode cX7_wettest 100 = .ok (.iinc 5 1, 3) := by decide +kernel
theorem dX7_wettest_103 : decode cX7_wettest 103 = .ok (.goto (-59), 3) := by decide +kernel
theorem dX7_wettest_106 : decode cX7_wettest 106 = .ok (.iinc 4 1, 3) := by decide +kernel
theorem dX7_wettest_109 : decode cX7_wettest 109 = .ok (.goto (-83), 3) := by decide +kernel
theorem dX7_wettest_112 : decode cX7_wettest 112 = .ok (.iload_n 1, 1) := by decide +kernel
theorem dX7_wettest_113 : decode cX7_wettest 113 = .ok (.ifCond .eq 8, 3) := by decide +kernel
theorem dX7_wettest_116 : decode cX7_wettest 116 = .ok (.iload_n 3, 1) := by decide +kernel
theorem dX7_wettest_117 : decode cX7_wettest 117 = .ok (.iconst (-1), 1) := by decide +kernel
theorem dX7_wettest_118 : decode cX7_wettest 118 = .ok (.if_icmp .ne 7, 3) := by decide +kernel
theorem dX7_wettest_121 : decode cX7_wettest 121 = .ok (.iload_n 3, 1) := by decide +kernel
theorem dX7_wettest_122 : decode cX7_wettest 122 = .ok (.goto 4, 3) := by decide +kernel
theorem dX7_wettest_125 : decode cX7_wettest 125 = .ok (.iload_n 2, 1) := by decide +kernel
theorem dX7_wettest_126 : decode cX7_wettest 126 = .ok (.ireturn, 1) := by decide +kernel
theorem dX7_count_0 : decode cX7_count 0 = .ok (.aload_n 0, 1) := by decide +kernel
theorem dX7_count_1 : decode cX7_count 1 = .ok (.getfield 19, 3) := by decide +kernel
theorem dX7_count_4 : decode cX7_count 4 = .ok (.getfield 28, 3) := by decide +kernel
theorem dX7_count_7 : decode cX7_count 7 = .ok (.astore_n 2, 1) := by decide +kernel
theorem dX7_count_8 : decode cX7_count 8 = .ok (.iload_n 1, 1) := by decide +kernel
theorem dX7_count_9 : decode cX7_count 9 = .ok (.tableswitch 135 0 12 #[67, 72, 77, 82, 87, 92, 97, 105, 110, 115, 120, 125, 130], 67) := by decide +kernel
theorem dX7_count_76 : decode cX7_count 76 = .ok (.aload_n 2, 1) := by decide +kernel
theorem dX7_count_77 : decode cX7_count 77 = .ok (.getfield 187, 3) := by decide +kernel
theorem dX7_count_80 : decode cX7_count 80 = .ok (.ireturn, 1) := by decide +kernel
theorem dX7_count_81 : decode cX7_count 81 = .ok (.aload_n 2, 1) := by decide +kernel
theorem dX7_count_82 : decode cX7_count 82 = .ok (.getfield 195, 3) := by decide +kernel
theorem dX7_count_85 : decode cX7_count 85 = .ok (.ireturn, 1) := by decide +kernel
theorem dX7_count_86 : decode cX7_count 86 = .ok (.aload_n 2, 1) := by decide +kernel
theorem dX7_count_87 : decode cX7_count 87 = .ok (.getfield 199, 3) := by decide +kernel
theorem dX7_count_90 : decode cX7_count 90 = .ok (.ireturn, 1) := by decide +kernel
theorem dX7_count_91 : decode cX7_count 91 = .ok (.aload_n 2, 1) := by decide +kernel
theorem dX7_count_92 : decode cX7_count 92 = .ok (.getfield 202, 3) := by decide +kernel
theorem dX7_count_95 : decode cX7_count 95 = .ok (.ireturn, 1) := by decide +kernel
theorem dX7_count_96 : decode cX7_count 96 = .ok (.aload_n 2, 1) := by decide +kernel
theorem dX7_count_97 : decode cX7_count 97 = .ok (.getfield 205, 3) := by decide +kernel
theorem dX7_count_100 : decode cX7_count 100 = .ok (.ireturn, 1) := by decide +kernel
theorem dX7_count_101 : decode cX7_count 101 = .ok (.aload_n 2, 1) := by decide +kernel
theorem dX7_count_102 : decode cX7_count 102 = .ok (.getfield 84, 3) := by decide +kernel
theorem dX7_count_105 : decode cX7_count 105 = .ok (.ireturn, 1) := by decide +kernel
theorem dX7_count_106 : decode cX7_count 106 = .ok (.aload_n 0, 1) := by decide +kernel
theorem dX7_count_107 : decode cX7_count 107 = .ok (.getfield 10, 3) := by decide +kernel
theorem dX7_count_110 : decode cX7_count 110 = .ok (.getfield 57, 3) := by decide +kernel
theorem dX7_count_113 : decode cX7_count 113 = .ok (.ireturn, 1) := by decide +kernel
theorem dX7_count_114 : decode cX7_count 114 = .ok (.aload_n 2, 1) := by decide +kernel
theorem dX7_count_115 : decode cX7_count 115 = .ok (.getfield 208, 3) := by decide +kernel
theorem dX7_count_118 : decode cX7_count 118 = .ok (.ireturn, 1) := by decide +kernel
theorem dX7_count_119 : decode cX7_count 119 = .ok (.aload_n 2, 1) := by decide +kernel
theorem dX7_count_120 : decode cX7_count 120 = .ok (.getfield 211, 3) := by decide +kernel
theorem dX7_count_123 : decode cX7_count 123 = .ok (.ireturn, 1) := by decide +kernel
theorem dX7_count_124 : decode cX7_count 124 = .ok (.aload_n 2, 1) := by decide +kernel
theorem dX7_count_125 : decode cX7_count 125 = .ok (.getfield 212, 3) := by decide +kernel
theorem dX7_count_128 : decode cX7_count 128 = .ok (.ireturn, 1) := by decide +kernel
theorem dX7_count_129 : decode cX7_count 129 = .ok (.aload_n 2, 1) := by decide +kernel
theorem dX7_count_130 : decode cX7_count 130 = .ok (.getfield 215, 3) := by decide +kernel
theorem dX7_count_133 : decode cX7_count 133 = .ok (.ireturn, 1) := by decide +kernel
theorem dX7_count_134 : decode cX7_count 134 = .ok (.aload_n 2, 1) := by decide +kernel
theorem dX7_count_135 : decode cX7_count 135 = .ok (.getfield 218, 3) := by decide +kernel
theorem dX7_count_138 : decode cX7_count 138 = .ok (.ireturn, 1) := by decide +kernel
theorem dX7_count_139 : decode cX7_count 139 = .ok (.aload_n 0, 1) := by decide +kernel
theorem dX7_count_140 : decode cX7_count 140 = .ok (.invokevirtual 221, 3) := by decide +kernel
theorem dX7_count_143 : decode cX7_count 143 = .ok (.ireturn, 1) := by decide +kernel
theorem dX7_count_144 : decode cX7_count 144 = .ok (.iconst (-1), 1) := by decide +kernel
theorem dX7_count_145 : decode cX7_count 145 = .ok (.ireturn, 1) := by decide +kernel
theorem dX7_land_0 : decode cX7_land 0 = .ok (.aload_n 0, 1) := by decide +kernel
theorem dX7_land_1 : decode cX7_land 1 = .ok (.iload_n 1, 1) := by decide +kernel
theorem dX7_land_2 : decode cX7_land 2 = .ok (.iload_n 2, 1) := by decide +kernel
theorem dX7_land_3 : decode cX7_land 3 = .ok (.iload_n 3, 1) := by decide +kernel
theorem dX7_land_4 : decode cX7_land 4 = .ok (.invokevirtual 224, 3) := by decide +kernel
theorem dX7_land_7 : decode cX7_land 7 = .ok (.ifCond .ne 6, 3) := by decide +kernel
theorem dX7_land_10 : decode cX7_land 10 = .ok (.bipush (-2), 2) := by decide +kernel
theorem dX7_land_12 : decode cX7_land 12 = .ok (.ireturn, 1) := by decide +kernel
theorem dX7_land_13 : decode cX7_land 13 = .ok (.aload_n 0, 1) := by decide +kernel
theorem dX7_land_14 : decode cX7_land 14 = .ok (.getfield 19, 3) := by decide +kernel
theorem dX7_land_17 : decode cX7_land 17 = .ok (.getfield 28, 3) := by decide +kernel
theorem dX7_land_20 : decode cX7_land 20 = .ok (.iload_n 1, 1) := by decide +kernel
theorem dX7_land_21 : decode cX7_land 21 = .ok (.iload_n 2, 1) := by decide +kernel
theorem dX7_land_22 : decode cX7_land 22 = .ok (.invokestatic 227, 3) := by decide +kernel
theorem dX7_land_25 : decode cX7_land 25 = .ok (.iload_n 3, 1) := by decide +kernel
theorem dX7_land_26 : decode cX7_land 26 = .ok (.invokevirtual 230, 3) := by decide +kernel
theorem dX7_land_29 : decode cX7_land 29 = .ok (.bipush 100, 2) := by decide +kernel
theorem dX7_land_31 : decode cX7_land 31 = .ok (.idiv, 1) := by decide +kernel
theorem dX7_land_32 : decode cX7_land 32 = .ok (.istore 4, 2) := by decide +kernel
theorem dX7_land_34 : decode cX7_land 34 = .ok (.aload_n 0, 1) := by decide +kernel
theorem dX7_land_35 : decode cX7_land 35 = .ok (.getfield 19, 3) := by decide +kernel
theorem dX7_land_38 : decode cX7_land 38 = .ok (.getfield 28, 3) := by decide +kernel
theorem dX7_land_41 : decode cX7_land 41 = .ok (.getfield 234, 3) := by decide +kernel
theorem dX7_land_44 : decode cX7_land 44 = .ok (.iload 4, 2) := by decide +kernel
theorem dX7_land_46 : decode cX7_land 46 = .ok (.getstatic 237, 3) := by decide +kernel
theorem dX7_land_49 : decode cX7_land 49 = .ok (.iload_n 3, 1) := by decide +kernel
theorem dX7_land_50 : decode cX7_land 50 = .ok (.bipush 10, 2) := by decide +kernel
theorem dX7_land_52 : decode cX7_land 52 = .ok (.idiv, 1) := by decide +kernel
theorem dX7_land_53 : decode cX7_land 53 = .ok (.iaload, 1) := by decide +kernel
theorem dX7_land_54 : decode cX7_land 54 = .ok (.imul, 1) := by decide +kernel
theorem dX7_land_55 : decode cX7_land 55 = .ok (.iadd, 1) := by decide +kernel
theorem dX7_land_56 : decode cX7_land 56 = .ok (.istore 5, 2) := by decide +kernel
theorem dX7_land_58 : decode cX7_land 58 = .ok (.aload_n 0, 1) := by decide +kernel
theorem dX7_land_59 : decode cX7_land 59 = .ok (.getfield 19, 3) := by decide +kernel
theorem dX7_land_62 : decode cX7_land 62 = .ok (.getfield 28, 3) := by decide +kernel
theorem dX7_land_65 : decode cX7_land 65 = .ok (.getfield 240, 3) := by decide +kernel
theorem dX7_land_68 : decode cX7_land 68 = .ok (.iload 4, 2) := by decide +kernel
theorem dX7_land_70 : decode cX7_land 70 = .ok (.getstatic 243, 3) := by decide +kernel
theorem dX7_land_73 : decode cX7_land 73 = .ok (.iload_n 3, 1) := by decide +kernel
theorem dX7_land_74 : decode cX7_land 74 = .ok (.bipush 10, 2) := by decide +kernel
theorem dX7_land_76 : decode cX7_land 76 = .ok (.idiv, 1) := by decide +kernel
theorem dX7_land_77 : decode cX7_land 77 = .ok (.iaload, 1) := by decide +kernel
theorem dX7_land_78 : decode cX7_land 78 = .ok (.imul, 1) := by decide +kernel
theorem dX7_land_79 : decode cX7_land 79 = .ok (.iadd, 1) := by decide +kernel
theorem dX7_land_80 : decode cX7_land 80 = .ok (.istore 6, 2) := by decide +kernel
theorem dX7_land_82 : decode cX7_land 82 = .ok (.aload_n 0, 1) := by decide +kernel
theorem dX7_land_83 : decode cX7_land 83 = .ok (.getfield 19, 3) := by decide +kernel
theorem dX7_land_86 : decode cX7_land 86 = .ok (.getfield 28, 3) := by decide +kernel
theorem dX7_land_89 : decode cX7_land 89 = .ok (.iload 5, 2) := by decide +kernel
theorem dX7_land_91 : decode cX7_land 91 = .ok (.iload 6, 2) := by decide +kernel
theorem dX7_land_93 : decode cX7_land 93 = .ok (.invokevirtual 120, 3) := by decide +kernel
theorem dX7_land_96 : decode cX7_land 96 = .ok (.ifCond .eq 13, 3) := by decide +kernel
theorem dX7_land_99 : decode cX7_land 99 = .ok (.iload 5, 2) := by decide +kernel
theorem dX7_land_101 : decode cX7_land 101 = .ok (.iload 6, 2) := by decide +kernel
theorem dX7_land_103 : decode cX7_land 103 = .ok (.invokestatic 196, 3) := by decide +kernel
theorem dX7_land_106 : decode cX7_land 106 = .ok (.goto 4, 3) := by decide +kernel
theorem dX7_land_109 : decode cX7_land 109 = .ok (.iconst (-1), 1) := by decide +kernel
theorem dX7_land_110 : decode cX7_land 110 = .ok (.ireturn, 1) := by decide +kernel
theorem dX7_drift_0 : decode cX7_drift 0 = .ok (.aload_n 0, 1) := by decide +kernel
theorem dX7_drift_1 : decode cX7_drift 1 = .ok (.iload_n 1, 1) := by decide +kernel
theorem dX7_drift_2 : decode cX7_drift 2 = .ok (.iload_n 2, 1) := by decide +kernel
theorem dX7_drift_3 : decode cX7_drift 3 = .ok (.iload_n 3, 1) := by decide +kernel
theorem dX7_drift_4 : decode cX7_drift 4 = .ok (.invokevirtual 224, 3) := by decide +kernel
theorem dX7_drift_7 : decode cX7_drift 7 = .ok (.ifCond .eq 22, 3) := by decide +kernel
theorem dX7_drift_10 : decode cX7_drift 10 = .ok (.aload_n 0, 1) := by decide +kernel
theorem dX7_drift_11 : decode cX7_drift 11 = .ok (.getfield 19, 3) := by decide +kernel
theorem dX7_drift_14 : decode cX7_drift 14 = .ok (.getfield 28, 3) := by decide +kernel
theorem dX7_drift_17 : decode cX7_drift 17 = .ok (.iload_n 1, 1) := by decide +kernel
theorem dX7_drift_18 : decode cX7_drift 18 = .ok (.iload_n 2, 1) := by decide +kernel
theorem dX7_drift_19 : decode cX7_drift 19 = .ok (.invokestatic 227, 3) := by decide +kernel
theorem dX7_drift_22 : decode cX7_drift 22 = .ok (.iload_n 3, 1) := by decide +kernel
theorem dX7_drift_23 : decode cX7_drift 23 = .ok (.invokevirtual 230, 3) := by decide +kernel
theorem dX7_drift_26 : decode cX7_drift 26 = .ok (.goto 5, 3) := by decide +kernel
theorem dX7_drift_29 : decode cX7_drift 29 = .ok (.bipush (-2), 2) := by decide +kernel
theorem dX7_drift_31 : decode cX7_drift 31 = .ok (.ireturn, 1) := by decide +kernel
theorem dX7_stray_0 : decode cX7_stray 0 = .ok (.aload_n 0, 1) := by decide +kernel
theorem dX7_stray_1 : decode cX7_stray 1 = .ok (.invokevirtual 178, 3) := by decide +kernel
theorem dX7_stray_4 : decode cX7_stray 4 = .ok (.ifCond .eq 20, 3) := by decide +kernel
theorem dX7_stray_7 : decode cX7_stray 7 = .ok (.iload_n 1, 1) := by decide +kernel
theorem dX7_stray_8 : decode cX7_stray 8 = .ok (.iconst 0, 1) := by decide +kernel
theorem dX7_stray_9 : decode cX7_stray 9 = .ok (.bipush 60, 2) := by decide +kernel
theorem dX7_stray_11 : decode cX7_stray 11 = .ok (.invokestatic 93, 3) := by decide +kernel
theorem dX7_stray_14 : decode cX7_stray 14 = .ok (.ifCond .eq 10, 3) := by decide +kernel
theorem dX7_stray_17 : decode cX7_stray 17 = .ok (.iload_n 2, 1) := by decide +kernel
theorem dX7_stray_18 : decode cX7_stray 18 = .ok (.invokestatic 246, 3) := by decide +kernel
theorem dX7_stray_21 : decode cX7_stray 21 = .ok (.ifCond .ne 6, 3) := by decide +kernel
theorem dX7_stray_24 : decode cX7_stray 24 = .ok (.bipush (-2), 2) := by decide +kernel
theorem dX7_stray_26 : decode cX7_stray 26 = .ok (.ireturn, 1) := by decide +kernel
theorem dX7_stray_27 : decode cX7_stray 27 = .ok (.aload_n 0, 1) := by decide +kernel
theorem dX7_stray_28 : decode cX7_stray 28 = .ok (.getfield 19, 3) := by decide +kernel
theorem dX7_stray_31 : decode cX7_stray 31 = .ok (.getfield 28, 3) := by decide +kernel
theorem dX7_stray_34 : decode cX7_stray 34 = .ok (.iload_n 1, 1) := by decide +kernel
theorem dX7_stray_35 : decode cX7_stray 35 = .ok (.iload_n 2, 1) := by decide +kernel
theorem dX7_stray_36 : decode cX7_stray 36 = .ok (.invokevirtual 249, 3) := by decide +kernel
theorem dX7_stray_39 : decode cX7_stray 39 = .ok (.ireturn, 1) := by decide +kernel
theorem dX7_low_0 : decode cX7_low 0 = .ok (.aload_n 0, 1) := by decide +kernel
theorem dX7_low_1 : decode cX7_low 1 = .ok (.invokevirtual 178, 3) := by decide +kernel
theorem dX7_low_4 : decode cX7_low 4 = .ok (.ifCond .eq 20, 3) := by decide +kernel
theorem dX7_low_7 : decode cX7_low 7 = .ok (.iload_n 1, 1) := by decide +kernel
theorem dX7_low_8 : decode cX7_low 8 = .ok (.invokestatic 246, 3) := by decide +kernel
theorem dX7_low_11 : decode cX7_low 11 = .ok (.ifCond .eq 13, 3) := by decide +kernel
theorem dX7_low_14 : decode cX7_low 14 = .ok (.iload_n 2, 1) := by decide +kernel
theorem dX7_low_15 : decode cX7_low 15 = .ok (.iconst 0, 1) := by decide +kernel
theorem dX7_low_16 : decode cX7_low 16 = .ok (.bipush 99, 2) := by decide +kernel
theorem dX7_low_18 : decode cX7_low 18 = .ok (.invokestatic 93, 3) := by decide +kernel
theorem dX7_low_21 : decode cX7_low 21 = .ok (.ifCond .ne 6, 3) := by decide +kernel
theorem dX7_low_24 : decode cX7_low 24 = .ok (.bipush (-2), 2) := by decide +kernel
theorem dX7_low_26 : decode cX7_low 26 = .ok (.ireturn, 1) := by decide +kernel
theorem dX7_low_27 : decode cX7_low 27 = .ok (.iconst 1, 1) := by decide +kernel
theorem dX7_low_28 : decode cX7_low 28 = .ok (.istore_n 3, 1) := by decide +kernel
theorem dX7_low_29 : decode cX7_low 29 = .ok (.iload_n 3, 1) := by decide +kernel
theorem dX7_low_30 : decode cX7_low 30 = .ok (.bipush 60, 2) := by decide +kernel
theorem dX7_low_32 : decode cX7_low 32 = .ok (.if_icmp .gt 29, 3) := by decide +kernel
theorem dX7_low_35 : decode cX7_low 35 = .ok (.aload_n 0, 1) := by decide +kernel
theorem dX7_low_36 : decode cX7_low 36 = .ok (.getfield 19, 3) := by decide +kernel
theorem dX7_low_39 : decode cX7_low 39 = .ok (.getfield 28, 3) := by decide +kernel
theorem dX7_low_42 : decode cX7_low 42 = .ok (.iload_n 3, 1) := by decide +kernel
theorem dX7_low_43 : decode cX7_low 43 = .ok (.iload_n 1, 1) := by decide +kernel
theorem dX7_low_44 : decode cX7_low 44 = .ok (.invokevirtual 249, 3) := by decide +kernel
theorem dX7_low_47 : decode cX7_low 47 = .ok (.iload_n 2, 1) := by decide +kernel
theorem dX7_low_48 : decode cX7_low 48 = .ok (.if_icmp .le 7, 3) := by decide +kernel
theorem dX7_low_51 : decode cX7_low 51 = .ok (.iload_n 3, 1) := by decide +kernel
theorem dX7_low_52 : decode cX7_low 52 = .ok (.iconst 1, 1) := by decide +kernel
theorem dX7_low_53 : decode cX7_low 53 = .ok (.isub, 1) := by decide +kernel
theorem dX7_low_54 : decode cX7_low 54 = .ok (.ireturn, 1) := by decide +kernel
theorem dX7_low_55 : decode cX7_low 55 = .ok (.iinc 3 1, 3) := by decide +kernel
theorem dX7_low_58 : decode cX7_low 58 = .ok (.goto (-29), 3) := by decide +kernel
theorem dX7_low_61 : decode cX7_low 61 = .ok (.bipush 60, 2) := by decide +kernel
theorem dX7_low_63 : decode cX7_low 63 = .ok (.ireturn, 1) := by decide +kernel
theorem dX7_bound_0 : decode cX7_bound 0 = .ok (.aload_n 0, 1) := by decide +kernel
theorem dX7_bound_1 : decode cX7_bound 1 = .ok (.iload_n 1, 1) := by decide +kernel
theorem dX7_bound_2 : decode cX7_bound 2 = .ok (.invokevirtual 127, 3) := by decide +kernel
theorem dX7_bound_5 : decode cX7_bound 5 = .ok (.ifCond .eq 10, 3) := by decide +kernel
theorem dX7_bound_8 : decode cX7_bound 8 = .ok (.iload_n 2, 1) := by decide +kernel
theorem dX7_bound_9 : decode cX7_bound 9 = .ok (.invokestatic 246, 3) := by decide +kernel
theorem dX7_bound_12 : decode cX7_bound 12 = .ok (.ifCond .ne 6, 3) := by decide +kernel
theorem dX7_bound_15 : decode cX7_bound 15 = .ok (.bipush (-2), 2) := by decide +kernel
theorem dX7_bound_17 : decode cX7_bound 17 = .ok (.ireturn, 1) := by decide +kernel
theorem dX7_bound_18 : decode cX7_bound 18 = .ok (.aload_n 0, 1) := by decide +kernel
theorem dX7_bound_19 : decode cX7_bound 19 = .ok (.iload_n 1, 1) := by decide +kernel
theorem dX7_bound_20 : decode cX7_bound 20 = .ok (.iload_n 2, 1) := by decide +kernel
theorem dX7_bound_21 : decode cX7_bound 21 = .ok (.invokevirtual 252, 3) := by decide +kernel
theorem dX7_bound_24 : decode cX7_bound 24 = .ok (.iconst 1, 1) := by decide +kernel
theorem dX7_bound_25 : decode cX7_bound 25 = .ok (.isub, 1) := by decide +kernel
theorem dX7_bound_26 : decode cX7_bound 26 = .ok (.ireturn, 1) := by decide +kernel
theorem dX7_reach_0 : decode cX7_reach 0 = .ok (.aload_n 0, 1) := by decide +kernel
theorem dX7_reach_1 : decode cX7_reach 1 = .ok (.iload_n 1, 1) := by decide +kernel
theorem dX7_reach_2 : decode cX7_reach 2 = .ok (.invokevirtual 127, 3) := by decide +kernel
theorem dX7_reach_5 : decode cX7_reach 5 = .ok (.ifCond .eq 10, 3) := by decide +kernel
theorem dX7_reach_8 : decode cX7_reach 8 = .ok (.iload_n 2, 1) := by decide +kernel
theorem dX7_reach_9 : decode cX7_reach 9 = .ok (.invokestatic 255, 3) := by decide +kernel
theorem dX7_reach_12 : decode cX7_reach 12 = .ok (.ifCond .ne 6, 3) := by decide +kernel
theorem dX7_reach_15 : decode cX7_reach 15 = .ok (.bipush (-2), 2) := by decide +kernel
theorem dX7_reach_17 : decode cX7_reach 17 = .ok (.ireturn, 1) := by decide +kernel
theorem dX7_reach_18 : decode cX7_reach 18 = .ok (.iconst 0, 1) := by decide +kernel
theorem dX7_reach_19 : decode cX7_reach 19 = .ok (.istore_n 3, 1) := by decide +kernel
theorem dX7_reach_20 : decode cX7_reach 20 = .ok (.iconst 0, 1) := by decide +kernel
theorem dX7_reach_21 : decode cX7_reach 21 = .ok (.istore 4, 2) := by decide +kernel
theorem dX7_reach_23 : decode cX7_reach 23 = .ok (.iload 4, 2) := by decide +kernel
theorem dX7_reach_25 : decode cX7_reach 25 = .ok (.bipush 9, 2) := by decide +kernel
theorem dX7_reach_27 : decode cX7_reach 27 = .ok (.if_icmp .gt 33, 3) := by decide +kernel
theorem dX7_reach_30 : decode cX7_reach 30 = .ok (.aload_n 0, 1) := by decide +kernel
theorem dX7_reach_31 : decode cX7_reach 31 = .ok (.iload_n 1, 1) := by decide +kernel
theorem dX7_reach_32 : decode cX7_reach 32 = .ok (.bipush 10, 2) := by decide +kernel
theorem dX7_reach_34 : decode cX7_reach 34 = .ok (.iload_n 2, 1) := by decide +kernel
theorem dX7_reach_35 : decode cX7_reach 35 = .ok (.imul, 1) := by decide +kernel
theorem dX7_reach_36 : decode cX7_reach 36 = .ok (.iload 4, 2) := by decide +kernel
theorem dX7_reach_38 : decode cX7_reach 38 = .ok (.iadd, 1) := by decide +kernel
theorem dX7_reach_39 : decode cX7_reach 39 = .ok (.invokevirtual 252, 3) := by decide +kernel
theorem dX7_reach_42 : decode cX7_reach 42 = .ok (.bipush 60, 2) := by decide +kernel
theorem dX7_reach_44 : decode cX7_reach 44 = .ok (.if_icmp .gt 10, 3) := by decide +kernel
theorem dX7_reach_47 : decode cX7_reach 47 = .ok (.iload_n 3, 1) := by decide +kernel
theorem dX7_reach_48 : decode cX7_reach 48 = .ok (.iconst 1, 1) := by decide +kernel
theorem dX7_reach_49 : decode cX7_reach 49 = .ok (.iload 4, 2) := by decide +kernel
theorem dX7_reach_51 : decode cX7_reach 51 = .ok (.ishl, 1) := by decide +kernel
theorem dX7_reach_52 : decode cX7_reach 52 = .ok (.ior, 1) := by decide +kernel
theorem dX7_reach_53 : decode cX7_reach 53 = .ok (.istore_n 3, 1) := by decide +kernel
theorem dX7_reach_54 : decode cX7_reach 54 = .ok (.iinc 4 1, 3) := by decide +kernel
theorem dX7_reach_57 : decode cX7_reach 57 = .ok (.goto (-34), 3) := by decide +kernel
theorem dX7_reach_60 : decode cX7_reach 60 = .ok (.iload_n 3, 1) := by decide +kernel
theorem dX7_reach_61 : decode cX7_reach 61 = .ok (.ireturn, 1) := by decide +kernel
theorem dX7_nozzle_0 : decode cX7_nozzle 0 = .ok (.aload_n 0, 1) := by decide +kernel
theorem dX7_nozzle_1 : decode cX7_nozzle 1 = .ok (.iload_n 1, 1) := by decide +kernel
theorem dX7_nozzle_2 : decode cX7_nozzle 2 = .ok (.invokevirtual 258, 3) := by decide +kernel
theorem dX7_nozzle_5 : decode cX7_nozzle 5 = .ok (.ifCond .eq 13, 3) := by decide +kernel
theorem dX7_nozzle_8 : decode cX7_nozzle 8 = .ok (.iload_n 2, 1) := by decide +kernel
theorem dX7_nozzle_9 : decode cX7_nozzle 9 = .ok (.iconst 0, 1) := by decide +kernel
theorem dX7_nozzle_10 : decode cX7_nozzle 10 = .ok (.bipush 99, 2) := by decide +kernel
theorem dX7_nozzle_12 : decode cX7_nozzle 12 = .ok (.invokestatic 93, 3) := by decide +kernel
theorem dX7_nozzle_15 : decode cX7_nozzle 15 = .ok (.ifCond .ne 6, 3) := by decide +kernel
theorem dX7_nozzle_18 : decode cX7_nozzle 18 = .ok (.bipush (-2), 2) := by decide +kernel
theorem dX7_nozzle_20 : decode cX7_nozzle 20 = .ok (.ireturn, 1) := by decide +kernel
theorem dX7_nozzle_21 : decode cX7_nozzle 21 = .ok (.aload_n 0, 1) := by decide +kernel
theorem dX7_nozzle_22 : decode cX7_nozzle 22 = .ok (.getfield 19, 3) := by decide +kernel
theorem dX7_nozzle_25 : decode cX7_nozzle 25 = .ok (.getfield 28, 3) := by decide +kernel
theorem dX7_nozzle_28 : decode cX7_nozzle 28 = .ok (.getfield 261, 3) := by decide +kernel
theorem dX7_nozzle_31 : decode cX7_nozzle 31 = .ok (.iload_n 1, 1) := by decide +kernel
theorem dX7_nozzle_32 : decode cX7_nozzle 32 = .ok (.iaload, 1) := by decide +kernel
theorem dX7_nozzle_33 : decode cX7_nozzle 33 = .ok (.istore_n 3, 1) := by decide +kernel
theorem dX7_nozzle_34 : decode cX7_nozzle 34 = .ok (.aload_n 0, 1) := by decide +kernel
theorem dX7_nozzle_35 : decode cX7_nozzle 35 = .ok (.getfield 19, 3) := by decide +kernel
theorem dX7_nozzle_38 : decode cX7_nozzle 38 = .ok (.getfield 28, 3) := by decide +kernel
theorem dX7_nozzle_41 : decode cX7_nozzle 41 = .ok (.getfield 261, 3) := by decide +kernel
theorem dX7_nozzle_44 : decode cX7_nozzle 44 = .ok (.iload_n 1, 1) := by decide +kernel
theorem dX7_nozzle_45 : decode cX7_nozzle 45 = .ok (.iload_n 2, 1) := by decide +kernel
theorem dX7_nozzle_46 : decode cX7_nozzle 46 = .ok (.iastore, 1) := by decide +kernel
theorem dX7_nozzle_47 : decode cX7_nozzle 47 = .ok (.iload_n 3, 1) := by decide +kernel
theorem dX7_nozzle_48 : decode cX7_nozzle 48 = .ok (.ireturn, 1) := by decide +kernel
theorem dX7_fine_0 : decode cX7_fine 0 = .ok (.aload_n 0, 1) := by decide +kernel
theorem dX7_fine_1 : decode cX7_fine 1 = .ok (.iload_n 1, 1) := by decide +kernel
theorem dX7_fine_2 : decode cX7_fine 2 = .ok (.iload_n 2, 1) := by decide +kernel
theorem dX7_fine_3 : decode cX7_fine 3 = .ok (.iload_n 3, 1) := by decide +kernel
theorem dX7_fine_4 : decode cX7_fine 4 = .ok (.invokevirtual 224, 3) := by decide +kernel
theorem dX7_fine_7 : decode cX7_fine 7 = .ok (.ifCond .ne 6, 3) := by decide +kernel
theorem dX7_fine_10 : decode cX7_fine 10 = .ok (.bipush (-2), 2) := by decide +kernel
theorem dX7_fine_12 : decode cX7_fine 12 = .ok (.ireturn, 1) := by decide +kernel
theorem dX7_fine_13 : decode cX7_fine 13 = .ok (.iload_n 3, 1) := by decide +kernel
theorem dX7_fine_14 : decode cX7_fine 14 = .ok (.bipush 10, 2) := by decide +kernel
theorem dX7_fine_16 : decode cX7_fine 16 = .ok (.irem, 1) := by decide +kernel
theorem dX7_fine_17 : decode cX7_fine 17 = .ok (.iload_n 2, 1) := by decide +kernel
theorem dX7_fine_18 : decode cX7_fine 18 = .ok (.invokestatic 227, 3) := by decide +kernel
theorem dX7_fine_21 : decode cX7_fine 21 = .ok (.imul, 1) := by decide +kernel
theorem dX7_fine_22 : decode cX7_fine 22 = .ok (.istore 4, 2) := by decide +kernel
theorem dX7_fine_24 : decode cX7_fine 24 = .ok (.bipush 99, 2) := by decide +kernel
theorem dX7_fine_26 : decode cX7_fine 26 = .ok (.istore 5, 2) := by decide +kernel
theorem dX7_fine_28 : decode cX7_fine 28 = .ok (.iload 5, 2) := by decide +kernel
theorem dX7_fine_30 : decode cX7_fine 30 = .ok (.ifCond .lt 33, 3) := by decide +kernel
theorem dX7_fine_33 : decode cX7_fine 33 = .ok (.iload 5, 2) := by decide +kernel
theorem dX7_fine_35 : decode cX7_fine 35 = .ok (.iload 4, 2) := by decide +kernel
theorem dX7_fine_37 : decode cX7_fine 37 = .ok (.imul, 1) := by decide +kernel
theorem dX7_fine_38 : decode cX7_fine 38 = .ok (.bipush 100, 2) := by decide +kernel
theorem dX7_fine_40 : decode cX7_fine 40 = .ok (.idiv, 1) := by decide +kernel
theorem dX7_fine_41 : decode cX7_fine 41 = .ok (.aload_n 0, 1) := by decide +kernel
theorem dX7_fine_42 : decode cX7_fine 42 = .ok (.getfield 19, 3) := by decide +kernel
theorem dX7_fine_45 : decode cX7_fine 45 = .ok (.getfield 28, 3) := by decide +kernel
theorem dX7_fine_48 : decode cX7_fine 48 = .ok (.getfield 208, 3) := by decide +kernel
theorem dX7_fine_51 : decode cX7_fine 51 = .ok (.if_icmp .gt 6, 3) := by decide +kernel
theorem dX7_fine_54 : decode cX7_fine 54 = .ok (.iload 5, 2) := by decide +kernel
theorem dX7_fine_56 : decode cX7_fine 56 = .ok (.ireturn, 1) := by decide +kernel
theorem dX7_fine_57 : decode cX7_fine 57 = .ok (.iinc 5 (-1), 3) := by decide +kernel
theorem dX7_fine_60 : decode cX7_fine 60 = .ok (.goto (-32), 3) := by decide +kernel
theorem dX7_fine_63 : decode cX7_fine 63 = .ok (.iconst (-1), 1) := by decide +kernel
theorem dX7_fine_64 : decode cX7_fine 64 = .ok (.ireturn, 1) := by decide +kernel
theorem dX7_marks_0 : decode cX7_marks 0 = .ok (.aload_n 0, 1) := by decide +kernel
theorem dX7_marks_1 : decode cX7_marks 1 = .ok (.getfield 19, 3) := by decide +kernel
theorem dX7_marks_4 : decode cX7_marks 4 = .ok (.getfield 28, 3) := by decide +kernel
theorem dX7_marks_7 : decode cX7_marks 7 = .ok (.iload_n 1, 1) := by decide +kernel
theorem dX7_marks_8 : decode cX7_marks 8 = .ok (.iload_n 2, 1) := by decide +kernel
theorem dX7_marks_9 : decode cX7_marks 9 = .ok (.invokevirtual 120, 3) := by decide +kernel
theorem dX7_marks_12 : decode cX7_marks 12 = .ok (.ifCond .eq 13, 3) := by decide +kernel
theorem dX7_marks_15 : decode cX7_marks 15 = .ok (.iload_n 3, 1) := by decide +kernel
theorem dX7_marks_16 : decode cX7_marks 16 = .ok (.iconst 1, 1) := by decide +kernel
theorem dX7_marks_17 : decode cX7_marks 17 = .ok (.bipush 60, 2) := by decide +kernel
theorem dX7_marks_19 : decode cX7_marks 19 = .ok (.invokestatic 93, 3) := by decide +kernel
theorem dX7_marks_22 : decode cX7_marks 22 = .ok (.ifCond .ne 6, 3) := by decide +kernel
theorem dX7_marks_25 : decode cX7_marks 25 = .ok (.bipush (-2), 2) := by decide +kernel
theorem dX7_marks_27 : decode cX7_marks 27 = .ok (.ireturn, 1) := by decide +kernel
theorem dX7_marks_28 : decode cX7_marks 28 = .ok (.iload_n 1, 1) := by decide +kernel
theorem dX7_marks_29 : decode cX7_marks 29 = .ok (.iload_n 2, 1) := by decide +kernel
theorem dX7_marks_30 : decode cX7_marks 30 = .ok (.invokestatic 196, 3) := by decide +kernel
theorem dX7_marks_33 : decode cX7_marks 33 = .ok (.istore 4, 2) := by decide +kernel
theorem dX7_marks_35 : decode cX7_marks 35 = .ok (.iconst 0, 1) := by decide +kernel
theorem dX7_marks_36 : decode cX7_marks 36 = .ok (.istore 5, 2) := by decide +kernel
theorem dX7_marks_38 : decode cX7_marks 38 = .ok (.iconst 0, 1) := by decide +kernel
theorem dX7_marks_39 : decode cX7_marks 39 = .ok (.istore 6, 2) := by decide +kernel
theorem dX7_marks_41 : decode cX7_marks 41 = .ok (.iload 6, 2) := by decide +kernel
theorem dX7_marks_43 : decode cX7_marks 43 = .ok (.bipush 40, 2) := by decide +kernel
theorem dX7_marks_45 : decode cX7_marks 45 = .ok (.if_icmp .ge 35, 3) := by decide +kernel
theorem dX7_marks_48 : decode cX7_marks 48 = .ok (.iload 5, 2) := by decide +kernel
theorem dX7_marks_50 : decode cX7_marks 50 = .ok (.aload_n 0, 1) := by decide +kernel
theorem dX7_marks_51 : decode cX7_marks 51 = .ok (.getfield 19, 3) := by decide +kernel
theorem dX7_marks_54 : decode cX7_marks 54 = .ok (.getfield 28, 3) := by decide +kernel
theorem dX7_marks_57 : decode cX7_marks 57 = .ok (.iload 4, 2) := by decide +kernel
theorem dX7_marks_59 : decode cX7_marks 59 = .ok (.iload_n 3, 1) := by decide +kernel
theorem dX7_marks_60 : decode cX7_marks 60 = .ok (.invokestatic 227, 3) := by decide +kernel
theorem dX7_marks_63 : decode cX7_marks 63 = .ok (.iload 6, 2) := by decide +kernel
theorem dX7_marks_65 : decode cX7_marks 65 = .ok (.invokevirtual 264, 3) := by decide +kernel
theorem dX7_marks_68 : decode cX7_marks 68 = .ok (.invokestatic 267, 3) := by decide +kernel
theorem dX7_marks_71 : decode cX7_marks 71 = .ok (.iadd, 1) := by decide +kernel
theorem dX7_marks_72 : decode cX7_marks 72 = .ok (.istore 5, 2) := by decide +kernel
theorem dX7_marks_74 : decode cX7_marks 74 = .ok (.iinc 6 1, 3) := by decide +kernel
theorem dX7_marks_77 : decode cX7_marks 77 = .ok (.goto (-36), 3) := by decide +kernel
theorem dX7_marks_80 : decode cX7_marks 80 = .ok (.iload 5, 2) := by decide +kernel
theorem dX7_marks_82 : decode cX7_marks 82 = .ok (.ireturn, 1) := by decide +kernel
theorem dX7_span_0 : decode cX7_span 0 = .ok (.aload_n 0, 1) := by decide +kernel
theorem dX7_span_1 : decode cX7_span 1 = .ok (.getfield 19, 3) := by decide +kernel
theorem dX7_span_4 : decode cX7_span 4 = .ok (.getfield 28, 3) := by decide +kernel
theorem dX7_span_7 : decode cX7_span 7 = .ok (.iload_n 1, 1) := by decide +kernel
theorem dX7_span_8 : decode cX7_span 8 = .ok (.iload_n 2, 1) := by decide +kernel
theorem dX7_span_9 : decode cX7_span 9 = .ok (.invokevirtual 120, 3) := by decide +kernel
theorem dX7_span_12 : decode cX7_span 12 = .ok (.ifCond .eq 23, 3) := by decide +kernel
theorem dX7_span_15 : decode cX7_span 15 = .ok (.iload_n 3, 1) := by decide +kernel
theorem dX7_span_16 : decode cX7_span 16 = .ok (.iconst 1, 1) := by decide +kernel
theorem dX7_span_17 : decode cX7_span 17 = .ok (.bipush 60, 2) := by decide +kernel
theorem dX7_span_19 : decode cX7_span 19 = .ok (.invokestatic 93, 3) := by decide +kernel
theorem dX7_span_22 : decode cX7_span 22 = .ok (.ifCond .eq 13, 3) := by decide +kernel
theorem dX7_span_25 : decode cX7_span 25 = .ok (.iload 4, 2) := by decide +kernel
theorem dX7_span_27 : decode cX7_span 27 = .ok (.iconst 0, 1) := by decide +kernel
theorem dX7_span_28 : decode cX7_span 28 = .ok (.iconst 3, 1) := by decide +kernel
theorem dX7_span_29 : decode cX7_span 29 = .ok (.invokestatic 93, 3) := by decide +kernel
theorem dX7_span_32 : decode cX7_span 32 = .ok (.ifCond .ne 6, 3) := by decide +kernel
theorem dX7_span_35 : decode cX7_span 35 = .ok (.bipush (-2), 2) := by decide +kernel
theorem dX7_span_37 : decode cX7_span 37 = .ok (.ireturn, 1) := by decide +kernel
theorem dX7_span_38 : decode cX7_span 38 = .ok (.iload_n 1, 1) := by decide +kernel
theorem dX7_span_39 : decode cX7_span 39 = .ok (.iload_n 2, 1) := by decide +kernel
theorem dX7_span_40 : decode cX7_span 40 = .ok (.invokestatic 196, 3) := by decide +kernel
theorem dX7_span_43 : decode cX7_span 43 = .ok (.istore 5, 2) := by decide +kernel
theorem dX7_span_45 : decode cX7_span 45 = .ok (.iconst (-1), 1) := by decide +kernel
theorem dX7_span_46 : decode cX7_span 46 = .ok (.istore 6, 2) := by decide +kernel
theorem dX7_span_48 : decode cX7_span 48 = .ok (.iconst (-1), 1) := by decide +kernel
theorem dX7_span_49 : decode cX7_span 49 = .ok (.istore 7, 2) := by decide +kernel
theorem dX7_span_51 : decode cX7_span 51 = .ok (.iconst 0, 1) := by decide +kernel
theorem dX7_span_52 : decode cX7_span 52 = .ok (.istore 8, 2) := by decide +kernel
theorem dX7_span_54 : decode cX7_span 54 = .ok (.iconst 0, 1) := by decide +kernel
theorem dX7_span_55 : decode cX7_span 55 = .ok (.istore 9, 2) := by decide +kernel
theorem dX7_span_57 : decode cX7_span 57 = .ok (.iconst 1, 1) := by decide +kernel
theorem dX7_span_58 : decode cX7_span 58 = .ok (.istore 10, 2) := by decide +kernel
theorem dX7_span_60 : decode cX7_span 60 = .ok (.iload 10, 2) := by decide +kernel
theorem dX7_span_62 : decode cX7_span 62 = .ok (.bipush 9, 2) := by decide +kernel
theorem dX7_span_64 : decode cX7_span 64 = .ok (.if_icmp .gt 90, 3) := by decide +kernel
theorem dX7_span_67 : decode cX7_span 67 = .ok (.iconst 0, 1) := by decide +kernel
theorem dX7_span_68 : decode cX7_span 68 = .ok (.istore 11, 2) := by decide +kernel
theorem dX7_span_70 : decode cX7_span 70 = .ok (.iload 11, 2) := by decide +kernel
theorem dX7_span_72 : decode cX7_span 72 = .ok (.iconst 4, 1) := by decide +kernel
theorem dX7_span_73 : decode cX7_span 73 = .ok (.if_icmp .ge 75, 3) := by decide +kernel
theorem dX7_span_76 : decode cX7_span 76 = .ok (.aload_n 0, 1) := by decide +kernel
theorem dX7_span_77 : decode cX7_span 77 = .ok (.getfield 19, 3) := by decide +kernel
theorem dX7_span_80 : decode cX7_span 80 = .ok (.getfield 28, 3) := by decide +kernel
theorem dX7_span_83 : decode cX7_span 83 = .ok (.iload 5, 2) := by decide +kernel
theorem dX7_span_85 : decode cX7_span 85 = .ok (.iload_n 3, 1) := by decide +kernel
theorem dX7_span_86 : decode cX7_span 86 = .ok (.invokestatic 227, 3) := by decide +kernel
theorem dX7_span_89 : decode cX7_span 89 = .ok (.bipush 10, 2) := by decide +kernel
theorem dX7_span_91 : decode cX7_span 91 = .ok (.iload 11, 2) := by decide +kernel
theorem dX7_span_93 : decode cX7_span 93 = .ok (.imul, 1) := by decide +kernel
theorem dX7_span_94 : decode cX7_span 94 = .ok (.iload 10, 2) := by decide +kernel
theorem dX7_span_96 : decode cX7_span 96 = .ok (.iadd, 1) := by decide +kernel
theorem dX7_span_97 : decode cX7_span 97 = .ok (.invokevirtual 264, 3) := by decide +kernel
theorem dX7_span_100 : decode cX7_span 100 = .ok (.istore 12, 2) := by decide +kernel
theorem dX7_span_102 : decode cX7_span 102 = .ok (.iload 12, 2) := by decide +kernel
theorem dX7_span_104 : decode cX7_span 104 = .ok (.ifCond .eq 38, 3) := by decide +kernel
theorem dX7_span_107 : decode cX7_span 107 = .ok (.iload 6, 2) := by decide +kernel
theorem dX7_span_109 : decode cX7_span 109 = .ok (.iconst (-1), 1) := by decide +kernel
theorem dX7_span_110 : decode cX7_span 110 = .ok (.if_icmp .ne 8, 3) := by decide +kernel
theorem dX7_span_113 : decode cX7_span 113 = .ok (.iload 10, 2) := by decide +kernel
theorem dX7_span_115 : decode cX7_span 115 = .ok (.goto 5, 3) := by decide +kernel
theorem dX7_span_118 : decode cX7_span 118 = .ok (.iload 6, 2) := by decide +kernel
theorem dX7_span_120 : decode cX7_span 120 = .ok (.istore 6, 2) := by decide +kernel
theorem dX7_span_122 : decode cX7_span 122 = .ok (.iload 10, 2) := by decide +kernel
theorem dX7_span_124 : decode cX7_span 124 = .ok (.istore 7, 2) := by decide +kernel
theorem dX7_span_126 : decode cX7_span 126 = .ok (.iload 8, 2) := by decide +kernel
theorem dX7_span_128 : decode cX7_span 128 = .ok (.iconst 1, 1) := by decide +kernel
theorem dX7_span_129 : decode cX7_span 129 = .ok (.iload 11, 2) := by decide +kernel
theorem dX7_span_131 : decode cX7_span 131 = .ok (.ishl, 1) := by decide +kernel
theorem dX7_span_132 : decode cX7_span 132 = .ok (.ior, 1) := by decide +kernel
theorem dX7_span_133 : decode cX7_span 133 = .ok (.istore 8, 2) := by decide +kernel
theorem dX7_span_135 : decode cX7_span 135 = .ok (.iload 9, 2) := by decide +kernel
theorem dX7_span_137 : decode cX7_span 137 = .ok (.iload 12, 2) := by decide +kernel
theorem dX7_span_139 : decode cX7_span 139 = .ok (.ior, 1) := by decide +kernel
theorem dX7_span_140 : decode cX7_span 140 = .ok (.istore 9, 2) := by decide +kernel
theorem dX7_span_142 : decode cX7_span 142 = .ok (.iinc 11 1, 3) := by decide +kernel
theorem dX7_span_145 : decode cX7_span 145 = .ok (.goto (-75), 3) := by decide +kernel
theorem dX7_span_148 : decode cX7_span 148 = .ok (.iinc 10 1, 3) := by decide +kernel
theorem dX7_span_151 : decode cX7_span 151 = .ok (.goto (-91), 3) := by decide +kernel
theorem dX7_span_154 : decode cX7_span 154 = .ok (.iload 9, 2) := by decide +kernel
theorem dX7_span_156 : decode cX7_span 156 = .ok (.ifCond .ne 5, 3) := by decide +kernel
theorem dX7_span_159 : decode cX7_span 159 = .ok (.iconst (-1), 1) := by decide +kernel
theorem dX7_span_160 : decode cX7_span 160 = .ok (.ireturn, 1) := by decide +kernel
theorem dX7_span_161 : decode cX7_span 161 = .ok (.iload 4, 2) := by decide +kernel
theorem dX7_span_163 : decode cX7_span 163 = .ok (.tableswitch 34 0 2 #[25, 28, 31], 25) := by decide +kernel
theorem dX7_span_188 : decode cX7_span 188 = .ok (.iload 6, 2) := by decide +kernel
theorem dX7_span_190 : decode cX7_span 190 = .ok (.ireturn, 1) := by decide +kernel
theorem dX7_span_191 : decode cX7_span 191 = .ok (.iload 7, 2) := by decide +kernel
theorem dX7_span_193 : decode cX7_span 193 = .ok (.ireturn, 1) := by decide +kernel
theorem dX7_span_194 : decode cX7_span 194 = .ok (.iload 8, 2) := by decide +kernel
theorem dX7_span_196 : decode cX7_span 196 = .ok (.ireturn, 1) := by decide +kernel
theorem dX7_span_197 : decode cX7_span 197 = .ok (.iload 9, 2) := by decide +kernel
theorem dX7_span_199 : decode cX7_span 199 = .ok (.ireturn, 1) := by decide +kernel
theorem dX7_mist_0 : decode cX7_mist 0 = .ok (.aload_n 0, 1) := by decide +kernel
theorem dX7_mist_1 : decode cX7_mist 1 = .ok (.iload_n 1, 1) := by decide +kernel
theorem dX7_mist_2 : decode cX7_mist 2 = .ok (.invokevirtual 258, 3) := by decide +kernel
theorem dX7_mist_5 : decode cX7_mist 5 = .ok (.ifCond .eq 10, 3) := by decide +kernel
theorem dX7_mist_8 : decode cX7_mist 8 = .ok (.iload_n 2, 1) := by decide +kernel
theorem dX7_mist_9 : decode cX7_mist 9 = .ok (.invokestatic 246, 3) := by decide +kernel
theorem dX7_mist_12 : decode cX7_mist 12 = .ok (.ifCond .ne 6, 3) := by decide +kernel
theorem dX7_mist_15 : decode cX7_mist 15 = .ok (.bipush (-2), 2) := by decide +kernel
theorem dX7_mist_17 : decode cX7_mist 17 = .ok (.ireturn, 1) := by decide +kernel
theorem dX7_mist_18 : decode cX7_mist 18 = .ok (.iconst 0, 1) := by decide +kernel
theorem dX7_mist_19 : decode cX7_mist 19 = .ok (.istore_n 3, 1) := by decide +kernel
theorem dX7_mist_20 : decode cX7_mist 20 = .ok (.iconst (-1), 1) := by decide +kernel
theorem dX7_mist_21 : decode cX7_mist 21 = .ok (.istore 4, 2) := by decide +kernel
theorem dX7_mist_23 : decode cX7_mist 23 = .ok (.iconst 1, 1) := by decide +kernel
theorem dX7_mist_24 : decode cX7_mist 24 = .ok (.istore 5, 2) := by decide +kernel
theorem dX7_mist_26 : decode cX7_mist 26 = .ok (.iload 5, 2) := by decide +kernel
theorem dX7_mist_28 : decode cX7_mist 28 = .ok (.bipush 60, 2) := by decide +kernel
theorem dX7_mist_30 : decode cX7_mist 30 = .ok (.if_icmp .gt 47, 3) := by decide +kernel
theorem dX7_mist_33 : decode cX7_mist 33 = .ok (.aload_n 0, 1) := by decide +kernel
theorem dX7_mist_34 : decode cX7_mist 34 = .ok (.getfield 19, 3) := by decide +kernel
theorem dX7_mist_37 : decode cX7_mist 37 = .ok (.getfield 28, 3) := by decide +kernel
theorem dX7_mist_40 : decode cX7_mist 40 = .ok (.iload_n 1, 1) := by decide +kernel
theorem dX7_mist_41 : decode cX7_mist 41 = .ok (.iload 5, 2) := by decide +kernel
theorem dX7_mist_43 : decode cX7_mist 43 = .ok (.invokestatic 227, 3) := by decide +kernel
theorem dX7_mist_46 : decode cX7_mist 46 = .ok (.iload_n 2, 1) := by decide +kernel
theorem dX7_mist_47 : decode cX7_mist 47 = .ok (.invokevirtual 272, 3) := by decide +kernel
theorem dX7_mist_50 : decode cX7_mist 50 = .ok (.istore 6, 2) := by decide +kernel
theorem dX7_mist_52 : decode cX7_mist 52 = .ok (.iload 6, 2) := by decide +kernel
theorem dX7_mist_54 : decode cX7_mist 54 = .ok (.ifCond .lt 17, 3) := by decide +kernel
theorem dX7_mist_57 : decode cX7_mist 57 = .ok (.iload 6, 2) := by decide +kernel
theorem dX7_mist_59 : decode cX7_mist 59 = .ok (.iload 4, 2) := by decide +kernel
theorem dX7_mist_61 : decode cX7_mist 61 = .ok (.if_icmp .eq 10, 3) := by decide +kernel
theorem dX7_mist_64 : decode cX7_mist 64 = .ok (.iinc 3 1, 3) := by decide +kernel
theorem dX7_mist_67 : decode cX7_mist 67 = .ok (.iload 6, 2) := by decide +kernel
theorem dX7_mist_69 : decode cX7_mist 69 = .ok (.istore 4, 2) := by decide +kernel
theorem dX7_mist_71 : decode cX7_mist 71 = .ok (.iinc 5 1, 3) := by decide +kernel
theorem dX7_mist_74 : decode cX7_mist 74 = .ok (.goto (-48), 3) := by decide +kernel
theorem dX7_mist_77 : decode cX7_mist 77 = .ok (.iload_n 3, 1) := by decide +kernel
theorem dX7_mist_78 : decode cX7_mist 78 = .ok (.ireturn, 1) := by decide +kernel
theorem dX7_small_0 : decode cX7_small 0 = .ok (.aload_n 0, 1) := by decide +kernel
theorem dX7_small_1 : decode cX7_small 1 = .ok (.invokevirtual 178, 3) := by decide +kernel
theorem dX7_small_4 : decode cX7_small 4 = .ok (.ifCond .eq 30, 3) := by decide +kernel
theorem dX7_small_7 : decode cX7_small 7 = .ok (.iload_n 1, 1) := by decide +kernel
theorem dX7_small_8 : decode cX7_small 8 = .ok (.iconst 1, 1) := by decide +kernel
theorem dX7_small_9 : decode cX7_small 9 = .ok (.bipush 11, 2) := by decide +kernel
theorem dX7_small_11 : decode cX7_small 11 = .ok (.invokestatic 93, 3) := by decide +kernel
theorem dX7_small_14 : decode cX7_small 14 = .ok (.ifCond .eq 20, 3) := by decide +kernel
theorem dX7_small_17 : decode cX7_small 17 = .ok (.iload_n 2, 1) := by decide +kernel
theorem dX7_small_18 : decode cX7_small 18 = .ok (.iconst 0, 1) := by decide +kernel
theorem dX7_small_19 : decode cX7_small 19 = .ok (.bipush 60, 2) := by decide +kernel
theorem dX7_small_21 : decode cX7_small 21 = .ok (.invokestatic 93, 3) := by decide +kernel
theorem dX7_small_24 : decode cX7_small 24 = .ok (.ifCond .eq 10, 3) := by decide +kernel
theorem dX7_small_27 : decode cX7_small 27 = .ok (.iload_n 3, 1) := by decide +kernel
theorem dX7_small_28 : decode cX7_small 28 = .ok (.invokestatic 246, 3) := by decide +kernel
theorem dX7_small_31 : decode cX7_small 31 = .ok (.ifCond .ne 6, 3) := by decide +kernel
theorem dX7_small_34 : decode cX7_small 34 = .ok (.bipush (-2), 2) := by decide +kernel
theorem dX7_small_36 : decode cX7_small 36 = .ok (.ireturn, 1) := by decide +kernel
theorem dX7_small_37 : decode cX7_small 37 = .ok (.iload_n 1, 1) := by decide +kernel
theorem dX7_small_38 : decode cX7_small 38 = .ok (.aload_n 0, 1) := by decide +kernel
theorem dX7_small_39 : decode cX7_small 39 = .ok (.getfield 19, 3) := by decide +kernel
theorem dX7_small_42 : decode cX7_small 42 = .ok (.getfield 28, 3) := by decide +kernel
theorem dX7_small_45 : decode cX7_small 45 = .ok (.iload_n 2, 1) := by decide +kernel
theorem dX7_small_46 : decode cX7_small 46 = .ok (.iload_n 1, 1) := by decide +kernel
theorem dX7_small_47 : decode cX7_small 47 = .ok (.idiv, 1) := by decide +kernel
theorem dX7_small_48 : decode cX7_small 48 = .ok (.iload_n 3, 1) := by decide +kernel
theorem dX7_small_49 : decode cX7_small 49 = .ok (.invokevirtual 249, 3) := by decide +kernel
theorem dX7_small_52 : decode cX7_small 52 = .ok (.imul, 1) := by decide +kernel
theorem dX7_small_53 : decode cX7_small 53 = .ok (.ireturn, 1) := by decide +kernel
theorem dX7_winds_0 : decode cX7_winds 0 = .ok (.iload_n 1, 1) := by decide +kernel
theorem dX7_winds_1 : decode cX7_winds 1 = .ok (.invokestatic 275, 3) := by decide +kernel
theorem dX7_winds_4 : decode cX7_winds 4 = .ok (.ifCond .eq 29, 3) := by decide +kernel
theorem dX7_winds_7 : decode cX7_winds 7 = .ok (.aload_n 0, 1) := by decide +kernel
theorem dX7_winds_8 : decode cX7_winds 8 = .ok (.invokevirtual 178, 3) := by decide +kernel
theorem dX7_winds_11 : decode cX7_winds 11 = .ok (.ifCond .eq 22, 3) := by decide +kernel
theorem dX7_winds_14 : decode cX7_winds 14 = .ok (.iload_n 2, 1) := by decide +kernel
theorem dX7_winds_15 : decode cX7_winds 15 = .ok (.iconst 1, 1) := by decide +kernel
theorem dX7_winds_16 : decode cX7_winds 16 = .ok (.bipush 60, 2) := by decide +kernel
theorem dX7_winds_18 : decode cX7_winds 18 = .ok (.invokestatic 93, 3) := by decide +kernel
theorem dX7_winds_21 : decode cX7_winds 21 = .ok (.ifCond .eq 12, 3) := by decide +kernel
theorem dX7_winds_24 : decode cX7_winds 24 = .ok (.iload_n 3, 1) := by decide +kernel
theorem dX7_winds_25 : decode cX7_winds 25 = .ok (.iconst 0, 1) := by decide +kernel
theorem dX7_winds_26 : decode cX7_winds 26 = .ok (.iconst 1, 1) := by decide +kernel
theorem dX7_winds_27 : decode cX7_winds 27 = .ok (.invokestatic 93, 3) := by decide +kernel
theorem dX7_winds_30 : decode cX7_winds 30 = .ok (.ifCond .ne 6, 3) := by decide +kernel
theorem dX7_winds_33 : decode cX7_winds 33 = .ok (.bipush (-2), 2) := by decide +kernel
theorem dX7_winds_35 : decode cX7_winds 35 = .ok (.ireturn, 1) := by decide +kernel
theorem dX7_winds_36 : decode cX7_winds 36 = .ok (.aload_n 0, 1) := by decide +kernel
theorem dX7_winds_37 : decode cX7_winds 37 = .ok (.getfield 45, 3) := by decide +kernel
theorem dX7_winds_40 : decode cX7_winds 40 = .ok (.iload_n 1, 1) := by decide +kernel
theorem dX7_winds_41 : decode cX7_winds 41 = .ok (.aaload, 1) := by decide +kernel
theorem dX7_winds_42 : decode cX7_winds 42 = .ok (.getfield 278, 3) := by decide +kernel
theorem dX7_winds_45 : decode cX7_winds 45 = .ok (.ifCond .ne 6, 3) := by decide +kernel
theorem dX7_winds_48 : decode cX7_winds 48 = .ok (.bipush (-6), 2) := by decide +kernel
theorem dX7_winds_50 : decode cX7_winds 50 = .ok (.ireturn, 1) := by decide +kernel
theorem dX7_winds_51 : decode cX7_winds 51 = .ok (.iconst 0, 1) := by decide +kernel
theorem dX7_winds_52 : decode cX7_winds 52 = .ok (.istore 4, 2) := by decide +kernel
theorem dX7_winds_54 : decode cX7_winds 54 = .ok (.iconst (-1), 1) := by decide +kernel
theorem dX7_winds_55 : decode cX7_winds 55 = .ok (.istore 5, 2) := by decide +kernel
theorem dX7_winds_57 : decode cX7_winds 57 = .ok (.iconst 0, 1) := by decide +kernel
theorem dX7_winds_58 : decode cX7_winds 58 = .ok (.istore 6, 2) := by decide +kernel
theorem dX7_winds_60 : decode cX7_winds 60 = .ok (.iload 6, 2) := by decide +kernel
theorem dX7_winds_62 : decode cX7_winds 62 = .ok (.bipush 40, 2) := by decide +kernel
theorem dX7_winds_64 : decode cX7_winds 64 = .ok (.if_icmp .ge 46, 3) := by decide +kernel
theorem dX7_winds_67 : decode cX7_winds 67 = .ok (.aload_n 0, 1) := by decide +kernel
theorem dX7_winds_68 : decode cX7_winds 68 = .ok (.aload_n 0, 1) := by decide +kernel
theorem dX7_winds_69 : decode cX7_winds 69 = .ok (.getfield 45, 3) := by decide +kernel
theorem dX7_winds_72 : decode cX7_winds 72 = .ok (.iload_n 1, 1) := by decide +kernel
theorem dX7_winds_73 : decode cX7_winds 73 = .ok (.aaload, 1) := by decide +kernel
theorem dX7_winds_74 : decode cX7_winds 74 = .ok (.iload_n 2, 1) := by decide +kernel
theorem dX7_winds_75 : decode cX7_winds 75 = .ok (.invokestatic 227, 3) := by decide +kernel
theorem dX7_winds_78 : decode cX7_winds 78 = .ok (.iload 6, 2) := by decide +kernel
theorem dX7_winds_80 : decode cX7_winds 80 = .ok (.invokevirtual 282, 3) := by decide +kernel
theorem dX7_winds_83 : decode cX7_winds 83 = .ok (.ifCond .eq 21, 3) := by decide +kernel
theorem dX7_winds_86 : decode cX7_winds 86 = .ok (.iinc 4 1, 3) := by decide +kernel
theorem dX7_winds_89 : decode cX7_winds 89 = .ok (.iload 5, 2) := by decide +kernel
theorem dX7_winds_91 : decode cX7_winds 91 = .ok (.iconst (-1), 1) := by decide +kernel
theorem dX7_winds_92 : decode cX7_winds 92 = .ok (.if_icmp .ne 8, 3) := by decide +kernel
theorem dX7_winds_95 : decode cX7_winds 95 = .ok (.iload 6, 2) := by decide +kernel
theorem dX7_winds_97 : decode cX7_winds 97 = .ok (.goto 5, 3) := by decide +kernel
theorem dX7_winds_100 : decode cX7_winds 100 = .ok (.iload 5, 2) := by decide +kernel
theorem dX7_winds_102 : decode cX7_winds 102 = .ok (.istore 5, 2) := by decide +kernel
theorem dX7_winds_104 : decode cX7_winds 104 = .ok (.iinc 6 1, 3) := by decide +kernel
theorem dX7_winds_107 : decode cX7_winds 107 = .ok (.goto (-47), 3) := by decide +kernel
theorem dX7_winds_110 : decode cX7_winds 110 = .ok (.iload_n 3, 1) := by decide +kernel
theorem dX7_winds_111 : decode cX7_winds 111 = .ok (.ifCond .ne 8, 3) := by decide +kernel
theorem dX7_winds_114 : decode cX7_winds 114 = .ok (.iload 4, 2) := by decide +kernel
theorem dX7_winds_116 : decode cX7_winds 116 = .ok (.goto 5, 3) := by decide +kernel
theorem dX7_winds_119 : decode cX7_winds 119 = .ok (.iload 5, 2) := by decide +kernel
theorem dX7_winds_121 : decode cX7_winds 121 = .ok (.ireturn, 1) := by decide +kernel
theorem dX7_already_0 : decode cX7_already 0 = .ok (.aload_n 0, 1) := by decide +kernel
theorem dX7_already_1 : decode cX7_already 1 = .ok (.iload_n 1, 1) := by decide +kernel
theorem dX7_already_2 : decode cX7_already 2 = .ok (.invokevirtual 127, 3) := by decide +kernel
theorem dX7_already_5 : decode cX7_already 5 = .ok (.ifCond .eq 22, 3) := by decide +kernel
theorem dX7_already_8 : decode cX7_already 8 = .ok (.iload_n 2, 1) := by decide +kernel
theorem dX7_already_9 : decode cX7_already 9 = .ok (.invokestatic 246, 3) := by decide +kernel
theorem dX7_already_12 : decode cX7_already 12 = .ok (.ifCond .eq 15, 3) := by decide +kernel
theorem dX7_already_15 : decode cX7_already 15 = .ok (.aload_n 0, 1) := by decide +kernel
theorem dX7_already_16 : decode cX7_already 16 = .ok (.getfield 19, 3) := by decide +kernel
theorem dX7_already_19 : decode cX7_already 19 = .ok (.iload_n 1, 1) := by decide +kernel
theorem dX7_already_20 : decode cX7_already 20 = .ok (.iload_n 2, 1) := by decide +kernel
theorem dX7_already_21 : decode cX7_already 21 = .ok (.invokevirtual 286, 3) := by decide +kernel
theorem dX7_already_24 : decode cX7_already 24 = .ok (.goto 5, 3) := by decide +kernel
theorem dX7_already_27 : decode cX7_already 27 = .ok (.bipush (-2), 2) := by decide +kernel
theorem dX7_already_29 : decode cX7_already 29 = .ok (.ireturn, 1) := by decide +kernel
theorem dX7_coming_0 : decode cX7_coming 0 = .ok (.aload_n 0, 1) := by decide +kernel
theorem dX7_coming_1 : decode cX7_coming 1 = .ok (.invokevirtual 178, 3) := by decide +kernel
theorem dX7_coming_4 : decode cX7_coming 4 = .ok (.ifCond .eq 21, 3) := by decide +kernel
theorem dX7_coming_7 : decode cX7_coming 7 = .ok (.iload_n 1, 1) := by decide +kernel
theorem dX7_coming_8 : decode cX7_coming 8 = .ok (.invokestatic 246, 3) := by decide +kernel
theorem dX7_coming_11 : decode cX7_coming 11 = .ok (.ifCond .eq 14, 3) := by decide +kernel
theorem dX7_coming_14 : decode cX7_coming 14 = .ok (.aload_n 0, 1) := by decide +kernel
theorem dX7_coming_15 : decode cX7_coming 15 = .ok (.getfield 19, 3) := by decide +kernel
theorem dX7_coming_18 : decode cX7_coming 18 = .ok (.iload_n 1, 1) := by decide +kernel
theorem dX7_coming_19 : decode cX7_coming 19 = .ok (.invokevirtual 289, 3) := by decide +kernel
theorem dX7_coming_22 : decode cX7_coming 22 = .ok (.goto 5, 3) := by decide +kernel
theorem dX7_coming_25 : decode cX7_coming 25 = .ok (.bipush (-2), 2) := by decide +kernel
theorem dX7_coming_27 : decode cX7_coming 27 = .ok (.ireturn, 1) := by decide +kernel
theorem dX7_worst_0 : decode cX7_worst 0 = .ok (.aload_n 0, 1) := by decide +kernel
theorem dX7_worst_1 : decode cX7_worst 1 = .ok (.iload_n 1, 1) := by decide +kernel
theorem dX7_worst_2 : decode cX7_worst 2 = .ok (.invokevirtual 127, 3) := by decide +kernel
theorem dX7_worst_5 : decode cX7_worst 5 = .ok (.ifCond .ne 6, 3) := by decide +kernel
theorem dX7_worst_8 : decode cX7_worst 8 = .ok (.bipush (-2), 2) := by decide +kernel
theorem dX7_worst_10 : decode cX7_worst 10 = .ok (.ireturn, 1) := by decide +kernel
theorem dX7_worst_11 : decode cX7_worst 11 = .ok (.iconst 0, 1) := by decide +kernel
theorem dX7_worst_12 : decode cX7_worst 12 = .ok (.istore_n 2, 1) := by decide +kernel
theorem dX7_worst_13 : decode cX7_worst 13 = .ok (.iconst (-1), 1) := by decide +kernel
theorem dX7_worst_14 : decode cX7_worst 14 = .ok (.istore_n 3, 1) := by decide +kernel
theorem dX7_worst_15 : decode cX7_worst 15 = .ok (.iconst 0, 1) := by decide +kernel
theorem dX7_worst_16 : decode cX7_worst 16 = .ok (.istore 4, 2) := by decide +kernel
theorem dX7_worst_18 : decode cX7_worst 18 = .ok (.iload 4, 2) := by decide +kernel
theorem dX7_worst_20 : decode cX7_worst 20 = .ok (.bipush 40, 2) := by decide +kernel
theorem dX7_worst_22 : decode cX7_worst 22 = .ok (.if_icmp .ge 33, 3) := by decide +kernel
theorem dX7_worst_25 : decode cX7_worst 25 = .ok (.aload_n 0, 1) := by decide +kernel
theorem dX7_worst_26 : decode cX7_worst 26 = .ok (.getfield 19, 3) := by decide +kernel
theorem dX7_worst_29 : decode cX7_worst 29 = .ok (.iload_n 1, 1) := by decide +kernel
theorem dX7_worst_30 : decode cX7_worst 30 = .ok (.iload 4, 2) := by decide +kernel
theorem dX7_worst_32 : decode cX7_worst 32 = .ok (.invokevirtual 286, 3) := by decide +kernel
theorem dX7_worst_35 : decode cX7_worst 35 = .ok (.istore 5, 2) := by decide +kernel
theorem dX7_worst_37 : decode cX7_worst 37 = .ok (.iload 5, 2) := by decide +kernel
theorem dX7_worst_39 : decode cX7_worst 39 = .ok (.iload_n 2, 1) := by decide +kernel
theorem dX7_worst_40 : decode cX7_worst 40 = .ok (.if_icmp .le 9, 3) := by decide +kernel
theorem dX7_worst_43 : decode cX7_worst 43 = .ok (.iload 5, 2) := by decide +kernel
theorem dX7_worst_45 : decode cX7_worst 45 = .ok (.istore_n 2, 1) := by decide +kernel
theorem dX7_worst_46 : decode cX7_worst 46 = .ok (.iload 4, 2) := by decide +kernel
theorem dX7_worst_48 : decode cX7_worst 48 = .ok (.istore_n 3, 1) := by decide +kernel
theorem dX7_worst_49 : decode cX7_worst 49 = .ok (.iinc 4 1, 3) := by decide +kernel
theorem dX7_worst_52 : decode cX7_worst 52 = .ok (.goto (-34), 3) := by decide +kernel
theorem dX7_worst_55 : decode cX7_worst 55 = .ok (.iload_n 3, 1) := by decide +kernel
theorem dX7_worst_56 : decode cX7_worst 56 = .ok (.ireturn, 1) := by decide +kernel
theorem dX7_last_0 : decode cX7_last 0 = .ok (.aload_n 0, 1) := by decide +kernel
theorem dX7_last_1 : decode cX7_last 1 = .ok (.iload_n 1, 1) := by decide +kernel
theorem dX7_last_2 : decode cX7_last 2 = .ok (.invokevirtual 127, 3) := by decide +kernel
theorem dX7_last_5 : decode cX7_last 5 = .ok (.ifCond .eq 22, 3) := by decide +kernel
theorem dX7_last_8 : decode cX7_last 8 = .ok (.iload_n 2, 1) := by decide +kernel
theorem dX7_last_9 : decode cX7_last 9 = .ok (.invokestatic 246, 3) := by decide +kernel
theorem dX7_last_12 : decode cX7_last 12 = .ok (.ifCond .eq 15, 3) := by decide +kernel
theorem dX7_last_15 : decode cX7_last 15 = .ok (.aload_n 0, 1) := by decide +kernel
theorem dX7_last_16 : decode cX7_last 16 = .ok (.getfield 19, 3) := by decide +kernel
theorem dX7_last_19 : decode cX7_last 19 = .ok (.iload_n 1, 1) := by decide +kernel
theorem dX7_last_20 : decode cX7_last 20 = .ok (.iload_n 2, 1) := by decide +kernel
theorem dX7_last_21 : decode cX7_last 21 = .ok (.invokevirtual 292, 3) := by decide +kernel
theorem dX7_last_24 : decode cX7_last 24 = .ok (.goto 5, 3) := by decide +kernel
theorem dX7_last_27 : decode cX7_last 27 = .ok (.bipush (-2), 2) := by decide +kernel
theorem dX7_last_29 : decode cX7_last 29 = .ok (.ireturn, 1) := by decide +kernel
theorem dX7_thought_0 : decode cX7_thought 0 = .ok (.aload_n 0, 1) := by decide +kernel
theorem dX7_thought_1 : decode cX7_thought 1 = .ok (.iload_n 1, 1) := by decide +kernel
theorem dX7_thought_2 : decode cX7_thought 2 = .ok (.iload_n 2, 1) := by decide +kernel
theorem dX7_thought_3 : decode cX7_thought 3 = .ok (.invokevirtual 295, 3) := by decide +kernel
theorem dX7_thought_6 : decode cX7_thought 6 = .ok (.ifCond .ne 7, 3) := by decide +kernel
theorem dX7_thought_9 : decode cX7_thought 9 = .ok (.ldc_w 298, 3) := by decide +kernel
theorem dX7_thought_12 : decode cX7_thought 12 = .ok (.ireturn, 1) := by decide +kernel
theorem dX7_thought_13 : decode cX7_thought 13 = .ok (.aload_n 0, 1) := by decide +kernel
theorem dX7_thought_14 : decode cX7_thought 14 = .ok (.invokevirtual 299, 3) := by decide +kernel
theorem dX7_thought_17 : decode cX7_thought 17 = .ok (.aload_n 0, 1) := by decide +kernel
theorem dX7_thought_18 : decode cX7_thought 18 = .ok (.iload_n 1, 1) := by decide +kernel
theorem dX7_thought_19 : decode cX7_thought 19 = .ok (.invokevirtual 302, 3) := by decide +kernel
theorem dX7_thought_22 : decode cX7_thought 22 = .ok (.aload_n 0, 1) := by decide +kernel
theorem dX7_thought_23 : decode cX7_thought 23 = .ok (.iload_n 2, 1) := by decide +kernel
theorem dX7_thought_24 : decode cX7_thought 24 = .ok (.invokevirtual 305, 3) := by decide +kernel
theorem dX7_thought_27 : decode cX7_thought 27 = .ok (.ireturn, 1) := by decide +kernel
theorem dX7_lagged_0 : decode cX7_lagged 0 = .ok (.aload_n 0, 1) := by decide +kernel
theorem dX7_lagged_1 : decode cX7_lagged 1 = .ok (.iload_n 1, 1) := by decide +kernel
theorem dX7_lagged_2 : decode cX7_lagged 2 = .ok (.iload_n 3, 1) := by decide +kernel
theorem dX7_lagged_3 : decode cX7_lagged 3 = .ok (.invokevirtual 295, 3) := by decide +kernel
theorem dX7_lagged_6 : decode cX7_lagged 6 = .ok (.ifCond .eq 13, 3) := by decide +kernel
theorem dX7_lagged_9 : decode cX7_lagged 9 = .ok (.iload_n 2, 1) := by decide +kernel
theorem dX7_lagged_10 : decode cX7_lagged 10 = .ok (.iconst 0, 1) := by decide +kernel
theorem dX7_lagged_11 : decode cX7_lagged 11 = .ok (.bipush 20, 2) := by decide +kernel
theorem dX7_lagged_13 : decode cX7_lagged 13 = .ok (.invokestatic 93, 3) := by decide +kernel
theorem dX7_lagged_16 : decode cX7_lagged 16 = .ok (.ifCond .ne 7, 3) := by decide +kernel
theorem dX7_lagged_19 : decode cX7_lagged 19 = .ok (.ldc_w 298, 3) := by decide +kernel
theorem dX7_lagged_22 : decode cX7_lagged 22 = .ok (.ireturn, 1) := by decide +kernel
theorem dX7_lagged_23 : decode cX7_lagged 23 = .ok (.aload_n 0, 1) := by decide +kernel
theorem dX7_lagged_24 : decode cX7_lagged 24 = .ok (.invokevirtual 299, 3) := by decide +kernel
theorem dX7_lagged_27 : decode cX7_lagged 27 = .ok (.aload_n 0, 1) := by decide +kernel
theorem dX7_lagged_28 : decode cX7_lagged 28 = .ok (.getfield 23, 3) := by decide +kernel
theorem dX7_lagged_31 : decode cX7_lagged 31 = .ok (.getfield 28, 3) := by decide +kernel
theorem dX7_lagged_34 : decode cX7_lagged 34 = .ok (.iload_n 2, 1) := by decide +kernel
theorem dX7_lagged_35 : decode cX7_lagged 35 = .ok (.putfield 212, 3) := by decide +kernel
theorem dX7_lagged_38 : decode cX7_lagged 38 = .ok (.aload_n 0, 1) := by decide +kernel
theorem dX7_lagged_39 : decode cX7_lagged 39 = .ok (.iload_n 1, 1) := by decide +kernel
theorem dX7_lagged_40 : decode cX7_lagged 40 = .ok (.invokevirtual 302, 3) := by decide +kernel
theorem dX7_lagged_43 : decode cX7_lagged 43 = .ok (.aload_n 0, 1) := by decide +kernel
theorem dX7_lagged_44 : decode cX7_lagged 44 = .ok (.iload_n 3, 1) := by decide +kernel
theorem dX7_lagged_45 : decode cX7_lagged 45 = .ok (.invokevirtual 305, 3) := by decide +kernel
theorem dX7_lagged_48 : decode cX7_lagged 48 = .ok (.ireturn, 1) := by decide +kernel
theorem dX7_two_0 : decode cX7_two 0 = .ok (.aload_n 0, 1) := by decide +kernel
theorem dX7_two_1 : decode cX7_two 1 = .ok (.iload_n 1, 1) := by decide +kernel
theorem dX7_two_2 : decode cX7_two 2 = .ok (.iload_n 3, 1) := by decide +kernel
theorem dX7_two_3 : decode cX7_two 3 = .ok (.invokevirtual 295, 3) := by decide +kernel
theorem dX7_two_6 : decode cX7_two 6 = .ok (.ifCond .eq 13, 3) := by decide +kernel
theorem dX7_two_9 : decode cX7_two 9 = .ok (.iload_n 2, 1) := by decide +kernel
theorem dX7_two_10 : decode cX7_two 10 = .ok (.iconst 0, 1) := by decide +kernel
theorem dX7_two_11 : decode cX7_two 11 = .ok (.bipush 20, 2) := by decide +kernel
theorem dX7_two_13 : decode cX7_two 13 = .ok (.invokestatic 93, 3) := by decide +kernel
theorem dX7_two_16 : decode cX7_two 16 = .ok (.ifCond .ne 7, 3) := by decide +kernel
theorem dX7_two_19 : decode cX7_two 19 = .ok (.ldc_w 298, 3) := by decide +kernel
theorem dX7_two_22 : decode cX7_two 22 = .ok (.ireturn, 1) := by decide +kernel
theorem dX7_two_23 : decode cX7_two 23 = .ok (.aload_n 0, 1) := by decide +kernel
theorem dX7_two_24 : decode cX7_two 24 = .ok (.invokevirtual 299, 3) := by decide +kernel
theorem dX7_two_27 : decode cX7_two 27 = .ok (.aload_n 0, 1) := by decide +kernel
theorem dX7_two_28 : decode cX7_two 28 = .ok (.getfield 23, 3) := by decide +kernel
theorem dX7_two_31 : decode cX7_two 31 = .ok (.getfield 28, 3) := by decide +kernel
theorem dX7_two_34 : decode cX7_two 34 = .ok (.iload_n 2, 1) := by decide +kernel
theorem dX7_two_35 : decode cX7_two 35 = .ok (.putfield 308, 3) := by decide +kernel
theorem dX7_two_38 : decode cX7_two 38 = .ok (.aload_n 0, 1) := by decide +kernel
theorem dX7_two_39 : decode cX7_two 39 = .ok (.iload_n 1, 1) := by decide +kernel
theorem dX7_two_40 : decode cX7_two 40 = .ok (.invokevirtual 302, 3) := by decide +kernel
theorem dX7_two_43 : decode cX7_two 43 = .ok (.aload_n 0, 1) := by decide +kernel
theorem dX7_two_44 : decode cX7_two 44 = .ok (.iload_n 3, 1) := by decide +kernel
theorem dX7_two_45 : decode cX7_two 45 = .ok (.invokevirtual 305, 3) := by decide +kernel
theorem dX7_two_48 : decode cX7_two 48 = .ok (.ireturn, 1) := by decide +kernel
theorem dX7_climbs_0 : decode cX7_climbs 0 = .ok (.aload_n 0, 1) := by decide +kernel
theorem dX7_climbs_1 : decode cX7_climbs 1 = .ok (.iload_n 1, 1) := by decide +kernel
theorem dX7_climbs_2 : decode cX7_climbs 2 = .ok (.iload_n 3, 1) := by decide +kernel
theorem dX7_climbs_3 : decode cX7_climbs 3 = .ok (.invokevirtual 295, 3) := by decide +kernel
theorem dX7_climbs_6 : decode cX7_climbs 6 = .ok (.ifCond .eq 13, 3) := by decide +kernel
theorem dX7_climbs_9 : decode cX7_climbs 9 = .ok (.iload_n 2, 1) := by decide +kernel
theorem dX7_climbs_10 : decode cX7_climbs 10 = .ok (.iconst 1, 1) := by decide +kernel
theorem dX7_climbs_11 : decode cX7_climbs 11 = .ok (.bipush 60, 2) := by decide +kernel
theorem dX7_climbs_13 : decode cX7_climbs 13 = .ok (.invokestatic 93, 3) := by decide +kernel
theorem dX7_climbs_16 : decode cX7_climbs 16 = .ok (.ifCond .ne 7, 3) := by decide +kernel
theorem dX7_climbs_19 : decode cX7_climbs 19 = .ok (.ldc_w 298, 3) := by decide +kernel
theorem dX7_climbs_22 : decode cX7_climbs 22 = .ok (.ireturn, 1) := by decide +kernel
theorem dX7_climbs_23 : decode cX7_climbs 23 = .ok (.aload_n 0, 1) := by decide +kernel
theorem dX7_climbs_24 : decode cX7_climbs 24 = .ok (.invokevirtual 299, 3) := by decide +kernel
theorem dX7_climbs_27 : decode cX7_climbs 27 = .ok (.aload_n 0, 1) := by decide +kernel
theorem dX7_climbs_28 : decode cX7_climbs 28 = .ok (.getfield 23, 3) := by decide +kernel
theorem dX7_climbs_31 : decode cX7_climbs 31 = .ok (.getfield 28, 3) := by decide +kernel
theorem dX7_climbs_34 : decode cX7_climbs 34 = .ok (.iload_n 2, 1) := by decide +kernel
theorem dX7_climbs_35 : decode cX7_climbs 35 = .ok (.putfield 215, 3) := by decide +kernel
theorem dX7_climbs_38 : decode cX7_climbs 38 = .ok (.aload_n 0, 1) := by decide +kernel
theorem dX7_climbs_39 : decode cX7_climbs 39 = .ok (.iload_n 1, 1) := by decide +kernel
theorem dX7_climbs_40 : decode cX7_climbs 40 = .ok (.invokevirtual 302, 3) := by decide +kernel
theorem dX7_climbs_43 : decode cX7_climbs 43 = .ok (.aload_n 0, 1) := by decide +kernel
theorem dX7_climbs_44 : decode cX7_climbs 44 = .ok (.iload_n 3, 1) := by decide +kernel
theorem dX7_climbs_45 : decode cX7_climbs 45 = .ok (.invokevirtual 305, 3) := by decide +kernel
theorem dX7_climbs_48 : decode cX7_climbs 48 = .ok (.ireturn, 1) := by decide +kernel
theorem dX7_week_0 : decode cX7_week 0 = .ok (.aload_n 0, 1) := by decide +kernel
theorem dX7_week_1 : decode cX7_week 1 = .ok (.iload_n 1, 1) := by decide +kernel
theorem dX7_week_2 : decode cX7_week 2 = .ok (.iload_n 3, 1) := by decide +kernel
theorem dX7_week_3 : decode cX7_week 3 = .ok (.invokevirtual 295, 3) := by decide +kernel
theorem dX7_week_6 : decode cX7_week 6 = .ok (.ifCond .eq 13, 3) := by decide +kernel
theorem dX7_week_9 : decode cX7_week 9 = .ok (.iload_n 2, 1) := by decide +kernel
theorem dX7_week_10 : decode cX7_week 10 = .ok (.iconst 1, 1) := by decide +kernel
theorem dX7_week_11 : decode cX7_week 11 = .ok (.bipush 10, 2) := by decide +kernel
theorem dX7_week_13 : decode cX7_week 13 = .ok (.invokestatic 93, 3) := by decide +kernel
theorem dX7_week_16 : decode cX7_week 16 = .ok (.ifCond .ne 7, 3) := by decide +kernel
theorem dX7_week_19 : decode cX7_week 19 = .ok (.ldc_w 298, 3) := by decide +kernel
theorem dX7_week_22 : decode cX7_week 22 = .ok (.ireturn, 1) := by decide +kernel
theorem dX7_week_23 : decode cX7_week 23 = .ok (.aload_n 0, 1) := by decide +kernel
theorem dX7_week_24 : decode cX7_week 24 = .ok (.invokevirtual 299, 3) := by decide +kernel
theorem dX7_week_27 : decode cX7_week 27 = .ok (.iconst 1, 1) := by decide +kernel
theorem dX7_week_28 : decode cX7_week 28 = .ok (.istore 4, 2) := by decide +kernel
theorem dX7_week_30 : decode cX7_week 30 = .ok (.iload 4, 2) := by decide +kernel
theorem dX7_week_32 : decode cX7_week 32 = .ok (.iload_n 2, 1) := by decide +kernel
theorem dX7_week_33 : decode cX7_week 33 = .ok (.if_icmp .ge 23, 3) := by decide +kernel
theorem dX7_week_36 : decode cX7_week 36 = .ok (.aload_n 0, 1) := by decide +kernel
theorem dX7_week_37 : decode cX7_week 37 = .ok (.getfield 23, 3) := by decide +kernel
theorem dX7_week_40 : decode cX7_week 40 = .ok (.aload_n 0, 1) := by decide +kernel
theorem dX7_week_41 : decode cX7_week 41 = .ok (.getfield 45, 3) := by decide +kernel
theorem dX7_week_44 : decode cX7_week 44 = .ok (.iload_n 1, 1) := by decide +kernel
theorem dX7_week_45 : decode cX7_week 45 = .ok (.aaload, 1) := by decide +kernel
theorem dX7_week_46 : decode cX7_week 46 = .ok (.invokevirtual 108, 3) := by decide +kernel
theorem dX7_week_49 : decode cX7_week 49 = .ok (.pop, 1) := by decide +kernel
theorem dX7_week_50 : decode cX7_week 50 = .ok (.iinc 4 1, 3) := by decide +kernel
theorem dX7_week_53 : decode cX7_week 53 = .ok (.goto (-23), 3) := by decide +kernel
theorem dX7_week_56 : decode cX7_week 56 = .ok (.aload_n 0, 1) := by decide +kernel
theorem dX7_week_57 : decode cX7_week 57 = .ok (.iload_n 1, 1) := by decide +kernel
theorem dX7_week_58 : decode cX7_week 58 = .ok (.invokevirtual 302, 3) := by decide +kernel
theorem dX7_week_61 : decode cX7_week 61 = .ok (.aload_n 0, 1) := by decide +kernel
theorem dX7_week_62 : decode cX7_week 62 = .ok (.iload_n 3, 1) := by decide +kernel
theorem dX7_week_63 : decode cX7_week 63 = .ok (.invokevirtual 305, 3) := by decide +kernel
theorem dX7_week_66 : decode cX7_week 66 = .ok (.ireturn, 1) := by decide +kernel
theorem dX7_worth_0 : decode cX7_worth 0 = .ok (.aload_n 0, 1) := by decide +kernel
theorem dX7_worth_1 : decode cX7_worth 1 = .ok (.iload_n 1, 1) := by decide +kernel
theorem dX7_worth_2 : decode cX7_worth 2 = .ok (.invokevirtual 105, 3) := by decide +kernel
theorem dX7_worth_5 : decode cX7_worth 5 = .ok (.ifCond .eq 7, 3) := by decide +kernel
theorem dX7_worth_8 : decode cX7_worth 8 = .ok (.ldc_w 298, 3) := by decide +kernel
theorem dX7_worth_11 : decode cX7_worth 11 = .ok (.ireturn, 1) := by decide +kernel
theorem dX7_worth_12 : decode cX7_worth 12 = .ok (.aload_n 0, 1) := by decide +kernel
theorem dX7_worth_13 : decode cX7_worth 13 = .ok (.iload_n 1, 1) := by decide +kernel
theorem dX7_worth_14 : decode cX7_worth 14 = .ok (.iconst 0, 1) := by decide +kernel
theorem dX7_worth_15 : decode cX7_worth 15 = .ok (.invokevirtual 311, 3) := by decide +kernel
theorem dX7_worth_18 : decode cX7_worth 18 = .ok (.aload_n 0, 1) := by decide +kernel
theorem dX7_worth_19 : decode cX7_worth 19 = .ok (.iload_n 1, 1) := by decide +kernel
theorem dX7_worth_20 : decode cX7_worth 20 = .ok (.aload_n 0, 1) := by decide +kernel
theorem dX7_worth_21 : decode cX7_worth 21 = .ok (.getfield 19, 3) := by decide +kernel
theorem dX7_worth_24 : decode cX7_worth 24 = .ok (.getfield 28, 3) := by decide +kernel
theorem dX7_worth_27 : decode cX7_worth 27 = .ok (.getfield 212, 3) := by decide +kernel
theorem dX7_worth_30 : decode cX7_worth 30 = .ok (.invokevirtual 311, 3) := by decide +kernel
theorem dX7_worth_33 : decode cX7_worth 33 = .ok (.isub, 1) := by decide +kernel
theorem dX7_worth_34 : decode cX7_worth 34 = .ok (.ireturn, 1) := by decide +kernel
theorem dX7_best_0 : decode cX7_best 0 = .ok (.aload_n 0, 1) := by decide +kernel
theorem dX7_best_1 : decode cX7_best 1 = .ok (.iload_n 1, 1) := by decide +kernel
theorem dX7_best_2 : decode cX7_best 2 = .ok (.invokevirtual 105, 3) := by decide +kernel
theorem dX7_best_5 : decode cX7_best 5 = .ok (.istore_n 2, 1) := by decide +kernel
theorem dX7_best_6 : decode cX7_best 6 = .ok (.iload_n 2, 1) := by decide +kernel
theorem dX7_best_7 : decode cX7_best 7 = .ok (.ifCond .eq 5, 3) := by decide +kernel
theorem dX7_best_10 : decode cX7_best 10 = .ok (.iload_n 2, 1) := by decide +kernel
theorem dX7_best_11 : decode cX7_best 11 = .ok (.ireturn, 1) := by decide +kernel
theorem dX7_best_12 : decode cX7_best 12 = .ok (.iconst 0, 1) := by decide +kernel
theorem dX7_best_13 : decode cX7_best 13 = .ok (.istore_n 3, 1) := by decide +kernel
theorem dX7_best_14 : decode cX7_best 14 = .ok (.aload_n 0, 1) := by decide +kernel
theorem dX7_best_15 : decode cX7_best 15 = .ok (.iload_n 1, 1) := by decide +kernel
theorem dX7_best_16 : decode cX7_best 16 = .ok (.iconst 0, 1) := by decide +kernel
theorem dX7_best_17 : decode cX7_best 17 = .ok (.invokevirtual 311, 3) := by decide +kernel
theorem dX7_best_20 : decode cX7_best 20 = .ok (.istore 4, 2) := by decide +kernel
theorem dX7_best_22 : decode cX7_best 22 = .ok (.iconst 1, 1) := by decide +kernel
theorem dX7_best_23 : decode cX7_best 23 = .ok (.istore 5, 2) := by decide +kernel
theorem dX7_best_25 : decode cX7_best 25 = .ok (.iload 5, 2) := by decide +kernel
theorem dX7_best_27 : decode cX7_best 27 = .ok (.bipush 20, 2) := by decide +kernel
theorem dX7_best_29 : decode cX7_best 29 = .ok (.if_icmp .gt 32, 3) := by decide +kernel
theorem dX7_best_32 : decode cX7_best 32 = .ok (.aload_n 0, 1) := by decide +kernel
theorem dX7_best_33 : decode cX7_best 33 = .ok (.iload_n 1, 1) := by decide +kernel
theorem dX7_best_34 : decode cX7_best 34 = .ok (.iload 5, 2) := by decide +kernel
theorem dX7_best_36 : decode cX7_best 36 = .ok (.invokevirtual 311, 3) := by decide +kernel
theorem dX7_best_39 : decode cX7_best 39 = .ok (.istore 6, 2) := by decide +kernel
theorem dX7_best_41 : decode cX7_best 41 = .ok (.iload 6, 2) := by decide +kernel
theorem dX7_best_43 : decode cX7_best 43 = .ok (.iload 4, 2) := by decide +kernel
theorem dX7_best_45 : decode cX7_best 45 = .ok (.if_icmp .le 10, 3) := by decide +kernel
theorem dX7_best_48 : decode cX7_best 48 = .ok (.iload 6, 2) := by decide +kernel
theorem dX7_best_50 : decode cX7_best 50 = .ok (.istore 4, 2) := by decide +kernel
theorem dX7_best_52 : decode cX7_best 52 = .ok (.iload 5, 2) := by decide +kernel
theorem dX7_best_54 : decode cX7_best 54 = .ok (.istore_n 3, 1) := by decide +kernel
theorem dX7_best_55 : decode cX7_best 55 = .ok (.iinc 5 1, 3) := by decide +kernel
theorem dX7_best_58 : decode cX7_best 58 = .ok (.goto (-33), 3) := by decide +kernel
theorem dX7_best_61 : decode cX7_best 61 = .ok (.iload_n 3, 1) := by decide +kernel
theorem dX7_best_62 : decode cX7_best 62 = .ok (.ireturn, 1) := by decide +kernel
theorem dX7_most_0 : decode cX7_most 0 = .ok (.aload_n 0, 1) := by decide +kernel
theorem dX7_most_1 : decode cX7_most 1 = .ok (.iload_n 2, 1) := by decide +kernel
theorem dX7_most_2 : decode cX7_most 2 = .ok (.invokevirtual 127, 3) := by decide +kernel
theorem dX7_most_5 : decode cX7_most 5 = .ok (.ifCond .ne 6, 3) := by decide +kernel
theorem dX7_most_8 : decode cX7_most 8 = .ok (.bipush (-2), 2) := by decide +kernel
theorem dX7_most_10 : decode cX7_most 10 = .ok (.ireturn, 1) := by decide +kernel
theorem dX7_most_11 : decode cX7_most 11 = .ok (.aload_n 0, 1) := by decide +kernel
theorem dX7_most_12 : decode cX7_most 12 = .ok (.iload_n 1, 1) := by decide +kernel
theorem dX7_most_13 : decode cX7_most 13 = .ok (.invokevirtual 105, 3) := by decide +kernel
theorem dX7_most_16 : decode cX7_most 16 = .ok (.istore_n 3, 1) := by decide +kernel
theorem dX7_most_17 : decode cX7_most 17 = .ok (.iload_n 3, 1) := by decide +kernel
theorem dX7_most_18 : decode cX7_most 18 = .ok (.ifCond .eq 5, 3) := by decide +kernel
theorem dX7_most_21 : decode cX7_most 21 = .ok (.iload_n 3, 1) := by decide +kernel
theorem dX7_most_22 : decode cX7_most 22 = .ok (.ireturn, 1) := by decide +kernel
theorem dX7_most_23 : decode cX7_most 23 = .ok (.aload_n 0, 1) := by decide +kernel
theorem dX7_most_24 : decode cX7_most 24 = .ok (.getfield 19, 3) := by decide +kernel
theorem dX7_most_27 : decode cX7_most 27 = .ok (.getfield 28, 3) := by decide +kernel
theorem dX7_most_30 : decode cX7_most 30 = .ok (.getfield 138, 3) := by decide +kernel
theorem dX7_most_33 : decode cX7_most 33 = .ok (.iload_n 2, 1) := by decide +kernel
theorem dX7_most_34 : decode cX7_most 34 = .ok (.iaload, 1) := by decide +kernel
theorem dX7_most_35 : decode cX7_most 35 = .ok (.aload_n 0, 1) := by decide +kernel
theorem dX7_most_36 : decode cX7_most 36 = .ok (.getfield 19, 3) := by decide +kernel
theorem dX7_most_39 : decode cX7_most 39 = .ok (.iload_n 2, 1) := by decide +kernel
theorem dX7_most_40 : decode cX7_most 40 = .ok (.invokevirtual 141, 3) := by decide +kernel
theorem dX7_most_43 : decode cX7_most 43 = .ok (.invokestatic 314, 3) := by decide +kernel
theorem dX7_most_46 : decode cX7_most 46 = .ok (.istore 4, 2) := by decide +kernel
theorem dX7_most_48 : decode cX7_most 48 = .ok (.bipush 60, 2) := by decide +kernel
theorem dX7_most_50 : decode cX7_most 50 = .ok (.istore 5, 2) := by decide +kernel
theorem dX7_most_52 : decode cX7_most 52 = .ok (.iload 5, 2) := by decide +kernel
theorem dX7_most_54 : decode cX7_most 54 = .ok (.ifCond .lt 32, 3) := by decide +kernel
theorem dX7_most_57 : decode cX7_most 57 = .ok (.aload_n 0, 1) := by decide +kernel
theorem dX7_most_58 : decode cX7_most 58 = .ok (.iload_n 1, 1) := by decide +kernel
theorem dX7_most_59 : decode cX7_most 59 = .ok (.iload 5, 2) := by decide +kernel
theorem dX7_most_61 : decode cX7_most 61 = .ok (.invokevirtual 317, 3) := by decide +kernel
theorem dX7_most_64 : decode cX7_most 64 = .ok (.aload_n 0, 1) := by decide +kernel
theorem dX7_most_65 : decode cX7_most 65 = .ok (.getfield 23, 3) := by decide +kernel
theorem dX7_most_68 : decode cX7_most 68 = .ok (.iload_n 2, 1) := by decide +kernel
theorem dX7_most_69 : decode cX7_most 69 = .ok (.invokevirtual 141, 3) := by decide +kernel
theorem dX7_most_72 : decode cX7_most 72 = .ok (.iload 4, 2) := by decide +kernel
theorem dX7_most_74 : decode cX7_most 74 = .ok (.if_icmp .gt 6, 3) := by decide +kernel
theorem dX7_most_77 : decode cX7_most 77 = .ok (.iload 5, 2) := by decide +kernel
theorem dX7_most_79 : decode cX7_most 79 = .ok (.ireturn, 1) := by decide +kernel
theorem dX7_most_80 : decode cX7_most 80 = .ok (.iinc 5 (-1), 3) := by decide +kernel
theorem dX7_most_83 : decode cX7_most 83 = .ok (.goto (-31), 3) := by decide +kernel
theorem dX7_most_86 : decode cX7_most 86 = .ok (.iconst (-1), 1) := by decide +kernel
theorem dX7_most_87 : decode cX7_most 87 = .ok (.ireturn, 1) := by decide +kernel
theorem dX7_rule_0 : decode cX7_rule 0 = .ok (.aload_n 0, 1) := by decide +kernel
theorem dX7_rule_1 : decode cX7_rule 1 = .ok (.iload_n 1, 1) := by decide +kernel
theorem dX7_rule_2 : decode cX7_rule 2 = .ok (.invokevirtual 105, 3) := by decide +kernel
theorem dX7_rule_5 : decode cX7_rule 5 = .ok (.istore_n 2, 1) := by decide +kernel
theorem dX7_rule_6 : decode cX7_rule 6 = .ok (.iload_n 2, 1) := by decide +kernel
theorem dX7_rule_7 : decode cX7_rule 7 = .ok (.ifCond .eq 5, 3) := by decide +kernel
theorem dX7_rule_10 : decode cX7_rule 10 = .ok (.iload_n 2, 1) := by decide +kernel
theorem dX7_rule_11 : decode cX7_rule 11 = .ok (.ireturn, 1) := by decide +kernel
theorem dX7_rule_12 : decode cX7_rule 12 = .ok (.iconst (-1), 1) := by decide +kernel
theorem dX7_rule_13 : decode cX7_rule 13 = .ok (.istore_n 3, 1) := by decide +kernel
theorem dX7_rule_14 : decode cX7_rule 14 = .ok (.iconst (-1), 1) := by decide +kernel
theorem dX7_rule_15 : decode cX7_rule 15 = .ok (.istore 4, 2) := by decide +kernel
theorem dX7_rule_17 : decode cX7_rule 17 = .ok (.iconst 0, 1) := by decide +kernel
theorem dX7_rule_18 : decode cX7_rule 18 = .ok (.istore 5, 2) := by decide +kernel
theorem dX7_rule_20 : decode cX7_rule 20 = .ok (.iload 5, 2) := by decide +kernel
theorem dX7_rule_22 : decode cX7_rule 22 = .ok (.bipush 9, 2) := by decide +kernel
theorem dX7_rule_24 : decode cX7_rule 24 = .ok (.if_icmp .gt 92, 3) := by decide +kernel
theorem dX7_rule_27 : decode cX7_rule 27 = .ok (.iconst 0, 1) := by decide +kernel
theorem dX7_rule_28 : decode cX7_rule 28 = .ok (.istore 6, 2) := by decide +kernel
theorem dX7_rule_30 : decode cX7_rule 30 = .ok (.iload 6, 2) := by decide +kernel
theorem dX7_rule_32 : decode cX7_rule 32 = .ok (.bipush 60, 2) := by decide +kernel
theorem dX7_rule_34 : decode cX7_rule 34 = .ok (.if_icmp .gt 76, 3) := by decide +kernel
theorem dX7_rule_37 : decode cX7_rule 37 = .ok (.aload_n 0, 1) := by decide +kernel
theorem dX7_rule_38 : decode cX7_rule 38 = .ok (.invokevirtual 299, 3) := by decide +kernel
theorem dX7_rule_41 : decode cX7_rule 41 = .ok (.aload_n 0, 1) := by decide +kernel
theorem dX7_rule_42 : decode cX7_rule 42 = .ok (.getfield 23, 3) := by decide +kernel
theorem dX7_rule_45 : decode cX7_rule 45 = .ok (.getfield 28, 3) := by decide +kernel
theorem dX7_rule_48 : decode cX7_rule 48 = .ok (.invokevirtual 321, 3) := by decide +kernel
theorem dX7_rule_51 : decode cX7_rule 51 = .ok (.aload_n 0, 1) := by decide +kernel
theorem dX7_rule_52 : decode cX7_rule 52 = .ok (.getfield 23, 3) := by decide +kernel
theorem dX7_rule_55 : decode cX7_rule 55 = .ok (.getfield 28, 3) := by decide +kernel
theorem dX7_rule_58 : decode cX7_rule 58 = .ok (.iload 5, 2) := by decide +kernel
theorem dX7_rule_60 : decode cX7_rule 60 = .ok (.iload 6, 2) := by decide +kernel
theorem dX7_rule_62 : decode cX7_rule 62 = .ok (.invokevirtual 324, 3) := by decide +kernel
theorem dX7_rule_65 : decode cX7_rule 65 = .ok (.aload_n 0, 1) := by decide +kernel
theorem dX7_rule_66 : decode cX7_rule 66 = .ok (.iload_n 1, 1) := by decide +kernel
theorem dX7_rule_67 : decode cX7_rule 67 = .ok (.invokevirtual 302, 3) := by decide +kernel
theorem dX7_rule_70 : decode cX7_rule 70 = .ok (.aload_n 0, 1) := by decide +kernel
theorem dX7_rule_71 : decode cX7_rule 71 = .ok (.iconst 0, 1) := by decide +kernel
theorem dX7_rule_72 : decode cX7_rule 72 = .ok (.invokevirtual 305, 3) := by decide +kernel
theorem dX7_rule_75 : decode cX7_rule 75 = .ok (.iload 4, 2) := by decide +kernel
theorem dX7_rule_77 : decode cX7_rule 77 = .ok (.if_icmp .le 27, 3) := by decide +kernel
theorem dX7_rule_80 : decode cX7_rule 80 = .ok (.aload_n 0, 1) := by decide +kernel
theorem dX7_rule_81 : decode cX7_rule 81 = .ok (.iconst 3, 1) := by decide +kernel
theorem dX7_rule_82 : decode cX7_rule 82 = .ok (.invokevirtual 305, 3) := by decide +kernel
theorem dX7_rule_85 : decode cX7_rule 85 = .ok (.ifCond .ne 19, 3) := by decide +kernel
theorem dX7_rule_88 : decode cX7_rule 88 = .ok (.aload_n 0, 1) := by decide +kernel
theorem dX7_rule_89 : decode cX7_rule 89 = .ok (.iconst 0, 1) := by decide +kernel
theorem dX7_rule_90 : decode cX7_rule 90 = .ok (.invokevirtual 305, 3) := by decide +kernel
theorem dX7_rule_93 : decode cX7_rule 93 = .ok (.istore 4, 2) := by decide +kernel
theorem dX7_rule_95 : decode cX7_rule 95 = .ok (.bipush 100, 2) := by decide +kernel
theorem dX7_rule_97 : decode cX7_rule 97 = .ok (.iload 5, 2) := by decide +kernel
theorem dX7_rule_99 : decode cX7_rule 99 = .ok (.imul, 1) := by decide +kernel
theorem dX7_rule_100 : decode cX7_rule 100 = .ok (.iload 6, 2) := by decide +kernel
theorem dX7_rule_102 : decode cX7_rule 102 = .ok (.iadd, 1) := by decide +kernel
theorem dX7_rule_103 : decode cX7_rule 103 = .ok (.istore_n 3, 1) := by decide +kernel
theorem dX7_rule_104 : decode cX7_rule 104 = .ok (.iinc 6 10, 3) := by decide +kernel
theorem dX7_rule_107 : decode cX7_rule 107 = .ok (.goto (-77), 3) := by decide +kernel
theorem dX7_rule_110 : decode cX7_rule 110 = .ok (.iinc 5 1, 3) := by decide +kernel
theorem dX7_rule_113 : decode cX7_rule 113 = .ok (.goto (-93), 3) := by decide +kernel
theorem dX7_rule_116 : decode cX7_rule 116 = .ok (.iload_n 3, 1) := by decide +kernel
theorem dX7_rule_117 : decode cX7_rule 117 = .ok (.ireturn, 1) := by decide +kernel
theorem dX7_half_0 : decode cX7_half 0 = .ok (.iload_n 2, 1) := by decide +kernel
theorem dX7_half_1 : decode cX7_half 1 = .ok (.iconst 0, 1) := by decide +kernel
theorem dX7_half_2 : decode cX7_half 2 = .ok (.sipush 9999, 3) := by decide +kernel
theorem dX7_half_5 : decode cX7_half 5 = .ok (.invokestatic 93, 3) := by decide +kernel
theorem dX7_half_8 : decode cX7_half 8 = .ok (.ifCond .ne 6, 3) := by decide +kernel
theorem dX7_half_11 : decode cX7_half 11 = .ok (.bipush (-2), 2) := by decide +kernel
theorem dX7_half_13 : decode cX7_half 13 = .ok (.ireturn, 1) := by decide +kernel
theorem dX7_half_14 : decode cX7_half 14 = .ok (.aload_n 0, 1) := by decide +kernel
theorem dX7_half_15 : decode cX7_half 15 = .ok (.iload_n 1, 1) := by decide +kernel
theorem dX7_half_16 : decode cX7_half 16 = .ok (.invokevirtual 105, 3) := by decide +kernel
theorem dX7_half_19 : decode cX7_half 19 = .ok (.istore_n 3, 1) := by decide +kernel
theorem dX7_half_20 : decode cX7_half 20 = .ok (.iload_n 3, 1) := by decide +kernel
theorem dX7_half_21 : decode cX7_half 21 = .ok (.ifCond .eq 5, 3) := by decide +kernel
theorem dX7_half_24 : decode cX7_half 24 = .ok (.iload_n 3, 1) := by decide +kernel
theorem dX7_half_25 : decode cX7_half 25 = .ok (.ireturn, 1) := by decide +kernel
theorem dX7_half_26 : decode cX7_half 26 = .ok (.iconst 0, 1) := by decide +kernel
theorem dX7_half_27 : decode cX7_half 27 = .ok (.istore 4, 2) := by decide +kernel
theorem dX7_half_29 : decode cX7_half 29 = .ok (.iload 4, 2) := by decide +kernel
theorem dX7_half_31 : decode cX7_half 31 = .ok (.bipush 9, 2) := by decide +kernel
theorem dX7_half_33 : decode cX7_half 33 = .ok (.if_icmp .gt 41, 3) := by decide +kernel
theorem dX7_half_36 : decode cX7_half 36 = .ok (.aload_n 0, 1) := by decide +kernel
theorem dX7_half_37 : decode cX7_half 37 = .ok (.invokevirtual 299, 3) := by decide +kernel
theorem dX7_half_40 : decode cX7_half 40 = .ok (.aload_n 0, 1) := by decide +kernel
theorem dX7_half_41 : decode cX7_half 41 = .ok (.getfield 23, 3) := by decide +kernel
theorem dX7_half_44 : decode cX7_half 44 = .ok (.getfield 28, 3) := by decide +kernel
theorem dX7_half_47 : decode cX7_half 47 = .ok (.iload 4, 2) := by decide +kernel
theorem dX7_half_49 : decode cX7_half 49 = .ok (.putfield 208, 3) := by decide +kernel
theorem dX7_half_52 : decode cX7_half 52 = .ok (.aload_n 0, 1) := by decide +kernel
theorem dX7_half_53 : decode cX7_half 53 = .ok (.iload_n 1, 1) := by decide +kernel
theorem dX7_half_54 : decode cX7_half 54 = .ok (.invokevirtual 302, 3) := by decide +kernel
theorem dX7_half_57 : decode cX7_half 57 = .ok (.aload_n 0, 1) := by decide +kernel
theorem dX7_half_58 : decode cX7_half 58 = .ok (.invokevirtual 327, 3) := by decide +kernel
theorem dX7_half_61 : decode cX7_half 61 = .ok (.iload_n 2, 1) := by decide +kernel
theorem dX7_half_62 : decode cX7_half 62 = .ok (.if_icmp .gt 6, 3) := by decide +kernel
theorem dX7_half_65 : decode cX7_half 65 = .ok (.iload 4, 2) := by decide +kernel
theorem dX7_half_67 : decode cX7_half 67 = .ok (.ireturn, 1) := by decide +kernel
theorem dX7_half_68 : decode cX7_half 68 = .ok (.iinc 4 1, 3) := by decide +kernel
theorem dX7_half_71 : decode cX7_half 71 = .ok (.goto (-42), 3) := by decide +kernel
theorem dX7_half_74 : decode cX7_half 74 = .ok (.iconst (-1), 1) := by decide +kernel
theorem dX7_half_75 : decode cX7_half 75 = .ok (.ireturn, 1) := by decide +kernel
theorem dX7_tall_0 : decode cX7_tall 0 = .ok (.iload_n 2, 1) := by decide +kernel
theorem dX7_tall_1 : decode cX7_tall 1 = .ok (.iconst 0, 1) := by decide +kernel
theorem dX7_tall_2 : decode cX7_tall 2 = .ok (.sipush 9999, 3) := by decide +kernel
theorem dX7_tall_5 : decode cX7_tall 5 = .ok (.invokestatic 93, 3) := by decide +kernel
theorem dX7_tall_8 : decode cX7_tall 8 = .ok (.ifCond .ne 6, 3) := by decide +kernel
theorem dX7_tall_11 : decode cX7_tall 11 = .ok (.bipush (-2), 2) := by decide +kernel
theorem dX7_tall_13 : decode cX7_tall 13 = .ok (.ireturn, 1) := by decide +kernel
theorem dX7_tall_14 : decode cX7_tall 14 = .ok (.aload_n 0, 1) := by decide +kernel
theorem dX7_tall_15 : decode cX7_tall 15 = .ok (.iload_n 1, 1) := by decide +kernel
theorem dX7_tall_16 : decode cX7_tall 16 = .ok (.invokevirtual 105, 3) := by decide +kernel
theorem dX7_tall_19 : decode cX7_tall 19 = .ok (.istore_n 3, 1) := by decide +kernel
theorem dX7_tall_20 : decode cX7_tall 20 = .ok (.iload_n 3, 1) := by decide +kernel
theorem dX7_tall_21 : decode cX7_tall 21 = .ok (.ifCond .eq 5, 3) := by decide +kernel
theorem dX7_tall_24 : decode cX7_tall 24 = .ok (.iload_n 3, 1) := by decide +kernel
theorem dX7_tall_25 : decode cX7_tall 25 = .ok (.ireturn, 1) := by decide +kernel
theorem dX7_tall_26 : decode cX7_tall 26 = .ok (.iconst (-1), 1) := by decide +kernel
theorem dX7_tall_27 : decode cX7_tall 27 = .ok (.istore 4, 2) := by decide +kernel
theorem dX7_tall_29 : decode cX7_tall 29 = .ok (.iconst (-1), 1) := by decide +kernel
theorem dX7_tall_30 : decode cX7_tall 30 = .ok (.istore 5, 2) := by decide +kernel
theorem dX7_tall_32 : decode cX7_tall 32 = .ok (.iconst 0, 1) := by decide +kernel
theorem dX7_tall_33 : decode cX7_tall 33 = .ok (.istore 6, 2) := by decide +kernel
theorem dX7_tall_35 : decode cX7_tall 35 = .ok (.iload 6, 2) := by decide +kernel
theorem dX7_tall_37 : decode cX7_tall 37 = .ok (.bipush 60, 2) := by decide +kernel
theorem dX7_tall_39 : decode cX7_tall 39 = .ok (.if_icmp .gt 45, 3) := by decide +kernel
theorem dX7_tall_42 : decode cX7_tall 42 = .ok (.aload_n 0, 1) := by decide +kernel
theorem dX7_tall_43 : decode cX7_tall 43 = .ok (.iload_n 1, 1) := by decide +kernel
theorem dX7_tall_44 : decode cX7_tall 44 = .ok (.iload 6, 2) := by decide +kernel
theorem dX7_tall_46 : decode cX7_tall 46 = .ok (.invokevirtual 317, 3) := by decide +kernel
theorem dX7_tall_49 : decode cX7_tall 49 = .ok (.aload_n 0, 1) := by decide +kernel
theorem dX7_tall_50 : decode cX7_tall 50 = .ok (.invokevirtual 327, 3) := by decide +kernel
theorem dX7_tall_53 : decode cX7_tall 53 = .ok (.iload_n 2, 1) := by decide +kernel
theorem dX7_tall_54 : decode cX7_tall 54 = .ok (.if_icmp .gt 24, 3) := by decide +kernel
theorem dX7_tall_57 : decode cX7_tall 57 = .ok (.aload_n 0, 1) := by decide +kernel
theorem dX7_tall_58 : decode cX7_tall 58 = .ok (.iconst 0, 1) := by decide +kernel
theorem dX7_tall_59 : decode cX7_tall 59 = .ok (.invokevirtual 305, 3) := by decide +kernel
theorem dX7_tall_62 : decode cX7_tall 62 = .ok (.iload 5, 2) := by decide +kernel
theorem dX7_tall_64 : decode cX7_tall 64 = .ok (.if_icmp .le 14, 3) := by decide +kernel
theorem dX7_tall_67 : decode cX7_tall 67 = .ok (.aload_n 0, 1) := by decide +kernel
theorem dX7_tall_68 : decode cX7_tall 68 = .ok (.iconst 0, 1) := by decide +kernel
theorem dX7_tall_69 : decode cX7_tall 69 = .ok (.invokevirtual 305, 3) := by decide +kernel
theorem dX7_tall_72 : decode cX7_tall 72 = .ok (.istore 5, 2) := by decide +kernel
theorem dX7_tall_74 : decode cX7_tall 74 = .ok (.iload 6, 2) := by decide +kernel
theorem dX7_tall_76 : decode cX7_tall 76 = .ok (.istore 4, 2) := by decide +kernel
theorem dX7_tall_78 : decode cX7_tall 78 = .ok (.iinc 6 1, 3) := by decide +kernel
theorem dX7_tall_81 : decode cX7_tall 81 = .ok (.goto (-46), 3) := by decide +kernel
theorem dX7_tall_84 : decode cX7_tall 84 = .ok (.iload 4, 2) := by decide +kernel
theorem dX7_tall_86 : decode cX7_tall 86 = .ok (.ireturn, 1) := by decide +kernel
theorem dX7_pays_0 : decode cX7_pays 0 = .ok (.iload_n 2, 1) := by decide +kernel
theorem dX7_pays_1 : decode cX7_pays 1 = .ok (.iconst 0, 1) := by decide +kernel
theorem dX7_pays_2 : decode cX7_pays 2 = .ok (.bipush 99, 2) := by decide +kernel
theorem dX7_pays_4 : decode cX7_pays 4 = .ok (.invokestatic 93, 3) := by decide +kernel
theorem dX7_pays_7 : decode cX7_pays 7 = .ok (.ifCond .ne 6, 3) := by decide +kernel
theorem dX7_pays_10 : decode cX7_pays 10 = .ok (.bipush (-2), 2) := by decide +kernel
theorem dX7_pays_12 : decode cX7_pays 12 = .ok (.ireturn, 1) := by decide +kernel
theorem dX7_pays_13 : decode cX7_pays 13 = .ok (.aload_n 0, 1) := by decide +kernel
theorem dX7_pays_14 : decode cX7_pays 14 = .ok (.iload_n 1, 1) := by decide +kernel
theorem dX7_pays_15 : decode cX7_pays 15 = .ok (.invokevirtual 105, 3) := by decide +kernel
theorem dX7_pays_18 : decode cX7_pays 18 = .ok (.istore_n 3, 1) := by decide +kernel
theorem dX7_pays_19 : decode cX7_pays 19 = .ok (.iload_n 3, 1) := by decide +kernel
theorem dX7_pays_20 : decode cX7_pays 20 = .ok (.ifCond .eq 5, 3) := by decide +kernel
theorem dX7_pays_23 : decode cX7_pays 23 = .ok (.iload_n 3, 1) := by decide +kernel
theorem dX7_pays_24 : decode cX7_pays 24 = .ok (.ireturn, 1) := by decide +kernel
theorem dX7_pays_25 : decode cX7_pays 25 = .ok (.iconst (-1), 1) := by decide +kernel
theorem dX7_pays_26 : decode cX7_pays 26 = .ok (.istore 4, 2) := by decide +kernel
theorem dX7_pays_28 : decode cX7_pays 28 = .ok (.iconst 0, 1) := by decide +kernel
theorem dX7_pays_29 : decode cX7_pays 29 = .ok (.istore 5, 2) := by decide +kernel
theorem dX7_pays_31 : decode cX7_pays 31 = .ok (.iconst 0, 1) := by decide +kernel
theorem dX7_pays_32 : decode cX7_pays 32 = .ok (.istore 6, 2) := by decide +kernel
theorem dX7_pays_34 : decode cX7_pays 34 = .ok (.iload 6, 2) := by decide +kernel
theorem dX7_pays_36 : decode cX7_pays 36 = .ok (.bipush 60, 2) := by decide +kernel
theorem dX7_pays_38 : decode cX7_pays 38 = .ok (.if_icmp .gt 52, 3) := by decide +kernel
theorem dX7_pays_41 : decode cX7_pays 41 = .ok (.aload_n 0, 1) := by decide +kernel
theorem dX7_pays_42 : decode cX7_pays 42 = .ok (.iload_n 1, 1) := by decide +kernel
theorem dX7_pays_43 : decode cX7_pays 43 = .ok (.iload 6, 2) := by decide +kernel
theorem dX7_pays_45 : decode cX7_pays 45 = .ok (.invokevirtual 317, 3) := by decide +kernel
theorem dX7_pays_48 : decode cX7_pays 48 = .ok (.aload_n 0, 1) := by decide +kernel
theorem dX7_pays_49 : decode cX7_pays 49 = .ok (.iconst 0, 1) := by decide +kernel
theorem dX7_pays_50 : decode cX7_pays 50 = .ok (.invokevirtual 305, 3) := by decide +kernel
theorem dX7_pays_53 : decode cX7_pays 53 = .ok (.iload_n 2, 1) := by decide +kernel
theorem dX7_pays_54 : decode cX7_pays 54 = .ok (.aload_n 0, 1) := by decide +kernel
theorem dX7_pays_55 : decode cX7_pays 55 = .ok (.iconst 1, 1) := by decide +kernel
theorem dX7_pays_56 : decode cX7_pays 56 = .ok (.invokevirtual 305, 3) := by decide +kernel
theorem dX7_pays_59 : decode cX7_pays 59 = .ok (.imul, 1) := by decide +kernel
theorem dX7_pays_60 : decode cX7_pays 60 = .ok (.isub, 1) := by decide +kernel
theorem dX7_pays_61 : decode cX7_pays 61 = .ok (.istore 7, 2) := by decide +kernel
theorem dX7_pays_63 : decode cX7_pays 63 = .ok (.iload 4, 2) := by decide +kernel
theorem dX7_pays_65 : decode cX7_pays 65 = .ok (.iconst (-1), 1) := by decide +kernel
theorem dX7_pays_66 : decode cX7_pays 66 = .ok (.if_icmp .eq 10, 3) := by decide +kernel
theorem dX7_pays_69 : decode cX7_pays 69 = .ok (.iload 7, 2) := by decide +kernel
theorem dX7_pays_71 : decode cX7_pays 71 = .ok (.iload 5, 2) := by decide +kernel
theorem dX7_pays_73 : decode cX7_pays 73 = .ok (.if_icmp .le 11, 3) := by decide +kernel
theorem dX7_pays_76 : decode cX7_pays 76 = .ok (.iload 7, 2) := by decide +kernel
theorem dX7_pays_78 : decode cX7_pays 78 = .ok (.istore 5, 2) := by decide +kernel
theorem dX7_pays_80 : decode cX7_pays 80 = .ok (.iload 6, 2) := by decide +kernel
theorem dX7_pays_82 : decode cX7_pays 82 = .ok (.istore 4, 2) := by decide +kernel
theorem dX7_pays_84 : decode cX7_pays 84 = .ok (.iinc 6 1, 3) := by decide +kernel
theorem dX7_pays_87 : decode cX7_pays 87 = .ok (.goto (-53), 3) := by decide +kernel
theorem dX7_pays_90 : decode cX7_pays 90 = .ok (.iload 4, 2) := by decide +kernel
theorem dX7_pays_92 : decode cX7_pays 92 = .ok (.ireturn, 1) := by decide +kernel
theorem dX7_stand_0 : decode cX7_stand 0 = .ok (.iload_n 2, 1) := by decide +kernel
theorem dX7_stand_1 : decode cX7_stand 1 = .ok (.iconst 0, 1) := by decide +kernel
theorem dX7_stand_2 : decode cX7_stand 2 = .ok (.iconst 3, 1) := by decide +kernel
theorem dX7_stand_3 : decode cX7_stand 3 = .ok (.invokestatic 93, 3) := by decide +kernel
theorem dX7_stand_6 : decode cX7_stand 6 = .ok (.ifCond .ne 6, 3) := by decide +kernel
theorem dX7_stand_9 : decode cX7_stand 9 = .ok (.bipush (-2), 2) := by decide +kernel
theorem dX7_stand_11 : decode cX7_stand 11 = .ok (.ireturn, 1) := by decide +kernel
theorem dX7_stand_12 : decode cX7_stand 12 = .ok (.aload_n 0, 1) := by decide +kernel
theorem dX7_stand_13 : decode cX7_stand 13 = .ok (.iload_n 1, 1) := by decide +kernel
theorem dX7_stand_14 : decode cX7_stand 14 = .ok (.invokevirtual 105, 3) := by decide +kernel
theorem dX7_stand_17 : decode cX7_stand 17 = .ok (.istore_n 3, 1) := by decide +kernel
theorem dX7_stand_18 : decode cX7_stand 18 = .ok (.iload_n 3, 1) := by decide +kernel
theorem dX7_stand_19 : decode cX7_stand 19 = .ok (.ifCond .eq 5, 3) := by decide +kernel
theorem dX7_stand_22 : decode cX7_stand 22 = .ok (.iload_n 3, 1) := by decide +kernel
theorem dX7_stand_23 : decode cX7_stand 23 = .ok (.ireturn, 1) := by decide +kernel
theorem dX7_stand_24 : decode cX7_stand 24 = .ok (.iconst (-1), 1) := by decide +kernel
theorem dX7_stand_25 : decode cX7_stand 25 = .ok (.istore 4, 2) := by decide +kernel
theorem dX7_stand_27 : decode cX7_stand 27 = .ok (.iconst 0, 1) := by decide +kernel
theorem dX7_stand_28 : decode cX7_stand 28 = .ok (.istore 5, 2) := by decide +kernel
theorem dX7_stand_30 : decode cX7_stand 30 = .ok (.aload_n 0, 1) := by decide +kernel
theorem dX7_stand_31 : decode cX7_stand 31 = .ok (.getfield 19, 3) := by decide +kernel
theorem dX7_stand_34 : decode cX7_stand 34 = .ok (.getfield 28, 3) := by decide +kernel
theorem dX7_stand_37 : decode cX7_stand 37 = .ok (.getfield 240, 3) := by decide +kernel
theorem dX7_stand_40 : decode cX7_stand 40 = .ok (.iload_n 2, 1) := by decide +kernel
theorem dX7_stand_41 : decode cX7_stand 41 = .ok (.isub, 1) := by decide +kernel
theorem dX7_stand_42 : decode cX7_stand 42 = .ok (.istore 6, 2) := by decide +kernel
theorem dX7_stand_44 : decode cX7_stand 44 = .ok (.iload 6, 2) := by decide +kernel
theorem dX7_stand_46 : decode cX7_stand 46 = .ok (.aload_n 0, 1) := by decide +kernel
theorem dX7_stand_47 : decode cX7_stand 47 = .ok (.getfield 19, 3) := by decide +kernel
theorem dX7_stand_50 : decode cX7_stand 50 = .ok (.getfield 28, 3) := by decide +kernel
theorem dX7_stand_53 : decode cX7_stand 53 = .ok (.getfield 240, 3) := by decide +kernel
theorem dX7_stand_56 : decode cX7_stand 56 = .ok (.iload_n 2, 1) := by decide +kernel
theorem dX7_stand_57 : decode cX7_stand 57 = .ok (.iadd, 1) := by decide +kernel
theorem dX7_stand_58 : decode cX7_stand 58 = .ok (.if_icmp .gt 100, 3) := by decide +kernel
theorem dX7_stand_61 : decode cX7_stand 61 = .ok (.aload_n 0, 1) := by decide +kernel
theorem dX7_stand_62 : decode cX7_stand 62 = .ok (.getfield 19, 3) := by decide +kernel
theorem dX7_stand_65 : decode cX7_stand 65 = .ok (.getfield 28, 3) := by decide +kernel
theorem dX7_stand_68 : decode cX7_stand 68 = .ok (.getfield 234, 3) := by decide +kernel
theorem dX7_stand_71 : decode cX7_stand 71 = .ok (.iload_n 2, 1) := by decide +kernel
theorem dX7_stand_72 : decode cX7_stand 72 = .ok (.isub, 1) := by decide +kernel
theorem dX7_stand_73 : decode cX7_stand 73 = .ok (.istore 7, 2) := by decide +kernel
theorem dX7_stand_75 : decode cX7_stand 75 = .ok (.iload 7, 2) := by decide +kernel
theorem dX7_stand_77 : decode cX7_stand 77 = .ok (.aload_n 0, 1) := by decide +kernel
theorem dX7_stand_78 : decode cX7_stand 78 = .ok (.getfield 19, 3) := by decide +kernel
theorem dX7_stand_81 : decode cX7_stand 81 = .ok (.getfield 28, 3) := by decide +kernel
theorem dX7_stand_84 : decode cX7_stand 84 = .ok (.getfield 234, 3) := by decide +kernel
theorem dX7_stand_87 : decode cX7_stand 87 = .ok (.iload_n 2, 1) := by decide +kernel
theorem dX7_stand_88 : decode cX7_stand 88 = .ok (.iadd, 1) := by decide +kernel
theorem dX7_stand_89 : decode cX7_stand 89 = .ok (.if_icmp .gt 63, 3) := by decide +kernel
theorem dX7_stand_92 : decode cX7_stand 92 = .ok (.aload_n 0, 1) := by decide +kernel
theorem dX7_stand_93 : decode cX7_stand 93 = .ok (.getfield 19, 3) := by decide +kernel
theorem dX7_stand_96 : decode cX7_stand 96 = .ok (.getfield 28, 3) := by decide +kernel
theorem dX7_stand_99 : decode cX7_stand 99 = .ok (.iload 7, 2) := by decide +kernel
theorem dX7_stand_101 : decode cX7_stand 101 = .ok (.iload 6, 2) := by decide +kernel
theorem dX7_stand_103 : decode cX7_stand 103 = .ok (.invokevirtual 120, 3) := by decide +kernel
theorem dX7_stand_106 : decode cX7_stand 106 = .ok (.ifCond .eq 40, 3) := by decide +kernel
theorem dX7_stand_109 : decode cX7_stand 109 = .ok (.aload_n 0, 1) := by decide +kernel
theorem dX7_stand_110 : decode cX7_stand 110 = .ok (.iload_n 1, 1) := by decide +kernel
theorem dX7_stand_111 : decode cX7_stand 111 = .ok (.iload 7, 2) := by decide +kernel
theorem dX7_stand_113 : decode cX7_stand 113 = .ok (.iload 6, 2) := by decide +kernel
theorem dX7_stand_115 : decode cX7_stand 115 = .ok (.invokevirtual 330, 3) := by decide +kernel
theorem dX7_stand_118 : decode cX7_stand 118 = .ok (.istore 8, 2) := by decide +kernel
theorem dX7_stand_120 : decode cX7_stand 120 = .ok (.iload 4, 2) := by decide +kernel
theorem dX7_stand_122 : decode cX7_stand 122 = .ok (.iconst (-1), 1) := by decide +kernel
theorem dX7_stand_123 : decode cX7_stand 123 = .ok (.if_icmp .eq 10, 3) := by decide +kernel
theorem dX7_stand_126 : decode cX7_stand 126 = .ok (.iload 8, 2) := by decide +kernel
theorem dX7_stand_128 : decode cX7_stand 128 = .ok (.iload 5, 2) := by decide +kernel
theorem dX7_stand_130 : decode cX7_stand 130 = .ok (.if_icmp .ge 16, 3) := by decide +kernel
theorem dX7_stand_133 : decode cX7_stand 133 = .ok (.iload 8, 2) := by decide +kernel
theorem dX7_stand_135 : decode cX7_stand 135 = .ok (.istore 5, 2) := by decide +kernel
theorem dX7_stand_137 : decode cX7_stand 137 = .ok (.iload 7, 2) := by decide +kernel
theorem dX7_stand_139 : decode cX7_stand 139 = .ok (.iload 6, 2) := by decide +kernel
theorem dX7_stand_141 : decode cX7_stand 141 = .ok (.invokestatic 196, 3) := by decide +kernel
theorem dX7_stand_144 : decode cX7_stand 144 = .ok (.istore 4, 2) := by decide +kernel
theorem dX7_stand_146 : decode cX7_stand 146 = .ok (.iinc 7 1, 3) := by decide +kernel
theorem dX7_stand_149 : decode cX7_stand 149 = .ok (.goto (-74), 3) := by decide +kernel
theorem dX7_stand_152 : decode cX7_stand 152 = .ok (.iinc 6 1, 3) := by decide +kernel
theorem dX7_stand_155 : decode cX7_stand 155 = .ok (.goto (-111), 3) := by decide +kernel
theorem dX7_stand_158 : decode cX7_stand 158 = .ok (.iload 4, 2) := by decide +kernel
theorem dX7_stand_160 : decode cX7_stand 160 = .ok (.ireturn, 1) := by decide +kernel
theorem dX7_dry_0 : decode cX7_dry 0 = .ok (.aload_n 0, 1) := by decide +kernel
theorem dX7_dry_1 : decode cX7_dry 1 = .ok (.iload_n 1, 1) := by decide +kernel
theorem dX7_dry_2 : decode cX7_dry 2 = .ok (.invokevirtual 105, 3) := by decide +kernel
theorem dX7_dry_5 : decode cX7_dry 5 = .ok (.istore_n 2, 1) := by decide +kernel
theorem dX7_dry_6 : decode cX7_dry 6 = .ok (.iload_n 2, 1) := by decide +kernel
theorem dX7_dry_7 : decode cX7_dry 7 = .ok (.ifCond .eq 5, 3) := by decide +kernel
theorem dX7_dry_10 : decode cX7_dry 10 = .ok (.iload_n 2, 1) := by decide +kernel
theorem dX7_dry_11 : decode cX7_dry 11 = .ok (.ireturn, 1) := by decide +kernel
theorem dX7_dry_12 : decode cX7_dry 12 = .ok (.aload_n 0, 1) := by decide +kernel
theorem dX7_dry_13 : decode cX7_dry 13 = .ok (.invokevirtual 299, 3) := by decide +kernel
theorem dX7_dry_16 : decode cX7_dry 16 = .ok (.aload_n 0, 1) := by decide +kernel
theorem dX7_dry_17 : decode cX7_dry 17 = .ok (.iload_n 1, 1) := by decide +kernel
theorem dX7_dry_18 : decode cX7_dry 18 = .ok (.invokevirtual 302, 3) := by decide +kernel
theorem dX7_dry_21 : decode cX7_dry 21 = .ok (.iconst 0, 1) := by decide +kernel
theorem dX7_dry_22 : decode cX7_dry 22 = .ok (.istore_n 3, 1) := by decide +kernel
theorem dX7_dry_23 : decode cX7_dry 23 = .ok (.iconst 0, 1) := by decide +kernel
theorem dX7_dry_24 : decode cX7_dry 24 = .ok (.istore 4, 2) := by decide +kernel
theorem dX7_dry_26 : decode cX7_dry 26 = .ok (.iload 4, 2) := by decide +kernel
theorem dX7_dry_28 : decode cX7_dry 28 = .ok (.aload_n 0, 1) := by decide +kernel
theorem dX7_dry_29 : decode cX7_dry 29 = .ok (.getfield 19, 3) := by decide +kernel
theorem dX7_dry_32 : decode cX7_dry 32 = .ok (.getfield 28, 3) := by decide +kernel
theorem dX7_dry_35 : decode cX7_dry 35 = .ok (.getfield 202, 3) := by decide +kernel
theorem dX7_dry_38 : decode cX7_dry 38 = .ok (.if_icmp .ge 37, 3) := by decide +kernel
theorem dX7_dry_41 : decode cX7_dry 41 = .ok (.aload_n 0, 1) := by decide +kernel
theorem dX7_dry_42 : decode cX7_dry 42 = .ok (.getfield 23, 3) := by decide +kernel
theorem dX7_dry_45 : decode cX7_dry 45 = .ok (.iload 4, 2) := by decide +kernel
theorem dX7_dry_47 : decode cX7_dry 47 = .ok (.invokevirtual 141, 3) := by decide +kernel
theorem dX7_dry_50 : decode cX7_dry 50 = .ok (.aload_n 0, 1) := by decide +kernel
theorem dX7_dry_51 : decode cX7_dry 51 = .ok (.getfield 19, 3) := by decide +kernel
theorem dX7_dry_54 : decode cX7_dry 54 = .ok (.iload 4, 2) := by decide +kernel
theorem dX7_dry_56 : decode cX7_dry 56 = .ok (.invokevirtual 141, 3) := by decide +kernel
theorem dX7_dry_59 : decode cX7_dry 59 = .ok (.if_icmp .gt 10, 3) := by decide +kernel
theorem dX7_dry_62 : decode cX7_dry 62 = .ok (.iload_n 3, 1) := by decide +kernel
theorem dX7_dry_63 : decode cX7_dry 63 = .ok (.iconst 1, 1) := by decide +kernel
theorem dX7_dry_64 : decode cX7_dry 64 = .ok (.iload 4, 2) := by decide +kernel
theorem dX7_dry_66 : decode cX7_dry 66 = .ok (.ishl, 1) := by decide +kernel
theorem dX7_dry_67 : decode cX7_dry 67 = .ok (.ior, 1) := by decide +kernel
theorem dX7_dry_68 : decode cX7_dry 68 = .ok (.istore_n 3, 1) := by decide +kernel
theorem dX7_dry_69 : decode cX7_dry 69 = .ok (.iinc 4 1, 3) := by decide +kernel
theorem dX7_dry_72 : decode cX7_dry 72 = .ok (.goto (-46), 3) := by decide +kernel
theorem dX7_dry_75 : decode cX7_dry 75 = .ok (.iload_n 3, 1) := by decide +kernel
theorem dX7_dry_76 : decode cX7_dry 76 = .ok (.ireturn, 1) := by decide +kernel
theorem dX7_shut_0 : decode cX7_shut 0 = .ok (.iload_n 2, 1) := by decide +kernel
theorem dX7_shut_1 : decode cX7_shut 1 = .ok (.iconst 1, 1) := by decide +kernel
theorem dX7_shut_2 : decode cX7_shut 2 = .ok (.sipush 9999, 3) := by decide +kernel
theorem dX7_shut_5 : decode cX7_shut 5 = .ok (.invokestatic 93, 3) := by decide +kernel
theorem dX7_shut_8 : decode cX7_shut 8 = .ok (.ifCond .ne 6, 3) := by decide +kernel
theorem dX7_shut_11 : decode cX7_shut 11 = .ok (.bipush (-2), 2) := by decide +kernel
theorem dX7_shut_13 : decode cX7_shut 13 = .ok (.ireturn, 1) := by decide +kernel
theorem dX7_shut_14 : decode cX7_shut 14 = .ok (.aload_n 0, 1) := by decide +kernel
theorem dX7_shut_15 : decode cX7_shut 15 = .ok (.iload_n 1, 1) := by decide +kernel
theorem dX7_shut_16 : decode cX7_shut 16 = .ok (.invokevirtual 105, 3) := by decide +kernel
theorem dX7_shut_19 : decode cX7_shut 19 = .ok (.istore_n 3, 1) := by decide +kernel
theorem dX7_shut_20 : decode cX7_shut 20 = .ok (.iload_n 3, 1) := by decide +kernel
theorem dX7_shut_21 : decode cX7_shut 21 = .ok (.ifCond .eq 5, 3) := by decide +kernel
theorem dX7_shut_24 : decode cX7_shut 24 = .ok (.iload_n 3, 1) := by decide +kernel
theorem dX7_shut_25 : decode cX7_shut 25 = .ok (.ireturn, 1) := by decide +kernel
theorem dX7_shut_26 : decode cX7_shut 26 = .ok (.aload_n 0, 1) := by decide +kernel
theorem dX7_shut_27 : decode cX7_shut 27 = .ok (.getfield 19, 3) := by decide +kernel
theorem dX7_shut_30 : decode cX7_shut 30 = .ok (.invokevirtual 184, 3) := by decide +kernel
theorem dX7_shut_33 : decode cX7_shut 33 = .ok (.iload_n 2, 1) := by decide +kernel
theorem dX7_shut_34 : decode cX7_shut 34 = .ok (.if_icmp .lt 5, 3) := by decide +kernel
theorem dX7_shut_37 : decode cX7_shut 37 = .ok (.iconst 0, 1) := by decide +kernel
theorem dX7_shut_38 : decode cX7_shut 38 = .ok (.ireturn, 1) := by decide +kernel
theorem dX7_shut_39 : decode cX7_shut 39 = .ok (.aload_n 0, 1) := by decide +kernel
theorem dX7_shut_40 : decode cX7_shut 40 = .ok (.invokevirtual 299, 3) := by decide +kernel
theorem dX7_shut_43 : decode cX7_shut 43 = .ok (.iconst 0, 1) := by decide +kernel
theorem dX7_shut_44 : decode cX7_shut 44 = .ok (.istore 4, 2) := by decide +kernel
theorem dX7_shut_46 : decode cX7_shut 46 = .ok (.iload 4, 2) := by decide +kernel
theorem dX7_shut_48 : decode cX7_shut 48 = .ok (.aload_n 0, 1) := by decide +kernel
theorem dX7_shut_49 : decode cX7_shut 49 = .ok (.getfield 45, 3) := by decide +kernel
theorem dX7_shut_52 : decode cX7_shut 52 = .ok (.iload_n 1, 1) := by decide +kernel
theorem dX7_shut_53 : decode cX7_shut 53 = .ok (.aaload, 1) := by decide +kernel
theorem dX7_shut_54 : decode cX7_shut 54 = .ok (.getfield 333, 3) := by decide +kernel
theorem dX7_shut_57 : decode cX7_shut 57 = .ok (.if_icmp .ge 44, 3) := by decide +kernel
theorem dX7_shut_60 : decode cX7_shut 60 = .ok (.aload_n 0, 1) := by decide +kernel
theorem dX7_shut_61 : decode cX7_shut 61 = .ok (.getfield 23, 3) := by decide +kernel
theorem dX7_shut_64 : decode cX7_shut 64 = .ok (.aload_n 0, 1) := by decide +kernel
theorem dX7_shut_65 : decode cX7_shut 65 = .ok (.getfield 45, 3) := by decide +kernel
theorem dX7_shut_68 : decode cX7_shut 68 = .ok (.iload_n 1, 1) := by decide +kernel
theorem dX7_shut_69 : decode cX7_shut 69 = .ok (.aaload, 1) := by decide +kernel
theorem dX7_shut_70 : decode cX7_shut 70 = .ok (.iload 4, 2) := by decide +kernel
theorem dX7_shut_72 : decode cX7_shut 72 = .ok (.invokevirtual 334, 3) := by decide +kernel
theorem dX7_shut_75 : decode cX7_shut 75 = .ok (.invokevirtual 337, 3) := by decide +kernel
theorem dX7_shut_78 : decode cX7_shut 78 = .ok (.pop, 1) := by decide +kernel
theorem dX7_shut_79 : decode cX7_shut 79 = .ok (.aload_n 0, 1) := by decide +kernel
theorem dX7_shut_80 : decode cX7_shut 80 = .ok (.getfield 23, 3) := by decide +kernel
theorem dX7_shut_83 : decode cX7_shut 83 = .ok (.invokevirtual 184, 3) := by decide +kernel
theorem dX7_shut_86 : decode cX7_shut 86 = .ok (.iload_n 2, 1) := by decide +kernel
theorem dX7_shut_87 : decode cX7_shut 87 = .ok (.if_icmp .lt 8, 3) := by decide +kernel
theorem dX7_shut_90 : decode cX7_shut 90 = .ok (.iload 4, 2) := by decide +kernel
theorem dX7_shut_92 : decode cX7_shut 92 = .ok (.iconst 1, 1) := by decide +kernel
theorem dX7_shut_93 : decode cX7_shut 93 = .ok (.iadd, 1) := by decide +kernel
theorem dX7_shut_94 : decode cX7_shut 94 = .ok (.ireturn, 1) := by decide +kernel
theorem dX7_shut_95 : decode cX7_shut 95 = .ok (.iinc 4 1, 3) := by decide +kernel
theorem dX7_shut_98 : decode cX7_shut 98 = .ok (.goto (-52), 3) := by decide +kernel
theorem dX7_shut_101 : decode cX7_shut 101 = .ok (.iconst (-1), 1) := by decide +kernel
theorem dX7_shut_102 : decode cX7_shut 102 = .ok (.ireturn, 1) := by decide +kernel
theorem dX7_first_0 : decode cX7_first 0 = .ok (.aload_n 0, 1) := by decide +kernel
theorem dX7_first_1 : decode cX7_first 1 = .ok (.iload_n 2, 1) := by decide +kernel
theorem dX7_first_2 : decode cX7_first 2 = .ok (.invokevirtual 127, 3) := by decide +kernel
theorem dX7_first_5 : decode cX7_first 5 = .ok (.ifCond .ne 6, 3) := by decide +kernel
theorem dX7_first_8 : decode cX7_first 8 = .ok (.bipush (-2), 2) := by decide +kernel
theorem dX7_first_10 : decode cX7_first 10 = .ok (.ireturn, 1) := by decide +kernel
theorem dX7_first_11 : decode cX7_first 11 = .ok (.aload_n 0, 1) := by decide +kernel
theorem dX7_first_12 : decode cX7_first 12 = .ok (.iload_n 1, 1) := by decide +kernel
theorem dX7_first_13 : decode cX7_first 13 = .ok (.invokevirtual 105, 3) := by decide +kernel
theorem dX7_first_16 : decode cX7_first 16 = .ok (.istore_n 3, 1) := by decide +kernel
theorem dX7_first_17 : decode cX7_first 17 = .ok (.iload_n 3, 1) := by decide +kernel
theorem dX7_first_18 : decode cX7_first 18 = .ok (.ifCond .eq 5, 3) := by decide +kernel
theorem dX7_first_21 : decode cX7_first 21 = .ok (.iload_n 3, 1) := by decide +kernel
theorem dX7_first_22 : decode cX7_first 22 = .ok (.ireturn, 1) := by decide +kernel
theorem dX7_first_23 : decode cX7_first 23 = .ok (.aload_n 0, 1) := by decide +kernel
theorem dX7_first_24 : decode cX7_first 24 = .ok (.invokevirtual 299, 3) := by decide +kernel
theorem dX7_first_27 : decode cX7_first 27 = .ok (.iconst 0, 1) := by decide +kernel
theorem dX7_first_28 : decode cX7_first 28 = .ok (.istore 4, 2) := by decide +kernel
theorem dX7_first_30 : decode cX7_first 30 = .ok (.iload 4, 2) := by decide +kernel
theorem dX7_first_32 : decode cX7_first 32 = .ok (.aload_n 0, 1) := by decide +kernel
theorem dX7_first_33 : decode cX7_first 33 = .ok (.getfield 45, 3) := by decide +kernel
theorem dX7_first_36 : decode cX7_first 36 = .ok (.iload_n 1, 1) := by decide +kernel
theorem dX7_first_37 : decode cX7_first 37 = .ok (.aaload, 1) := by decide +kernel
theorem dX7_first_38 : decode cX7_first 38 = .ok (.getfield 333, 3) := by decide +kernel
theorem dX7_first_41 : decode cX7_first 41 = .ok (.if_icmp .ge 52, 3) := by decide +kernel
theorem dX7_first_44 : decode cX7_first 44 = .ok (.aload_n 0, 1) := by decide +kernel
theorem dX7_first_45 : decode cX7_first 45 = .ok (.getfield 23, 3) := by decide +kernel
theorem dX7_first_48 : decode cX7_first 48 = .ok (.aload_n 0, 1) := by decide +kernel
theorem dX7_first_49 : decode cX7_first 49 = .ok (.getfield 45, 3) := by decide +kernel
theorem dX7_first_52 : decode cX7_first 52 = .ok (.iload_n 1, 1) := by decide +kernel
theorem dX7_first_53 : decode cX7_first 53 = .ok (.aaload, 1) := by decide +kernel
theorem dX7_first_54 : decode cX7_first 54 = .ok (.iload 4, 2) := by decide +kernel
theorem dX7_first_56 : decode cX7_first 56 = .ok (.invokevirtual 334, 3) := by decide +kernel
theorem dX7_first_59 : decode cX7_first 59 = .ok (.invokevirtual 337, 3) := by decide +kernel
theorem dX7_first_62 : decode cX7_first 62 = .ok (.pop, 1) := by decide +kernel
theorem dX7_first_63 : decode cX7_first 63 = .ok (.aload_n 0, 1) := by decide +kernel
theorem dX7_first_64 : decode cX7_first 64 = .ok (.getfield 23, 3) := by decide +kernel
theorem dX7_first_67 : decode cX7_first 67 = .ok (.iload_n 2, 1) := by decide +kernel
theorem dX7_first_68 : decode cX7_first 68 = .ok (.invokevirtual 141, 3) := by decide +kernel
theorem dX7_first_71 : decode cX7_first 71 = .ok (.aload_n 0, 1) := by decide +kernel
theorem dX7_first_72 : decode cX7_first 72 = .ok (.getfield 19, 3) := by decide +kernel
theorem dX7_first_75 : decode cX7_first 75 = .ok (.iload_n 2, 1) := by decide +kernel
theorem dX7_first_76 : decode cX7_first 76 = .ok (.invokevirtual 141, 3) := by decide +kernel
theorem dX7_first_79 : decode cX7_first 79 = .ok (.if_icmp .le 8, 3) := by decide +kernel
theorem dX7_first_82 : decode cX7_first 82 = .ok (.iload 4, 2) := by decide +kernel
theorem dX7_first_84 : decode cX7_first 84 = .ok (.iconst 1, 1) := by decide +kernel
theorem dX7_first_85 : decode cX7_first 85 = .ok (.iadd, 1) := by decide +kernel
theorem dX7_first_86 : decode cX7_first 86 = .ok (.ireturn, 1) := by decide +kernel
theorem dX7_first_87 : decode cX7_first 87 = .ok (.iinc 4 1, 3) := by decide +kernel
theorem dX7_first_90 : decode cX7_first 90 = .ok (.goto (-60), 3) := by decide +kernel
theorem dX7_first_93 : decode cX7_first 93 = .ok (.iconst (-1), 1) := by decide +kernel
theorem dX7_first_94 : decode cX7_first 94 = .ok (.ireturn, 1) := by decide +kernel
theorem dX7_wear_0 : decode cX7_wear 0 = .ok (.aload_n 0, 1) := by decide +kernel
theorem dX7_wear_1 : decode cX7_wear 1 = .ok (.iload_n 1, 1) := by decide +kernel
theorem dX7_wear_2 : decode cX7_wear 2 = .ok (.invokevirtual 105, 3) := by decide +kernel
theorem dX7_wear_5 : decode cX7_wear 5 = .ok (.istore_n 2, 1) := by decide +kernel
theorem dX7_wear_6 : decode cX7_wear 6 = .ok (.iload_n 2, 1) := by decide +kernel
theorem dX7_wear_7 : decode cX7_wear 7 = .ok (.ifCond .eq 5, 3) := by decide +kernel
theorem dX7_wear_10 : decode cX7_wear 10 = .ok (.iload_n 2, 1) := by decide +kernel
theorem dX7_wear_11 : decode cX7_wear 11 = .ok (.ireturn, 1) := by decide +kernel
theorem dX7_wear_12 : decode cX7_wear 12 = .ok (.aload_n 0, 1) := by decide +kernel
theorem dX7_wear_13 : decode cX7_wear 13 = .ok (.invokevirtual 299, 3) := by decide +kernel
theorem dX7_wear_16 : decode cX7_wear 16 = .ok (.iconst 0, 1) := by decide +kernel
theorem dX7_wear_17 : decode cX7_wear 17 = .ok (.istore_n 3, 1) := by decide +kernel
theorem dX7_wear_18 : decode cX7_wear 18 = .ok (.iconst 0, 1) := by decide +kernel
theorem dX7_wear_19 : decode cX7_wear 19 = .ok (.istore 4, 2) := by decide +kernel
theorem dX7_wear_21 : decode cX7_wear 21 = .ok (.iload 4, 2) := by decide +kernel
theorem dX7_wear_23 : decode cX7_wear 23 = .ok (.aload_n 0, 1) := by decide +kernel
theorem dX7_wear_24 : decode cX7_wear 24 = .ok (.getfield 45, 3) := by decide +kernel
theorem dX7_wear_27 : decode cX7_wear 27 = .ok (.iload_n 1, 1) := by decide +kernel
theorem dX7_wear_28 : decode cX7_wear 28 = .ok (.aaload, 1) := by decide +kernel
theorem dX7_wear_29 : decode cX7_wear 29 = .ok (.getfield 333, 3) := by decide +kernel
theorem dX7_wear_32 : decode cX7_wear 32 = .ok (.if_icmp .ge 59, 3) := by decide +kernel
theorem dX7_wear_35 : decode cX7_wear 35 = .ok (.aload_n 0, 1) := by decide +kernel
theorem dX7_wear_36 : decode cX7_wear 36 = .ok (.getfield 23, 3) := by decide +kernel
theorem dX7_wear_39 : decode cX7_wear 39 = .ok (.getfield 75, 3) := by decide +kernel
theorem dX7_wear_42 : decode cX7_wear 42 = .ok (.getfield 166, 3) := by decide +kernel
theorem dX7_wear_45 : decode cX7_wear 45 = .ok (.istore 5, 2) := by decide +kernel
theorem dX7_wear_47 : decode cX7_wear 47 = .ok (.aload_n 0, 1) := by decide +kernel
theorem dX7_wear_48 : decode cX7_wear 48 = .ok (.getfield 23, 3) := by decide +kernel
theorem dX7_wear_51 : decode cX7_wear 51 = .ok (.aload_n 0, 1) := by decide +kernel
theorem dX7_wear_52 : decode cX7_wear 52 = .ok (.getfield 45, 3) := by decide +kernel
theorem dX7_wear_55 : decode cX7_wear 55 = .ok (.iload_n 1, 1) := by decide +kernel
theorem dX7_wear_56 : decode cX7_wear 56 = .ok (.aaload, 1) := by decide +kernel
theorem dX7_wear_57 : decode cX7_wear 57 = .ok (.iload 4, 2) := by decide +kernel
theorem dX7_wear_59 : decode cX7_wear 59 = .ok (.invokevirtual 334, 3) := by decide +kernel
theorem dX7_wear_62 : decode cX7_wear 62 = .ok (.invokevirtual 337, 3) := by decide +kernel
theorem dX7_wear_65 : decode cX7_wear 65 = .ok (.pop, 1) := by decide +kernel
theorem dX7_wear_66 : decode cX7_wear 66 = .ok (.iload_n 3, 1) := by decide +kernel
theorem dX7_wear_67 : decode cX7_wear 67 = .ok (.aload_n 0, 1) := by decide +kernel
theorem dX7_wear_68 : decode cX7_wear 68 = .ok (.getfield 23, 3) := by decide +kernel
theorem dX7_wear_71 : decode cX7_wear 71 = .ok (.getfield 75, 3) := by decide +kernel
theorem dX7_wear_74 : decode cX7_wear 74 = .ok (.getfield 166, 3) := by decide +kernel
theorem dX7_wear_77 : decode cX7_wear 77 = .ok (.iload 5, 2) := by decide +kernel
theorem dX7_wear_79 : decode cX7_wear 79 = .ok (.isub, 1) := by decide +kernel
theorem dX7_wear_80 : decode cX7_wear 80 = .ok (.invokestatic 340, 3) := by decide +kernel
theorem dX7_wear_83 : decode cX7_wear 83 = .ok (.iadd, 1) := by decide +kernel
theorem dX7_wear_84 : decode cX7_wear 84 = .ok (.istore_n 3, 1) := by decide +kernel
theorem dX7_wear_85 : decode cX7_wear 85 = .ok (.iinc 4 1, 3) := by decide +kernel
theorem dX7_wear_88 : decode cX7_wear 88 = .ok (.goto (-67), 3) := by decide +kernel
theorem dX7_wear_91 : decode cX7_wear 91 = .ok (.iload_n 3, 1) := by decide +kernel
theorem dX7_wear_92 : decode cX7_wear 92 = .ok (.ireturn, 1) := by decide +kernel
theorem dX7_idle_0 : decode cX7_idle 0 = .ok (.aload_n 0, 1) := by decide +kernel
theorem dX7_idle_1 : decode cX7_idle 1 = .ok (.iload_n 1, 1) := by decide +kernel
theorem dX7_idle_2 : decode cX7_idle 2 = .ok (.invokevirtual 105, 3) := by decide +kernel
theorem dX7_idle_5 : decode cX7_idle 5 = .ok (.istore_n 2, 1) := by decide +kernel
theorem dX7_idle_6 : decode cX7_idle 6 = .ok (.iload_n 2, 1) := by decide +kernel
theorem dX7_idle_7 : decode cX7_idle 7 = .ok (.ifCond .eq 5, 3) := by decide +kernel
theorem dX7_idle_10 : decode cX7_idle 10 = .ok (.iload_n 2, 1) := by decide +kernel
theorem dX7_idle_11 : decode cX7_idle 11 = .ok (.ireturn, 1) := by decide +kernel
theorem dX7_idle_12 : decode cX7_idle 12 = .ok (.aload_n 0, 1) := by decide +kernel
theorem dX7_idle_13 : decode cX7_idle 13 = .ok (.invokevirtual 299, 3) := by decide +kernel
theorem dX7_idle_16 : decode cX7_idle 16 = .ok (.iconst 0, 1) := by decide +kernel
theorem dX7_idle_17 : decode cX7_idle 17 = .ok (.istore_n 3, 1) := by decide +kernel
theorem dX7_idle_18 : decode cX7_idle 18 = .ok (.iconst 0, 1) := by decide +kernel
theorem dX7_idle_19 : decode cX7_idle 19 = .ok (.istore 4, 2) := by decide +kernel
theorem dX7_idle_21 : decode cX7_idle 21 = .ok (.iload 4, 2) := by decide +kernel
theorem dX7_idle_23 : decode cX7_idle 23 = .ok (.aload_n 0, 1) := by decide +kernel
theorem dX7_idle_24 : decode cX7_idle 24 = .ok (.getfield 45, 3) := by decide +kernel
theorem dX7_idle_27 : decode cX7_idle 27 = .ok (.iload_n 1, 1) := by decide +kernel
theorem dX7_idle_28 : decode cX7_idle 28 = .ok (.aaload, 1) := by decide +kernel
theorem dX7_idle_29 : decode cX7_idle 29 = .ok (.getfield 333, 3) := by decide +kernel
theorem dX7_idle_32 : decode cX7_idle 32 = .ok (.if_icmp .ge 44, 3) := by decide +kernel
theorem dX7_idle_35 : decode cX7_idle 35 = .ok (.aload_n 0, 1) := by decide +kernel
theorem dX7_idle_36 : decode cX7_idle 36 = .ok (.getfield 23, 3) := by decide +kernel
theorem dX7_idle_39 : decode cX7_idle 39 = .ok (.aload_n 0, 1) := by decide +kernel
theorem dX7_idle_40 : decode cX7_idle 40 = .ok (.getfield 45, 3) := by decide +kernel
theorem dX7_idle_43 : decode cX7_idle 43 = .ok (.iload_n 1, 1) := by decide +kernel
theorem dX7_idle_44 : decode cX7_idle 44 = .ok (.aaload, 1) := by decide +kernel
theorem dX7_idle_45 : decode cX7_idle 45 = .ok (.iload 4, 2) := by decide +kernel
theorem dX7_idle_47 : decode cX7_idle 47 = .ok (.invokevirtual 334, 3) := by decide +kernel
theorem dX7_idle_50 : decode cX7_idle 50 = .ok (.invokevirtual 337, 3) := by decide +kernel
theorem dX7_idle_53 : decode cX7_idle 53 = .ok (.pop, 1) := by decide +kernel
theorem dX7_idle_54 : decode cX7_idle 54 = .ok (.aload_n 0, 1) := by decide +kernel
theorem dX7_idle_55 : decode cX7_idle 55 = .ok (.getfield 23, 3) := by decide +kernel
theorem dX7_idle_58 : decode cX7_idle 58 = .ok (.getfield 75, 3) := by decide +kernel
theorem dX7_idle_61 : decode cX7_idle 61 = .ok (.getfield 166, 3) := by decide +kernel
theorem dX7_idle_64 : decode cX7_idle 64 = .ok (.ifCond .ne 6, 3) := by decide +kernel
theorem dX7_idle_67 : decode cX7_idle 67 = .ok (.iinc 3 1, 3) := by decide +kernel
theorem dX7_idle_70 : decode cX7_idle 70 = .ok (.iinc 4 1, 3) := by decide +kernel
theorem dX7_idle_73 : decode cX7_idle 73 = .ok (.goto (-52), 3) := by decide +kernel
theorem dX7_idle_76 : decode cX7_idle 76 = .ok (.iload_n 3, 1) := by decide +kernel
theorem dX7_idle_77 : decode cX7_idle 77 = .ok (.ireturn, 1) := by decide +kernel
theorem dX7_often_0 : decode cX7_often 0 = .ok (.aload_n 0, 1) := by decide +kernel
theorem dX7_often_1 : decode cX7_often 1 = .ok (.iload_n 1, 1) := by decide +kernel
theorem dX7_often_2 : decode cX7_often 2 = .ok (.invokevirtual 127, 3) := by decide +kernel
theorem dX7_often_5 : decode cX7_often 5 = .ok (.ifCond .eq 27, 3) := by decide +kernel
theorem dX7_often_8 : decode cX7_often 8 = .ok (.iload_n 3, 1) := by decide +kernel
theorem dX7_often_9 : decode cX7_often 9 = .ok (.iconst 1, 1) := by decide +kernel
theorem dX7_often_10 : decode cX7_often 10 = .ok (.bipush 20, 2) := by decide +kernel
theorem dX7_often_12 : decode cX7_often 12 = .ok (.invokestatic 93, 3) := by decide +kernel
theorem dX7_often_15 : decode cX7_often 15 = .ok (.ifCond .eq 17, 3) := by decide +kernel
theorem dX7_often_18 : decode cX7_often 18 = .ok (.aload_n 0, 1) := by decide +kernel
theorem dX7_often_19 : decode cX7_often 19 = .ok (.iload_n 2, 1) := by decide +kernel
theorem dX7_often_20 : decode cX7_often 20 = .ok (.iload 4, 2) := by decide +kernel
theorem dX7_often_22 : decode cX7_often 22 = .ok (.iload 5, 2) := by decide +kernel
theorem dX7_often_24 : decode cX7_often 24 = .ok (.iload 6, 2) := by decide +kernel
theorem dX7_often_26 : decode cX7_often 26 = .ok (.invokevirtual 112, 3) := by decide +kernel
theorem dX7_often_29 : decode cX7_often 29 = .ok (.ifCond .ne 6, 3) := by decide +kernel
theorem dX7_often_32 : decode cX7_often 32 = .ok (.bipush (-2), 2) := by decide +kernel
theorem dX7_often_34 : decode cX7_often 34 = .ok (.ireturn, 1) := by decide +kernel
theorem dX7_often_35 : decode cX7_often 35 = .ok (.iconst 0, 1) := by decide +kernel
theorem dX7_often_36 : decode cX7_often 36 = .ok (.istore 7, 2) := by decide +kernel
theorem dX7_often_38 : decode cX7_often 38 = .ok (.iconst 0, 1) := by decide +kernel
theorem dX7_often_39 : decode cX7_often 39 = .ok (.istore 8, 2) := by decide +kernel
theorem dX7_often_41 : decode cX7_often 41 = .ok (.iload 8, 2) := by decide +kernel
theorem dX7_often_43 : decode cX7_often 43 = .ok (.iload_n 3, 1) := by decide +kernel
theorem dX7_often_44 : decode cX7_often 44 = .ok (.if_icmp .ge 45, 3) := by decide +kernel
theorem dX7_often_47 : decode cX7_often 47 = .ok (.aload_n 0, 1) := by decide +kernel
theorem dX7_often_48 : decode cX7_often 48 = .ok (.invokevirtual 299, 3) := by decide +kernel
theorem dX7_often_51 : decode cX7_often 51 = .ok (.aload_n 0, 1) := by decide +kernel
theorem dX7_often_52 : decode cX7_often 52 = .ok (.getfield 23, 3) := by decide +kernel
theorem dX7_often_55 : decode cX7_often 55 = .ok (.iload_n 2, 1) := by decide +kernel
theorem dX7_often_56 : decode cX7_often 56 = .ok (.iload 8, 2) := by decide +kernel
theorem dX7_often_58 : decode cX7_often 58 = .ok (.iadd, 1) := by decide +kernel
theorem dX7_often_59 : decode cX7_often 59 = .ok (.iload 4, 2) := by decide +kernel
theorem dX7_often_61 : decode cX7_often 61 = .ok (.iload 5, 2) := by decide +kernel
theorem dX7_often_63 : decode cX7_often 63 = .ok (.iload 6, 2) := by decide +kernel
theorem dX7_often_65 : decode cX7_often 65 = .ok (.invokevirtual 116, 3) := by decide +kernel
theorem dX7_often_68 : decode cX7_often 68 = .ok (.pop, 1) := by decide +kernel
theorem dX7_often_69 : decode cX7_often 69 = .ok (.aload_n 0, 1) := by decide +kernel
theorem dX7_often_70 : decode cX7_often 70 = .ok (.getfield 23, 3) := by decide +kernel
theorem dX7_often_73 : decode cX7_often 73 = .ok (.iload_n 1, 1) := by decide +kernel
theorem dX7_often_74 : decode cX7_often 74 = .ok (.invokevirtual 343, 3) := by decide +kernel
theorem dX7_often_77 : decode cX7_often 77 = .ok (.ifCond .eq 6, 3) := by decide +kernel
theorem dX7_often_80 : decode cX7_often 80 = .ok (.iinc 7 1, 3) := by decide +kernel
theorem dX7_often_83 : decode cX7_often 83 = .ok (.iinc 8 1, 3) := by decide +kernel
theorem dX7_often_86 : decode cX7_often 86 = .ok (.goto (-45), 3) := by decide +kernel
theorem dX7_often_89 : decode cX7_often 89 = .ok (.iload 7, 2) := by decide +kernel
theorem dX7_often_91 : decode cX7_often 91 = .ok (.ireturn, 1) := by decide +kernel
theorem dX7_where_0 : decode cX7_where 0 = .ok (.aload_n 0, 1) := by decide +kernel
theorem dX7_where_1 : decode cX7_where 1 = .ok (.iload_n 1, 1) := by decide +kernel
theorem dX7_where_2 : decode cX7_where 2 = .ok (.invokevirtual 127, 3) := by decide +kernel
theorem dX7_where_5 : decode cX7_where 5 = .ok (.ifCond .eq 13, 3) := by decide +kernel
theorem dX7_where_8 : decode cX7_where 8 = .ok (.iload_n 2, 1) := by decide +kernel
theorem dX7_where_9 : decode cX7_where 9 = .ok (.iconst 0, 1) := by decide +kernel
theorem dX7_where_10 : decode cX7_where 10 = .ok (.bipush 9, 2) := by decide +kernel
theorem dX7_where_12 : decode cX7_where 12 = .ok (.invokestatic 93, 3) := by decide +kernel
theorem dX7_where_15 : decode cX7_where 15 = .ok (.ifCond .ne 6, 3) := by decide +kernel
theorem dX7_where_18 : decode cX7_where 18 = .ok (.bipush (-2), 2) := by decide +kernel
theorem dX7_where_20 : decode cX7_where 20 = .ok (.ireturn, 1) := by decide +kernel
theorem dX7_where_21 : decode cX7_where 21 = .ok (.aload_n 0, 1) := by decide +kernel
theorem dX7_where_22 : decode cX7_where 22 = .ok (.getfield 19, 3) := by decide +kernel
theorem dX7_where_25 : decode cX7_where 25 = .ok (.getfield 28, 3) := by decide +kernel
theorem dX7_where_28 : decode cX7_where 28 = .ok (.getfield 131, 3) := by decide +kernel
theorem dX7_where_31 : decode cX7_where 31 = .ok (.iload_n 1, 1) := by decide +kernel
theorem dX7_where_32 : decode cX7_where 32 = .ok (.iaload, 1) := by decide +kernel
theorem dX7_where_33 : decode cX7_where 33 = .ok (.istore_n 3, 1) := by decide +kernel
theorem dX7_where_34 : decode cX7_where 34 = .ok (.aload_n 0, 1) := by decide +kernel
theorem dX7_where_35 : decode cX7_where 35 = .ok (.getfield 19, 3) := by decide +kernel
theorem dX7_where_38 : decode cX7_where 38 = .ok (.getfield 28, 3) := by decide +kernel
theorem dX7_where_41 : decode cX7_where 41 = .ok (.getfield 135, 3) := by decide +kernel
theorem dX7_where_44 : decode cX7_where 44 = .ok (.iload_n 1, 1) := by decide +kernel
theorem dX7_where_45 : decode cX7_where 45 = .ok (.iaload, 1) := by decide +kernel
theorem dX7_where_46 : decode cX7_where 46 = .ok (.istore 4, 2) := by decide +kernel
theorem dX7_where_48 : decode cX7_where 48 = .ok (.iconst (-1), 1) := by decide +kernel
theorem dX7_where_49 : decode cX7_where 49 = .ok (.istore 5, 2) := by decide +kernel
theorem dX7_where_51 : decode cX7_where 51 = .ok (.iconst 0, 1) := by decide +kernel
theorem dX7_where_52 : decode cX7_where 52 = .ok (.istore 6, 2) := by decide +kernel
theorem dX7_where_54 : decode cX7_where 54 = .ok (.iload 4, 2) := by decide +kernel
theorem dX7_where_56 : decode cX7_where 56 = .ok (.iload_n 2, 1) := by decide +kernel
theorem dX7_where_57 : decode cX7_where 57 = .ok (.isub, 1) := by decide +kernel
theorem dX7_where_58 : decode cX7_where 58 = .ok (.istore 7, 2) := by decide +kernel
theorem dX7_where_60 : decode cX7_where 60 = .ok (.iload 7, 2) := by decide +kernel
theorem dX7_where_62 : decode cX7_where 62 = .ok (.iload 4, 2) := by decide +kernel
theorem dX7_where_64 : decode cX7_where 64 = .ok (.iload_n 2, 1) := by decide +kernel
theorem dX7_where_65 : decode cX7_where 65 = .ok (.iadd, 1) := by decide +kernel
theorem dX7_where_66 : decode cX7_where 66 = .ok (.if_icmp .gt 113, 3) := by decide +kernel
theorem dX7_where_69 : decode cX7_where 69 = .ok (.iload_n 3, 1) := by decide +kernel
theorem dX7_where_70 : decode cX7_where 70 = .ok (.iload_n 2, 1) := by decide +kernel
theorem dX7_where_71 : decode cX7_where 71 = .ok (.isub, 1) := by decide +kernel
theorem dX7_where_72 : decode cX7_where 72 = .ok (.istore 8, 2) := by decide +kernel
theorem dX7_where_74 : decode cX7_where 74 = .ok (.iload 8, 2) := by decide +kernel
theorem dX7_where_76 : decode cX7_where 76 = .ok (.iload_n 3, 1) := by decide +kernel
theorem dX7_where_77 : decode cX7_where 77 = .ok (.iload_n 2, 1) := by decide +kernel
theorem dX7_where_78 : decode cX7_where 78 = .ok (.iadd, 1) := by decide +kernel
theorem dX7_where_79 : decode cX7_where 79 = .ok (.if_icmp .gt 94, 3) := by decide +kernel
theorem dX7_where_82 : decode cX7_where 82 = .ok (.aload_n 0, 1) := by decide +kernel
theorem dX7_where_83 : decode cX7_where 83 = .ok (.getfield 19, 3) := by decide +kernel
theorem dX7_where_86 : decode cX7_where 86 = .ok (.getfield 28, 3) := by decide +kernel
theorem dX7_where_89 : decode cX7_where 89 = .ok (.iload 8, 2) := by decide +kernel
theorem dX7_where_91 : decode cX7_where 91 = .ok (.iload 7, 2) := by decide +kernel
theorem dX7_where_93 : decode cX7_where 93 = .ok (.invokevirtual 120, 3) := by decide +kernel
theorem dX7_where_96 : decode cX7_where 96 = .ok (.ifCond .eq 71, 3) := by decide +kernel
theorem dX7_where_99 : decode cX7_where 99 = .ok (.aload_n 0, 1) := by decide +kernel
theorem dX7_where_100 : decode cX7_where 100 = .ok (.getfield 19, 3) := by decide +kernel
theorem dX7_where_103 : decode cX7_where 103 = .ok (.getfield 28, 3) := by decide +kernel
theorem dX7_where_106 : decode cX7_where 106 = .ok (.iload_n 1, 1) := by decide +kernel
theorem dX7_where_107 : decode cX7_where 107 = .ok (.iload 8, 2) := by decide +kernel
theorem dX7_where_109 : decode cX7_where 109 = .ok (.iload 7, 2) := by decide +kernel
theorem dX7_where_111 : decode cX7_where 111 = .ok (.invokevirtual 346, 3) := by decide +kernel
theorem dX7_where_114 : decode cX7_where 114 = .ok (.ifCond .eq 53, 3) := by decide +kernel
theorem dX7_where_117 : decode cX7_where 117 = .ok (.iload 5, 2) := by decide +kernel
theorem dX7_where_119 : decode cX7_where 119 = .ok (.iconst (-1), 1) := by decide +kernel
theorem dX7_where_120 : decode cX7_where 120 = .ok (.if_icmp .eq 22, 3) := by decide +kernel
theorem dX7_where_123 : decode cX7_where 123 = .ok (.aload_n 0, 1) := by decide +kernel
theorem dX7_where_124 : decode cX7_where 124 = .ok (.getfield 19, 3) := by decide +kernel
theorem dX7_where_127 : decode cX7_where 127 = .ok (.getfield 75, 3) := by decide +kernel
theorem dX7_where_130 : decode cX7_where 130 = .ok (.iload 8, 2) := by decide +kernel
theorem dX7_where_132 : decode cX7_where 132 = .ok (.iload 7, 2) := by decide +kernel
theorem dX7_where_134 : decode cX7_where 134 = .ok (.invokevirtual 124, 3) := by decide +kernel
theorem dX7_where_137 : decode cX7_where 137 = .ok (.iload 6, 2) := by decide +kernel
theorem dX7_where_139 : decode cX7_where 139 = .ok (.if_icmp .ge 28, 3) := by decide +kernel
theorem dX7_where_142 : decode cX7_where 142 = .ok (.aload_n 0, 1) := by decide +kernel
theorem dX7_where_143 : decode cX7_where 143 = .ok (.getfield 19, 3) := by decide +kernel
theorem dX7_where_146 : decode cX7_where 146 = .ok (.getfield 75, 3) := by decide +kernel
theorem dX7_where_149 : decode cX7_where 149 = .ok (.iload 8, 2) := by decide +kernel
theorem dX7_where_151 : decode cX7_where 151 = .ok (.iload 7, 2) := by decide +kernel
theorem dX7_where_153 : decode cX7_where 153 = .ok (.invokevirtual 124, 3) := by decide +kernel
theorem dX7_where_156 : decode cX7_where 156 = .ok (.istore 6, 2) := by decide +kernel
theorem dX7_where_158 : decode cX7_where 158 = .ok (.iload 8, 2) := by decide +kernel
theorem dX7_where_160 : decode cX7_where 160 = .ok (.iload 7, 2) := by decide +kernel
theorem dX7_where_162 : decode cX7_where 162 = .ok (.invokestatic 196, 3) := by decide +kernel
theorem dX7_where_165 : decode cX7_where 165 = .ok (.istore 5, 2) := by decide +kernel
theorem dX7_where_167 : decode cX7_where 167 = .ok (.iinc 8 1, 3) := by decide +kernel
theorem dX7_where_170 : decode cX7_where 170 = .ok (.goto (-96), 3) := by decide +kernel
theorem dX7_where_173 : decode cX7_where 173 = .ok (.iinc 7 1, 3) := by decide +kernel
theorem dX7_where_176 : decode cX7_where 176 = .ok (.goto (-116), 3) := by decide +kernel
theorem dX7_where_179 : decode cX7_where 179 = .ok (.iload 5, 2) := by decide +kernel
theorem dX7_where_181 : decode cX7_where 181 = .ok (.ireturn, 1) := by decide +kernel
theorem dX7_move_0 : decode cX7_move 0 = .ok (.aload_n 0, 1) := by decide +kernel
theorem dX7_move_1 : decode cX7_move 1 = .ok (.iload_n 1, 1) := by decide +kernel
theorem dX7_move_2 : decode cX7_move 2 = .ok (.invokevirtual 127, 3) := by decide +kernel
theorem dX7_move_5 : decode cX7_move 5 = .ok (.ifCond .eq 18, 3) := by decide +kernel
theorem dX7_move_8 : decode cX7_move 8 = .ok (.aload_n 0, 1) := by decide +kernel
theorem dX7_move_9 : decode cX7_move 9 = .ok (.getfield 19, 3) := by decide +kernel
theorem dX7_move_12 : decode cX7_move 12 = .ok (.getfield 28, 3) := by decide +kernel
theorem dX7_move_15 : decode cX7_move 15 = .ok (.iload_n 2, 1) := by decide +kernel
theorem dX7_move_16 : decode cX7_move 16 = .ok (.iload_n 3, 1) := by decide +kernel
theorem dX7_move_17 : decode cX7_move 17 = .ok (.invokevirtual 120, 3) := by decide +kernel
theorem dX7_move_20 : decode cX7_move 20 = .ok (.ifCond .ne 6, 3) := by decide +kernel
theorem dX7_move_23 : decode cX7_move 23 = .ok (.bipush (-2), 2) := by decide +kernel
theorem dX7_move_25 : decode cX7_move 25 = .ok (.ireturn, 1) := by decide +kernel
theorem dX7_move_26 : decode cX7_move 26 = .ok (.aload_n 0, 1) := by decide +kernel
theorem dX7_move_27 : decode cX7_move 27 = .ok (.getfield 19, 3) := by decide +kernel
theorem dX7_move_30 : decode cX7_move 30 = .ok (.getfield 28, 3) := by decide +kernel
theorem dX7_move_33 : decode cX7_move 33 = .ok (.iload_n 1, 1) := by decide +kernel
theorem dX7_move_34 : decode cX7_move 34 = .ok (.iload_n 2, 1) := by decide +kernel
theorem dX7_move_35 : decode cX7_move 35 = .ok (.iload_n 3, 1) := by decide +kernel
theorem dX7_move_36 : decode cX7_move 36 = .ok (.invokevirtual 346, 3) := by decide +kernel
theorem dX7_move_39 : decode cX7_move 39 = .ok (.ifCond .ne 6, 3) := by decide +kernel
theorem dX7_move_42 : decode cX7_move 42 = .ok (.bipush (-5), 2) := by decide +kernel
theorem dX7_move_44 : decode cX7_move 44 = .ok (.ireturn, 1) := by decide +kernel
theorem dX7_move_45 : decode cX7_move 45 = .ok (.aload_n 0, 1) := by decide +kernel
theorem dX7_move_46 : decode cX7_move 46 = .ok (.getfield 19, 3) := by decide +kernel
theorem dX7_move_49 : decode cX7_move 49 = .ok (.getfield 28, 3) := by decide +kernel
theorem dX7_move_52 : decode cX7_move 52 = .ok (.iload_n 1, 1) := by decide +kernel
theorem dX7_move_53 : decode cX7_move 53 = .ok (.invokevirtual 349, 3) := by decide +kernel
theorem dX7_move_56 : decode cX7_move 56 = .ok (.istore 4, 2) := by decide +kernel
theorem dX7_move_58 : decode cX7_move 58 = .ok (.aload_n 0, 1) := by decide +kernel
theorem dX7_move_59 : decode cX7_move 59 = .ok (.getfield 19, 3) := by decide +kernel
theorem dX7_move_62 : decode cX7_move 62 = .ok (.getfield 28, 3) := by decide +kernel
theorem dX7_move_65 : decode cX7_move 65 = .ok (.getfield 131, 3) := by decide +kernel
theorem dX7_move_68 : decode cX7_move 68 = .ok (.iload_n 1, 1) := by decide +kernel
theorem dX7_move_69 : decode cX7_move 69 = .ok (.iload_n 2, 1) := by decide +kernel
theorem dX7_move_70 : decode cX7_move 70 = .ok (.iastore, 1) := by decide +kernel
theorem dX7_move_71 : decode cX7_move 71 = .ok (.aload_n 0, 1) := by decide +kernel
theorem dX7_move_72 : decode cX7_move 72 = .ok (.getfield 19, 3) := by decide +kernel
theorem dX7_move_75 : decode cX7_move 75 = .ok (.getfield 28, 3) := by decide +kernel
theorem dX7_move_78 : decode cX7_move 78 = .ok (.getfield 135, 3) := by decide +kernel
theorem dX7_move_81 : decode cX7_move 81 = .ok (.iload_n 1, 1) := by decide +kernel
theorem dX7_move_82 : decode cX7_move 82 = .ok (.iload_n 3, 1) := by decide +kernel
theorem dX7_move_83 : decode cX7_move 83 = .ok (.iastore, 1) := by decide +kernel
theorem dX7_move_84 : decode cX7_move 84 = .ok (.iload 4, 2) := by decide +kernel
theorem dX7_move_86 : decode cX7_move 86 = .ok (.ireturn, 1) := by decide +kernel
theorem dX7_bow_0 : decode cX7_bow 0 = .ok (.aload_n 0, 1) := by decide +kernel
theorem dX7_bow_1 : decode cX7_bow 1 = .ok (.getfield 19, 3) := by decide +kernel
theorem dX7_bow_4 : decode cX7_bow 4 = .ok (.getfield 28, 3) := by decide +kernel
theorem dX7_bow_7 : decode cX7_bow 7 = .ok (.iload_n 1, 1) := by decide +kernel
theorem dX7_bow_8 : decode cX7_bow 8 = .ok (.iload_n 2, 1) := by decide +kernel
theorem dX7_bow_9 : decode cX7_bow 9 = .ok (.invokevirtual 120, 3) := by decide +kernel
theorem dX7_bow_12 : decode cX7_bow 12 = .ok (.ifCond .eq 10, 3) := by decide +kernel
theorem dX7_bow_15 : decode cX7_bow 15 = .ok (.iload_n 3, 1) := by decide +kernel
theorem dX7_bow_16 : decode cX7_bow 16 = .ok (.invokestatic 255, 3) := by decide +kernel
theorem dX7_bow_19 : decode cX7_bow 19 = .ok (.ifCond .ne 6, 3) := by decide +kernel
theorem dX7_bow_22 : decode cX7_bow 22 = .ok (.bipush (-2), 2) := by decide +kernel
theorem dX7_bow_24 : decode cX7_bow 24 = .ok (.ireturn, 1) := by decide +kernel
theorem dX7_bow_25 : decode cX7_bow 25 = .ok (.aload_n 0, 1) := by decide +kernel
theorem dX7_bow_26 : decode cX7_bow 26 = .ok (.getfield 19, 3) := by decide +kernel
theorem dX7_bow_29 : decode cX7_bow 29 = .ok (.getfield 28, 3) := by decide +kernel
theorem dX7_bow_32 : decode cX7_bow 32 = .ok (.iload_n 1, 1) := by decide +kernel
theorem dX7_bow_33 : decode cX7_bow 33 = .ok (.iload_n 2, 1) := by decide +kernel
theorem dX7_bow_34 : decode cX7_bow 34 = .ok (.iload_n 3, 1) := by decide +kernel
theorem dX7_bow_35 : decode cX7_bow 35 = .ok (.invokevirtual 352, 3) := by decide +kernel
theorem dX7_bow_38 : decode cX7_bow 38 = .ok (.ifCond .eq 7, 3) := by decide +kernel
theorem dX7_bow_41 : decode cX7_bow 41 = .ok (.iconst 1, 1) := by decide +kernel
theorem dX7_bow_42 : decode cX7_bow 42 = .ok (.goto 4, 3) := by decide +kernel
theorem dX7_bow_45 : decode cX7_bow 45 = .ok (.iconst 0, 1) := by decide +kernel
theorem dX7_bow_46 : decode cX7_bow 46 = .ok (.ireturn, 1) := by decide +kernel
theorem dX7_bows_0 : decode cX7_bows 0 = .ok (.aload_n 0, 1) := by decide +kernel
theorem dX7_bows_1 : decode cX7_bows 1 = .ok (.invokevirtual 178, 3) := by decide +kernel
theorem dX7_bows_4 : decode cX7_bows 4 = .ok (.ifCond .eq 10, 3) := by decide +kernel
theorem dX7_bows_7 : decode cX7_bows 7 = .ok (.iload_n 1, 1) := by decide +kernel
theorem dX7_bows_8 : decode cX7_bows 8 = .ok (.invokestatic 255, 3) := by decide +kernel
theorem dX7_bows_11 : decode cX7_bows 11 = .ok (.ifCond .ne 6, 3) := by decide +kernel
theorem dX7_bows_14 : decode cX7_bows 14 = .ok (.bipush (-2), 2) := by decide +kernel
theorem dX7_bows_16 : decode cX7_bows 16 = .ok (.ireturn, 1) := by decide +kernel
theorem dX7_bows_17 : decode cX7_bows 17 = .ok (.iconst 0, 1) := by decide +kernel
theorem dX7_bows_18 : decode cX7_bows 18 = .ok (.istore_n 2, 1) := by decide +kernel
theorem dX7_bows_19 : decode cX7_bows 19 = .ok (.iconst 0, 1) := by decide +kernel
theorem dX7_bows_20 : decode cX7_bows 20 = .ok (.istore_n 3, 1) := by decide +kernel
theorem dX7_bows_21 : decode cX7_bows 21 = .ok (.iload_n 3, 1) := by decide +kernel
theorem dX7_bows_22 : decode cX7_bows 22 = .ok (.aload_n 0, 1) := by decide +kernel
theorem dX7_bows_23 : decode cX7_bows 23 = .ok (.getfield 19, 3) := by decide +kernel
theorem dX7_bows_26 : decode cX7_bows 26 = .ok (.getfield 28, 3) := by decide +kernel
theorem dX7_bows_29 : decode cX7_bows 29 = .ok (.getfield 195, 3) := by decide +kernel
theorem dX7_bows_32 : decode cX7_bows 32 = .ok (.if_icmp .ge 69, 3) := by decide +kernel
theorem dX7_bows_35 : decode cX7_bows 35 = .ok (.iconst 0, 1) := by decide +kernel
theorem dX7_bows_36 : decode cX7_bows 36 = .ok (.istore 4, 2) := by decide +kernel
theorem dX7_bows_38 : decode cX7_bows 38 = .ok (.iload 4, 2) := by decide +kernel
theorem dX7_bows_40 : decode cX7_bows 40 = .ok (.aload_n 0, 1) := by decide +kernel
theorem dX7_bows_41 : decode cX7_bows 41 = .ok (.getfield 19, 3) := by decide +kernel
theorem dX7_bows_44 : decode cX7_bows 44 = .ok (.getfield 28, 3) := by decide +kernel
theorem dX7_bows_47 : decode cX7_bows 47 = .ok (.getfield 187, 3) := by decide +kernel
theorem dX7_bows_50 : decode cX7_bows 50 = .ok (.if_icmp .ge 45, 3) := by decide +kernel
theorem dX7_bows_53 : decode cX7_bows 53 = .ok (.aload_n 0, 1) := by decide +kernel
theorem dX7_bows_54 : decode cX7_bows 54 = .ok (.getfield 19, 3) := by decide +kernel
theorem dX7_bows_57 : decode cX7_bows 57 = .ok (.getfield 28, 3) := by decide +kernel
theorem dX7_bows_60 : decode cX7_bows 60 = .ok (.iload 4, 2) := by decide +kernel
theorem dX7_bows_62 : decode cX7_bows 62 = .ok (.iload_n 3, 1) := by decide +kernel
theorem dX7_bows_63 : decode cX7_bows 63 = .ok (.invokevirtual 355, 3) := by decide +kernel
theorem dX7_bows_66 : decode cX7_bows 66 = .ok (.ifCond .ne 23, 3) := by decide +kernel
theorem dX7_bows_69 : decode cX7_bows 69 = .ok (.aload_n 0, 1) := by decide +kernel
theorem dX7_bows_70 : decode cX7_bows 70 = .ok (.getfield 19, 3) := by decide +kernel
theorem dX7_bows_73 : decode cX7_bows 73 = .ok (.getfield 28, 3) := by decide +kernel
theorem dX7_bows_76 : decode cX7_bows 76 = .ok (.iload 4, 2) := by decide +kernel
theorem dX7_bows_78 : decode cX7_bows 78 = .ok (.iload_n 3, 1) := by decide +kernel
theorem dX7_bows_79 : decode cX7_bows 79 = .ok (.iload_n 1, 1) := by decide +kernel
theorem dX7_bows_80 : decode cX7_bows 80 = .ok (.invokevirtual 352, 3) := by decide +kernel
theorem dX7_bows_83 : decode cX7_bows 83 = .ok (.ifCond .eq 6, 3) := by decide +kernel
theorem dX7_bows_86 : decode cX7_bows 86 = .ok (.iinc 2 1, 3) := by decide +kernel
theorem dX7_bows_89 : decode cX7_bows 89 = .ok (.iinc 4 1, 3) := by decide +kernel
theorem dX7_bows_92 : decode cX7_bows 92 = .ok (.goto (-54), 3) := by decide +kernel
theorem dX7_bows_95 : decode cX7_bows 95 = .ok (.iinc 3 1, 3) := by decide +kernel
theorem dX7_bows_98 : decode cX7_bows 98 = .ok (.goto (-77), 3) := by decide +kernel
theorem dX7_bows_101 : decode cX7_bows 101 = .ok (.iload_n 2, 1) := by decide +kernel
theorem dX7_bows_102 : decode cX7_bows 102 = .ok (.ireturn, 1) := by decide +kernel
theorem dX7_way_0 : decode cX7_way 0 = .ok (.aload_n 0, 1) := by decide +kernel
theorem dX7_way_1 : decode cX7_way 1 = .ok (.getfield 19, 3) := by decide +kernel
theorem dX7_way_4 : decode cX7_way 4 = .ok (.getfield 28, 3) := by decide +kernel
theorem dX7_way_7 : decode cX7_way 7 = .ok (.iload_n 1, 1) := by decide +kernel
theorem dX7_way_8 : decode cX7_way 8 = .ok (.iload_n 2, 1) := by decide +kernel
theorem dX7_way_9 : decode cX7_way 9 = .ok (.invokevirtual 120, 3) := by decide +kernel
theorem dX7_way_12 : decode cX7_way 12 = .ok (.ifCond .eq 19, 3) := by decide +kernel
theorem dX7_way_15 : decode cX7_way 15 = .ok (.aload_n 0, 1) := by decide +kernel
theorem dX7_way_16 : decode cX7_way 16 = .ok (.getfield 19, 3) := by decide +kernel
theorem dX7_way_19 : decode cX7_way 19 = .ok (.getfield 28, 3) := by decide +kernel
theorem dX7_way_22 : decode cX7_way 22 = .ok (.iload_n 3, 1) := by decide +kernel
theorem dX7_way_23 : decode cX7_way 23 = .ok (.iload 4, 2) := by decide +kernel
theorem dX7_way_25 : decode cX7_way 25 = .ok (.invokevirtual 120, 3) := by decide +kernel
theorem dX7_way_28 : decode cX7_way 28 = .ok (.ifCond .ne 6, 3) := by decide +kernel
theorem dX7_way_31 : decode cX7_way 31 = .ok (.bipush (-2), 2) := by decide +kernel
theorem dX7_way_33 : decode cX7_way 33 = .ok (.ireturn, 1) := by decide +kernel
theorem dX7_way_34 : decode cX7_way 34 = .ok (.aload_n 0, 1) := by decide +kernel
theorem dX7_way_35 : decode cX7_way 35 = .ok (.getfield 19, 3) := by decide +kernel
theorem dX7_way_38 : decode cX7_way 38 = .ok (.getfield 28, 3) := by decide +kernel
theorem dX7_way_41 : decode cX7_way 41 = .ok (.iload_n 1, 1) := by decide +kernel
theorem dX7_way_42 : decode cX7_way 42 = .ok (.iload_n 2, 1) := by decide +kernel
theorem dX7_way_43 : decode cX7_way 43 = .ok (.invokevirtual 355, 3) := by decide +kernel
theorem dX7_way_46 : decode cX7_way 46 = .ok (.ifCond .ne 19, 3) := by decide +kernel
theorem dX7_way_49 : decode cX7_way 49 = .ok (.aload_n 0, 1) := by decide +kernel
theorem dX7_way_50 : decode cX7_way 50 = .ok (.getfield 19, 3) := by decide +kernel
theorem dX7_way_53 : decode cX7_way 53 = .ok (.getfield 28, 3) := by decide +kernel
theorem dX7_way_56 : decode cX7_way 56 = .ok (.iload_n 3, 1) := by decide +kernel
theorem dX7_way_57 : decode cX7_way 57 = .ok (.iload 4, 2) := by decide +kernel
theorem dX7_way_59 : decode cX7_way 59 = .ok (.invokevirtual 355, 3) := by decide +kernel
theorem dX7_way_62 : decode cX7_way 62 = .ok (.ifCond .eq 5, 3) := by decide +kernel
theorem dX7_way_65 : decode cX7_way 65 = .ok (.iconst (-1), 1) := by decide +kernel
theorem dX7_way_66 : decode cX7_way 66 = .ok (.ireturn, 1) := by decide +kernel
theorem dX7_way_67 : decode cX7_way 67 = .ok (.aload_n 0, 1) := by decide +kernel
theorem dX7_way_68 : decode cX7_way 68 = .ok (.getfield 53, 3) := by decide +kernel
theorem dX7_way_71 : decode cX7_way 71 = .ok (.aload_n 0, 1) := by decide +kernel
theorem dX7_way_72 : decode cX7_way 72 = .ok (.getfield 19, 3) := by decide +kernel
theorem dX7_way_75 : decode cX7_way 75 = .ok (.iload_n 1, 1) := by decide +kernel
theorem dX7_way_76 : decode cX7_way 76 = .ok (.iload_n 2, 1) := by decide +kernel
theorem dX7_way_77 : decode cX7_way 77 = .ok (.invokestatic 358, 3) := by decide +kernel
theorem dX7_way_80 : decode cX7_way 80 = .ok (.iload_n 3, 1) := by decide +kernel
theorem dX7_way_81 : decode cX7_way 81 = .ok (.iload 4, 2) := by decide +kernel
theorem dX7_way_83 : decode cX7_way 83 = .ok (.invokestatic 358, 3) := by decide +kernel
theorem dX7_way_86 : decode cX7_way 86 = .ok (.invokevirtual 361, 3) := by decide +kernel
theorem dX7_way_89 : decode cX7_way 89 = .ok (.ireturn, 1) := by decide +kernel
theorem dX7_keep_0 : decode cX7_keep 0 = .ok (.iload_n 1, 1) := by decide +kernel
theorem dX7_keep_1 : decode cX7_keep 1 = .ok (.iconst 0, 1) := by decide +kernel
theorem dX7_keep_2 : decode cX7_keep 2 = .ok (.iconst 2, 1) := by decide +kernel
theorem dX7_keep_3 : decode cX7_keep 3 = .ok (.invokestatic 93, 3) := by decide +kernel
theorem dX7_keep_6 : decode cX7_keep 6 = .ok (.ifCond .ne 6, 3) := by decide +kernel
theorem dX7_keep_9 : decode cX7_keep 9 = .ok (.bipush (-2), 2) := by decide +kernel
theorem dX7_keep_11 : decode cX7_keep 11 = .ok (.ireturn, 1) := by decide +kernel
theorem dX7_keep_12 : decode cX7_keep 12 = .ok (.aload_n 0, 1) := by decide +kernel
theorem dX7_keep_13 : decode cX7_keep 13 = .ok (.getfield 39, 3) := by decide +kernel
theorem dX7_keep_16 : decode cX7_keep 16 = .ok (.iload_n 1, 1) := by decide +kernel
theorem dX7_keep_17 : decode cX7_keep 17 = .ok (.aaload, 1) := by decide +kernel
theorem dX7_keep_18 : decode cX7_keep 18 = .ok (.ifnonnull 16, 3) := by decide +kernel
theorem dX7_keep_21 : decode cX7_keep 21 = .ok (.aload_n 0, 1) := by decide +kernel
theorem dX7_keep_22 : decode cX7_keep 22 = .ok (.getfield 39, 3) := by decide +kernel
theorem dX7_keep_25 : decode cX7_keep 25 = .ok (.iload_n 1, 1) := by decide +kernel
theorem dX7_keep_26 : decode cX7_keep 26 = .ok (.new 16, 3) := by decide +kernel
theorem dX7_keep_29 : decode cX7_keep 29 = .ok (.dup, 1) := by decide +kernel
theorem dX7_keep_30 : decode cX7_keep 30 = .ok (.invokespecial 18, 3) := by decide +kernel
theorem dX7_keep_33 : decode cX7_keep 33 = .ok (.aastore, 1) := by decide +kernel
theorem dX7_keep_34 : decode cX7_keep 34 = .ok (.aload_n 0, 1) := by decide +kernel
theorem dX7_keep_35 : decode cX7_keep 35 = .ok (.getfield 39, 3) := by decide +kernel
theorem dX7_keep_38 : decode cX7_keep 38 = .ok (.iload_n 1, 1) := by decide +kernel
theorem dX7_keep_39 : decode cX7_keep 39 = .ok (.aaload, 1) := by decide +kernel
theorem dX7_keep_40 : decode cX7_keep 40 = .ok (.aload_n 0, 1) := by decide +kernel
theorem dX7_keep_41 : decode cX7_keep 41 = .ok (.getfield 19, 3) := by decide +kernel
theorem dX7_keep_44 : decode cX7_keep 44 = .ok (.invokevirtual 365, 3) := by decide +kernel
theorem dX7_keep_47 : decode cX7_keep 47 = .ok (.iconst 0, 1) := by decide +kernel
theorem dX7_keep_48 : decode cX7_keep 48 = .ok (.ireturn, 1) := by decide +kernel
theorem dX7_back_0 : decode cX7_back 0 = .ok (.iload_n 1, 1) := by decide +kernel
theorem dX7_back_1 : decode cX7_back 1 = .ok (.iconst 0, 1) := by decide +kernel
theorem dX7_back_2 : decode cX7_back 2 = .ok (.iconst 2, 1) := by decide +kernel
theorem dX7_back_3 : decode cX7_back 3 = .ok (.invokestatic 93, 3) := by decide +kernel
theorem dX7_back_6 : decode cX7_back 6 = .ok (.ifCond .ne 6, 3) := by decide +kernel
theorem dX7_back_9 : decode cX7_back 9 = .ok (.bipush (-2), 2) := by decide +kernel
theorem dX7_back_11 : decode cX7_back 11 = .ok (.ireturn, 1) := by decide +kernel
theorem dX7_back_12 : decode cX7_back 12 = .ok (.aload_n 0, 1) := by decide +kernel
theorem dX7_back_13 : decode cX7_back 13 = .ok (.getfield 39, 3) := by decide +kernel
theorem dX7_back_16 : decode cX7_back 16 = .ok (.iload_n 1, 1) := by decide +kernel
theorem dX7_back_17 : decode cX7_back 17 = .ok (.aaload, 1) := by decide +kernel
theorem dX7_back_18 : decode cX7_back 18 = .ok (.ifnonnull 6, 3) := by decide +kernel
theorem dX7_back_21 : decode cX7_back 21 = .ok (.bipush (-6), 2) := by decide +kernel
theorem dX7_back_23 : decode cX7_back 23 = .ok (.ireturn, 1) := by decide +kernel
theorem dX7_back_24 : decode cX7_back 24 = .ok (.aload_n 0, 1) := by decide +kernel
theorem dX7_back_25 : decode cX7_back 25 = .ok (.getfield 19, 3) := by decide +kernel
theorem dX7_back_28 : decode cX7_back 28 = .ok (.aload_n 0, 1) := by decide +kernel
theorem dX7_back_29 : decode cX7_back 29 = .ok (.getfield 39, 3) := by decide +kernel
theorem dX7_back_32 : decode cX7_back 32 = .ok (.iload_n 1, 1) := by decide +kernel
theorem dX7_back_33 : decode cX7_back 33 = .ok (.aaload, 1) := by decide +kernel
theorem dX7_back_34 : decode cX7_back 34 = .ok (.invokevirtual 365, 3) := by decide +kernel
theorem dX7_back_37 : decode cX7_back 37 = .ok (.iconst 0, 1) := by decide +kernel
theorem dX7_back_38 : decode cX7_back 38 = .ok (.ireturn, 1) := by decide +kernel
theorem dX7_row_0 : decode cX7_row 0 = .ok (.iload_n 1, 1) := by decide +kernel
theorem dX7_row_1 : decode cX7_row 1 = .ok (.invokestatic 275, 3) := by decide +kernel
theorem dX7_row_4 : decode cX7_row 4 = .ok (.ifCond .eq 18, 3) := by decide +kernel
theorem dX7_row_7 : decode cX7_row 7 = .ok (.iload_n 2, 1) := by decide +kernel
theorem dX7_row_8 : decode cX7_row 8 = .ok (.iconst 0, 1) := by decide +kernel
theorem dX7_row_9 : decode cX7_row 9 = .ok (.iconst 3, 1) := by decide +kernel
theorem dX7_row_10 : decode cX7_row 10 = .ok (.invokestatic 93, 3) := by decide +kernel
theorem dX7_row_13 : decode cX7_row 13 = .ok (.ifCond .eq 9, 3) := by decide +kernel
theorem dX7_row_16 : decode cX7_row 16 = .ok (.iload_n 3, 1) := by decide +kernel
theorem dX7_row_17 : decode cX7_row 17 = .ok (.bipush 60, 2) := by decide +kernel
theorem dX7_row_19 : decode cX7_row 19 = .ok (.if_icmp .le 6, 3) := by decide +kernel
theorem dX7_row_22 : decode cX7_row 22 = .ok (.bipush (-2), 2) := by decide +kernel
theorem dX7_row_24 : decode cX7_row 24 = .ok (.ireturn, 1) := by decide +kernel
theorem dX7_row_25 : decode cX7_row 25 = .ok (.iload_n 3, 1) := by decide +kernel
theorem dX7_row_26 : decode cX7_row 26 = .ok (.ifCond .ge 6, 3) := by decide +kernel
theorem dX7_row_29 : decode cX7_row 29 = .ok (.bipush (-3), 2) := by decide +kernel
theorem dX7_row_31 : decode cX7_row 31 = .ok (.ireturn, 1) := by decide +kernel
theorem dX7_row_32 : decode cX7_row 32 = .ok (.aload_n 0, 1) := by decide +kernel
theorem dX7_row_33 : decode cX7_row 33 = .ok (.getfield 45, 3) := by decide +kernel
theorem dX7_row_36 : decode cX7_row 36 = .ok (.iload_n 1, 1) := by decide +kernel
theorem dX7_row_37 : decode cX7_row 37 = .ok (.aaload, 1) := by decide +kernel
theorem dX7_row_38 : decode cX7_row 38 = .ok (.iload_n 2, 1) := by decide +kernel
theorem dX7_row_39 : decode cX7_row 39 = .ok (.iload_n 3, 1) := by decide +kernel
theorem dX7_row_40 : decode cX7_row 40 = .ok (.invokevirtual 368, 3) := by decide +kernel
theorem dX7_row_43 : decode cX7_row 43 = .ok (.iconst 0, 1) := by decide +kernel
theorem dX7_row_44 : decode cX7_row 44 = .ok (.ireturn, 1) := by decide +kernel
theorem dX7_write_0 : decode cX7_write 0 = .ok (.iload_n 1, 1) := by decide +kernel
theorem dX7_write_1 : decode cX7_write 1 = .ok (.invokestatic 275, 3) := by decide +kernel
theorem dX7_write_4 : decode cX7_write 4 = .ok (.ifCond .ne 6, 3) := by decide +kernel
theorem dX7_write_7 : decode cX7_write 7 = .ok (.bipush (-2), 2) := by decide +kernel
theorem dX7_write_9 : decode cX7_write 9 = .ok (.ireturn, 1) := by decide +kernel
theorem dX7_write_10 : decode cX7_write 10 = .ok (.aload_n 0, 1) := by decide +kernel
theorem dX7_write_11 : decode cX7_write 11 = .ok (.getfield 45, 3) := by decide +kernel
theorem dX7_write_14 : decode cX7_write 14 = .ok (.iload_n 1, 1) := by decide +kernel
theorem dX7_write_15 : decode cX7_write 15 = .ok (.aaload, 1) := by decide +kernel
theorem dX7_write_16 : decode cX7_write 16 = .ok (.getfield 278, 3) := by decide +kernel
theorem dX7_write_19 : decode cX7_write 19 = .ok (.ifCond .ne 6, 3) := by decide +kernel
theorem dX7_write_22 : decode cX7_write 22 = .ok (.bipush (-6), 2) := by decide +kernel
theorem dX7_write_24 : decode cX7_write 24 = .ok (.ireturn, 1) := by decide +kernel
theorem dX7_write_25 : decode cX7_write 25 = .ok (.iload_n 2, 1) := by decide +kernel
theorem dX7_write_26 : decode cX7_write 26 = .ok (.ifCond .lt 16, 3) := by decide +kernel
theorem dX7_write_29 : decode cX7_write 29 = .ok (.iload_n 2, 1) := by decide +kernel
theorem dX7_write_30 : decode cX7_write 30 = .ok (.aload_n 0, 1) := by decide +kernel
theorem dX7_write_31 : decode cX7_write 31 = .ok (.getfield 45, 3) := by decide +kernel
theorem dX7_write_34 : decode cX7_write 34 = .ok (.iload_n 1, 1) := by decide +kernel
theorem dX7_write_35 : decode cX7_write 35 = .ok (.aaload, 1) := by decide +kernel
theorem dX7_write_36 : decode cX7_write 36 = .ok (.getfield 333, 3) := by decide +kernel
theorem dX7_write_39 : decode cX7_write 39 = .ok (.if_icmp .lt 6, 3) := by decide +kernel
theorem dX7_write_42 : decode cX7_write 42 = .ok (.bipush (-7), 2) := by decide +kernel
theorem dX7_write_44 : decode cX7_write 44 = .ok (.ireturn, 1) := by decide +kernel
theorem dX7_write_45 : decode cX7_write 45 = .ok (.aload_n 0, 1) := by decide +kernel
theorem dX7_write_46 : decode cX7_write 46 = .ok (.getfield 45, 3) := by decide +kernel
theorem dX7_write_49 : decode cX7_write 49 = .ok (.iload_n 1, 1) := by decide +kernel
theorem dX7_write_50 : decode cX7_write 50 = .ok (.aaload, 1) := by decide +kernel
theorem dX7_write_51 : decode cX7_write 51 = .ok (.getfield 371, 3) := by decide +kernel
theorem dX7_write_54 : decode cX7_write 54 = .ok (.iload_n 2, 1) := by decide +kernel
theorem dX7_write_55 : decode cX7_write 55 = .ok (.aload_n 0, 1) := by decide +kernel
theorem dX7_write_56 : decode cX7_write 56 = .ok (.getfield 45, 3) := by decide +kernel
theorem dX7_write_59 : decode cX7_write 59 = .ok (.iload_n 1, 1) := by decide +kernel
theorem dX7_write_60 : decode cX7_write 60 = .ok (.aaload, 1) := by decide +kernel
theorem dX7_write_61 : decode cX7_write 61 = .ok (.lload_n 3, 1) := by decide +kernel
theorem dX7_write_62 : decode cX7_write 62 = .ok (.invokevirtual 375, 3) := by decide +kernel
theorem dX7_write_65 : decode cX7_write 65 = .ok (.lastore, 1) := by decide +kernel
theorem dX7_write_66 : decode cX7_write 66 = .ok (.iconst 0, 1) := by decide +kernel
theorem dX7_write_67 : decode cX7_write 67 = .ok (.ireturn, 1) := by decide +kernel
theorem dX7_paste_0 : decode cX7_paste 0 = .ok (.iload_n 1, 1) := by decide +kernel
theorem dX7_paste_1 : decode cX7_paste 1 = .ok (.invokestatic 275, 3) := by decide +kernel
theorem dX7_paste_4 : decode cX7_paste 4 = .ok (.ifCond .eq 10, 3) := by decide +kernel
theorem dX7_paste_7 : decode cX7_paste 7 = .ok (.iload_n 3, 1) := by decide +kernel
theorem dX7_paste_8 : decode cX7_paste 8 = .ok (.invokestatic 275, 3) := by decide +kernel
theorem dX7_paste_11 : decode cX7_paste 11 = .ok (.ifCond .ne 6, 3) := by decide +kernel
theorem dX7_paste_14 : decode cX7_paste 14 = .ok (.bipush (-2), 2) := by decide +kernel
theorem dX7_paste_16 : decode cX7_paste 16 = .ok (.ireturn, 1) := by decide +kernel
theorem dX7_paste_17 : decode cX7_paste 17 = .ok (.aload_n 0, 1) := by decide +kernel
theorem dX7_paste_18 : decode cX7_paste 18 = .ok (.getfield 45, 3) := by decide +kernel
theorem dX7_paste_21 : decode cX7_paste 21 = .ok (.iload_n 1, 1) := by decide +kernel
theorem dX7_paste_22 : decode cX7_paste 22 = .ok (.aaload, 1) := by decide +kernel
theorem dX7_paste_23 : decode cX7_paste 23 = .ok (.astore 6, 2) := by decide +kernel
theorem dX7_paste_25 : decode cX7_paste 25 = .ok (.aload_n 0, 1) := by decide +kernel
theorem dX7_paste_26 : decode cX7_paste 26 = .ok (.getfield 45, 3) := by decide +kernel
theorem dX7_paste_29 : decode cX7_paste 29 = .ok (.iload_n 3, 1) := by decide +kernel
theorem dX7_paste_30 : decode cX7_paste 30 = .ok (.aaload, 1) := by decide +kernel
theorem dX7_paste_31 : decode cX7_paste 31 = .ok (.astore 7, 2) := by decide +kernel
theorem dX7_paste_33 : decode cX7_paste 33 = .ok (.aload 6, 2) := by decide +kernel
theorem dX7_paste_35 : decode cX7_paste 35 = .ok (.getfield 278, 3) := by decide +kernel
theorem dX7_paste_38 : decode cX7_paste 38 = .ok (.ifCond .eq 11, 3) := by decide +kernel
theorem dX7_paste_41 : decode cX7_paste 41 = .ok (.aload 7, 2) := by decide +kernel
theorem dX7_paste_43 : decode cX7_paste 43 = .ok (.getfield 278, 3) := by decide +kernel
theorem dX7_paste_46 : decode cX7_paste 46 = .ok (.ifCond .ne 6, 3) := by decide +kernel
theorem dX7_paste_49 : decode cX7_paste 49 = .ok (.bipush (-6), 2) := by decide +kernel
theorem dX7_paste_51 : decode cX7_paste 51 = .ok (.ireturn, 1) := by decide +kernel
theorem dX7_paste_52 : decode cX7_paste 52 = .ok (.aload 6, 2) := by decide +kernel
theorem dX7_paste_54 : decode cX7_paste 54 = .ok (.getfield 379, 3) := by decide +kernel
theorem dX7_paste_57 : decode cX7_paste 57 = .ok (.aload 7, 2) := by decide +kernel
theorem dX7_paste_59 : decode cX7_paste 59 = .ok (.getfield 379, 3) := by decide +kernel
theorem dX7_paste_62 : decode cX7_paste 62 = .ok (.if_icmp .eq 6, 3) := by decide +kernel
theorem dX7_paste_65 : decode cX7_paste 65 = .ok (.bipush (-8), 2) := by decide +kernel
theorem dX7_paste_67 : decode cX7_paste 67 = .ok (.ireturn, 1) := by decide +kernel
theorem dX7_paste_68 : decode cX7_paste 68 = .ok (.aload 6, 2) := by decide +kernel
theorem dX7_paste_70 : decode cX7_paste 70 = .ok (.iload_n 2, 1) := by decide +kernel
theorem dX7_paste_71 : decode cX7_paste 71 = .ok (.iload 5, 2) := by decide +kernel
theorem dX7_paste_73 : decode cX7_paste 73 = .ok (.invokevirtual 382, 3) := by decide +kernel
theorem dX7_paste_76 : decode cX7_paste 76 = .ok (.ifCond .eq 15, 3) := by decide +kernel
theorem dX7_paste_79 : decode cX7_paste 79 = .ok (.aload 7, 2) := by decide +kernel
theorem dX7_paste_81 : decode cX7_paste 81 = .ok (.iload 4, 2) := by decide +kernel
theorem dX7_paste_83 : decode cX7_paste 83 = .ok (.iload 5, 2) := by decide +kernel
theorem dX7_paste_85 : decode cX7_paste 85 = .ok (.invokevirtual 382, 3) := by decide +kernel
theorem dX7_paste_88 : decode cX7_paste 88 = .ok (.ifCond .ne 6, 3) := by decide +kernel
theorem dX7_paste_91 : decode cX7_paste 91 = .ok (.bipush (-7), 2) := by decide +kernel
theorem dX7_paste_93 : decode cX7_paste 93 = .ok (.ireturn, 1) := by decide +kernel
theorem dX7_paste_94 : decode cX7_paste 94 = .ok (.aload 6, 2) := by decide +kernel
theorem dX7_paste_96 : decode cX7_paste 96 = .ok (.getfield 371, 3) := by decide +kernel
theorem dX7_paste_99 : decode cX7_paste 99 = .ok (.iload_n 2, 1) := by decide +kernel
theorem dX7_paste_100 : decode cX7_paste 100 = .ok (.aload 7, 2) := by decide +kernel
theorem dX7_paste_102 : decode cX7_paste 102 = .ok (.getfield 371, 3) := by decide +kernel
theorem dX7_paste_105 : decode cX7_paste 105 = .ok (.iload 4, 2) := by decide +kernel
theorem dX7_paste_107 : decode cX7_paste 107 = .ok (.iload 5, 2) := by decide +kernel
theorem dX7_paste_109 : decode cX7_paste 109 = .ok (.invokestatic 385, 3) := by decide +kernel
theorem dX7_paste_112 : decode cX7_paste 112 = .ok (.iconst 0, 1) := by decide +kernel
theorem dX7_paste_113 : decode cX7_paste 113 = .ok (.ireturn, 1) := by decide +kernel
theorem dX7_isWithin_0 : decode cX7_isWithin 0 = .ok (.iload_n 0, 1) := by decide +kernel
theorem dX7_isWithin_1 : decode cX7_isWithin 1 = .ok (.iload_n 1, 1) := by decide +kernel
theorem dX7_isWithin_2 : decode cX7_isWithin 2 = .ok (.if_icmp .lt 12, 3) := by decide +kernel
theorem dX7_isWithin_5 : decode cX7_isWithin 5 = .ok (.iload_n 0, 1) := by decide +kernel
theorem dX7_isWithin_6 : decode cX7_isWithin 6 = .ok (.iload_n 2, 1) := by decide +kernel
theorem dX7_isWithin_7 : decode cX7_isWithin 7 = .ok (.if_icmp .gt 7, 3) := by decide +kernel
theorem dX7_isWithin_10 : decode cX7_isWithin 10 = .ok (.iconst 1, 1) := by decide +kernel
theorem dX7_isWithin_11 : decode cX7_isWithin 11 = .ok (.goto 4, 3) := by decide +kernel
theorem dX7_isWithin_14 : decode cX7_isWithin 14 = .ok (.iconst 0, 1) := by decide +kernel
theorem dX7_isWithin_15 : decode cX7_isWithin 15 = .ok (.ireturn, 1) := by decide +kernel
theorem dX7_isWind_0 : decode cX7_isWind 0 = .ok (.iload_n 0, 1) := by decide +kernel
theorem dX7_isWind_1 : decode cX7_isWind 1 = .ok (.iconst 0, 1) := by decide +kernel
theorem dX7_isWind_2 : decode cX7_isWind 2 = .ok (.bipush 39, 2) := by decide +kernel
theorem dX7_isWind_4 : decode cX7_isWind 4 = .ok (.invokestatic 93, 3) := by decide +kernel
theorem dX7_isWind_7 : decode cX7_isWind 7 = .ok (.ireturn, 1) := by decide +kernel
theorem dX7_isWay_0 : decode cX7_isWay 0 = .ok (.iload_n 0, 1) := by decide +kernel
theorem dX7_isWay_1 : decode cX7_isWay 1 = .ok (.iconst 0, 1) := by decide +kernel
theorem dX7_isWay_2 : decode cX7_isWay 2 = .ok (.iconst 3, 1) := by decide +kernel
theorem dX7_isWay_3 : decode cX7_isWay 3 = .ok (.invokestatic 93, 3) := by decide +kernel
theorem dX7_isWay_6 : decode cX7_isWay 6 = .ok (.ireturn, 1) := by decide +kernel
theorem dX7_isSlot_0 : decode cX7_isSlot 0 = .ok (.iload_n 0, 1) := by decide +kernel
theorem dX7_isSlot_1 : decode cX7_isSlot 1 = .ok (.iconst 0, 1) := by decide +kernel
theorem dX7_isSlot_2 : decode cX7_isSlot 2 = .ok (.iconst 3, 1) := by decide +kernel
theorem dX7_isSlot_3 : decode cX7_isSlot 3 = .ok (.invokestatic 93, 3) := by decide +kernel
theorem dX7_isSlot_6 : decode cX7_isSlot 6 = .ok (.ireturn, 1) := by decide +kernel
theorem dX7_placeOf_0 : decode cX7_placeOf 0 = .ok (.iload_n 0, 1) := by decide +kernel
theorem dX7_placeOf_1 : decode cX7_placeOf 1 = .ok (.bipush 100, 2) := by decide +kernel
theorem dX7_placeOf_3 : decode cX7_placeOf 3 = .ok (.iload_n 1, 1) := by decide +kernel
theorem dX7_placeOf_4 : decode cX7_placeOf 4 = .ok (.imul, 1) := by decide +kernel
theorem dX7_placeOf_5 : decode cX7_placeOf 5 = .ok (.iadd, 1) := by decide +kernel
theorem dX7_placeOf_6 : decode cX7_placeOf 6 = .ok (.ireturn, 1) := by decide +kernel
theorem dX7_cellOf_0 : decode cX7_cellOf 0 = .ok (.bipush 30, 2) := by decide +kernel
theorem dX7_cellOf_2 : decode cX7_cellOf 2 = .ok (.iload_n 1, 1) := by decide +kernel
theorem dX7_cellOf_3 : decode cX7_cellOf 3 = .ok (.imul, 1) := by decide +kernel
theorem dX7_cellOf_4 : decode cX7_cellOf 4 = .ok (.iload_n 0, 1) := by decide +kernel
theorem dX7_cellOf_5 : decode cX7_cellOf 5 = .ok (.iadd, 1) := by decide +kernel
theorem dX7_cellOf_6 : decode cX7_cellOf 6 = .ok (.ireturn, 1) := by decide +kernel
theorem dX7_paceOf_0 : decode cX7_paceOf 0 = .ok (.iconst 0, 1) := by decide +kernel
theorem dX7_paceOf_1 : decode cX7_paceOf 1 = .ok (.istore_n 1, 1) := by decide +kernel
theorem dX7_paceOf_2 : decode cX7_paceOf 2 = .ok (.iload_n 1, 1) := by decide +kernel
theorem dX7_paceOf_3 : decode cX7_paceOf 3 = .ok (.bipush 11, 2) := by decide +kernel
theorem dX7_paceOf_5 : decode cX7_paceOf 5 = .ok (.if_icmp .ge 20, 3) := by decide +kernel
theorem dX7_paceOf_8 : decode cX7_paceOf 8 = .ok (.iload_n 1, 1) := by decide +kernel
theorem dX7_paceOf_9 : decode cX7_paceOf 9 = .ok (.iload_n 1, 1) := by decide +kernel
theorem dX7_paceOf_10 : decode cX7_paceOf 10 = .ok (.iconst 1, 1) := by decide +kernel
theorem dX7_paceOf_11 : decode cX7_paceOf 11 = .ok (.iadd, 1) := by decide +kernel
theorem dX7_paceOf_12 : decode cX7_paceOf 12 = .ok (.imul, 1) := by decide +kernel
theorem dX7_paceOf_13 : decode cX7_paceOf 13 = .ok (.iconst 2, 1) := by decide +kernel
theorem dX7_paceOf_14 : decode cX7_paceOf 14 = .ok (.idiv, 1) := by decide +kernel
theorem dX7_paceOf_15 : decode cX7_paceOf 15 = .ok (.iload_n 0, 1) := by decide +kernel
theorem dX7_paceOf_16 : decode cX7_paceOf 16 = .ok (.if_icmp .ge 9, 3) := by decide +kernel
theorem dX7_paceOf_19 : decode cX7_paceOf 19 = .ok (.iinc 1 1, 3) := by decide +kernel
theorem dX7_paceOf_22 : decode cX7_paceOf 22 = .ok (.goto (-20), 3) := by decide +kernel
theorem dX7_paceOf_25 : decode cX7_paceOf 25 = .ok (.iload_n 1, 1) := by decide +kernel
theorem dX7_paceOf_26 : decode cX7_paceOf 26 = .ok (.ireturn, 1) := by decide +kernel
theorem dX7_flightOf_0 : decode cX7_flightOf 0 = .ok (.iconst 2, 1) := by decide +kernel
theorem dX7_flightOf_1 : decode cX7_flightOf 1 = .ok (.iload_n 0, 1) := by decide +kernel
theorem dX7_flightOf_2 : decode cX7_flightOf 2 = .ok (.invokestatic 97, 3) := by decide +kernel
theorem dX7_flightOf_5 : decode cX7_flightOf 5 = .ok (.imul, 1) := by decide +kernel
theorem dX7_flightOf_6 : decode cX7_flightOf 6 = .ok (.ireturn, 1) := by decide +kernel
theorem dX7_hasSquare_0 : decode cX7_hasSquare 0 = .ok (.aload_n 0, 1) := by decide +kernel
theorem dX7_hasSquare_1 : decode cX7_hasSquare 1 = .ok (.getfield 19, 3) := by decide +kernel
theorem dX7_hasSquare_4 : decode cX7_hasSquare 4 = .ok (.getfield 28, 3) := by decide +kernel
theorem dX7_hasSquare_7 : decode cX7_hasSquare 7 = .ok (.getfield 84, 3) := by decide +kernel
theorem dX7_hasSquare_10 : decode cX7_hasSquare 10 = .ok (.ifCond .le 7, 3) := by decide +kernel
theorem dX7_hasSquare_13 : decode cX7_hasSquare 13 = .ok (.iconst 1, 1) := by decide +kernel
theorem dX7_hasSquare_14 : decode cX7_hasSquare 14 = .ok (.goto 4, 3) := by decide +kernel
theorem dX7_hasSquare_17 : decode cX7_hasSquare 17 = .ok (.iconst 0, 1) := by decide +kernel
theorem dX7_hasSquare_18 : decode cX7_hasSquare 18 = .ok (.ireturn, 1) := by decide +kernel
theorem dX7_isSize_0 : decode cX7_isSize 0 = .ok (.iload_n 1, 1) := by decide +kernel
theorem dX7_isSize_1 : decode cX7_isSize 1 = .ok (.iconst 0, 1) := by decide +kernel
theorem dX7_isSize_2 : decode cX7_isSize 2 = .ok (.aload_n 0, 1) := by decide +kernel
theorem dX7_isSize_3 : decode cX7_isSize 3 = .ok (.getfield 19, 3) := by decide +kernel
theorem dX7_isSize_6 : decode cX7_isSize 6 = .ok (.getfield 28, 3) := by decide +kernel
theorem dX7_isSize_9 : decode cX7_isSize 9 = .ok (.getfield 199, 3) := by decide +kernel
theorem dX7_isSize_12 : decode cX7_isSize 12 = .ok (.iconst 1, 1) := by decide +kernel
theorem dX7_isSize_13 : decode cX7_isSize 13 = .ok (.isub, 1) := by decide +kernel
theorem dX7_isSize_14 : decode cX7_isSize 14 = .ok (.invokestatic 93, 3) := by decide +kernel
theorem dX7_isSize_17 : decode cX7_isSize 17 = .ok (.ireturn, 1) := by decide +kernel
theorem dX7_isTable_0 : decode cX7_isTable 0 = .ok (.iload_n 1, 1) := by decide +kernel
theorem dX7_isTable_1 : decode cX7_isTable 1 = .ok (.iconst 0, 1) := by decide +kernel
theorem dX7_isTable_2 : decode cX7_isTable 2 = .ok (.aload_n 0, 1) := by decide +kernel
theorem dX7_isTable_3 : decode cX7_isTable 3 = .ok (.getfield 19, 3) := by decide +kernel
theorem dX7_isTable_6 : decode cX7_isTable 6 = .ok (.getfield 28, 3) := by decide +kernel
theorem dX7_isTable_9 : decode cX7_isTable 9 = .ok (.getfield 202, 3) := by decide +kernel
theorem dX7_isTable_12 : decode cX7_isTable 12 = .ok (.iconst 1, 1) := by decide +kernel
theorem dX7_isTable_13 : decode cX7_isTable 13 = .ok (.isub, 1) := by decide +kernel
theorem dX7_isTable_14 : decode cX7_isTable 14 = .ok (.invokestatic 93, 3) := by decide +kernel
theorem dX7_isTable_17 : decode cX7_isTable 17 = .ok (.ireturn, 1) := by decide +kernel
theorem dX7_isThrow_0 : decode cX7_isThrow 0 = .ok (.aload_n 0, 1) := by decide +kernel
theorem dX7_isThrow_1 : decode cX7_isThrow 1 = .ok (.iload_n 1, 1) := by decide +kernel
theorem dX7_isThrow_2 : decode cX7_isThrow 2 = .ok (.invokevirtual 258, 3) := by decide +kernel
theorem dX7_isThrow_5 : decode cX7_isThrow 5 = .ok (.ifCond .eq 24, 3) := by decide +kernel
theorem dX7_isThrow_8 : decode cX7_isThrow 8 = .ok (.iload_n 2, 1) := by decide +kernel
theorem dX7_isThrow_9 : decode cX7_isThrow 9 = .ok (.iconst 1, 1) := by decide +kernel
theorem dX7_isThrow_10 : decode cX7_isThrow 10 = .ok (.bipush 60, 2) := by decide +kernel
theorem dX7_isThrow_12 : decode cX7_isThrow 12 = .ok (.invokestatic 93, 3) := by decide +kernel
theorem dX7_isThrow_15 : decode cX7_isThrow 15 = .ok (.ifCond .eq 14, 3) := by decide +kernel
theorem dX7_isThrow_18 : decode cX7_isThrow 18 = .ok (.iload_n 3, 1) := by decide +kernel
theorem dX7_isThrow_19 : decode cX7_isThrow 19 = .ok (.invokestatic 246, 3) := by decide +kernel
theorem dX7_isThrow_22 : decode cX7_isThrow 22 = .ok (.ifCond .eq 7, 3) := by decide +kernel
theorem dX7_isThrow_25 : decode cX7_isThrow 25 = .ok (.iconst 1, 1) := by decide +kernel
theorem dX7_isThrow_26 : decode cX7_isThrow 26 = .ok (.goto 4, 3) := by decide +kernel
theorem dX7_isThrow_29 : decode cX7_isThrow 29 = .ok (.iconst 0, 1) := by decide +kernel
theorem dX7_isThrow_30 : decode cX7_isThrow 30 = .ok (.ireturn, 1) := by decide +kernel
theorem dX7_areGusts_0 : decode cX7_areGusts 0 = .ok (.aload_n 0, 1) := by decide +kernel
theorem dX7_areGusts_1 : decode cX7_areGusts 1 = .ok (.invokevirtual 178, 3) := by decide +kernel
theorem dX7_areGusts_4 : decode cX7_areGusts 4 = .ok (.ifCond .eq 47, 3) := by decide +kernel
theorem dX7_areGusts_7 : decode cX7_areGusts 7 = .ok (.iload_n 1, 1) := by decide +kernel
theorem dX7_areGusts_8 : decode cX7_areGusts 8 = .ok (.iconst 0, 1) := by decide +kernel
theorem dX7_areGusts_9 : decode cX7_areGusts 9 = .ok (.ldc_w 391, 3) := by decide +kernel
theorem dX7_areGusts_12 : decode cX7_areGusts 12 = .ok (.invokestatic 93, 3) := by decide +kernel
theorem dX7_areGusts_15 : decode cX7_areGusts 15 = .ok (.ifCond .eq 36, 3) := by decide +kernel
theorem dX7_areGusts_18 : decode cX7_areGusts 18 = .ok (.iload_n 2, 1) := by decide +kernel
theorem dX7_areGusts_19 : decode cX7_areGusts 19 = .ok (.invokestatic 246, 3) := by decide +kernel
theorem dX7_areGusts_22 : decode cX7_areGusts 22 = .ok (.ifCond .eq 29, 3) := by decide +kernel
theorem dX7_areGusts_25 : decode cX7_areGusts 25 = .ok (.iload_n 3, 1) := by decide +kernel
theorem dX7_areGusts_26 : decode cX7_areGusts 26 = .ok (.iconst 0, 1) := by decide +kernel
theorem dX7_areGusts_27 : decode cX7_areGusts 27 = .ok (.sipush 400, 3) := by decide +kernel
theorem dX7_areGusts_30 : decode cX7_areGusts 30 = .ok (.invokestatic 93, 3) := by decide +kernel
theorem dX7_areGusts_33 : decode cX7_areGusts 33 = .ok (.ifCond .eq 18, 3) := by decide +kernel
theorem dX7_areGusts_36 : decode cX7_areGusts 36 = .ok (.iload 4, 2) := by decide +kernel
theorem dX7_areGusts_38 : decode cX7_areGusts 38 = .ok (.iconst 0, 1) := by decide +kernel
theorem dX7_areGusts_39 : decode cX7_areGusts 39 = .ok (.bipush 100, 2) := by decide +kernel
theorem dX7_areGusts_41 : decode cX7_areGusts 41 = .ok (.invokestatic 93, 3) := by decide +kernel
theorem dX7_areGusts_44 : decode cX7_areGusts 44 = .ok (.ifCond .eq 7, 3) := by decide +kernel
theorem dX7_areGusts_47 : decode cX7_areGusts 47 = .ok (.iconst 1, 1) := by decide +kernel
theorem dX7_areGusts_48 : decode cX7_areGusts 48 = .ok (.goto 4, 3) := by decide +kernel
theorem dX7_areGusts_51 : decode cX7_areGusts 51 = .ok (.iconst 0, 1) := by decide +kernel
theorem dX7_areGusts_52 : decode cX7_areGusts 52 = .ok (.ireturn, 1) := by decide +kernel
theorem dX7_isThought_0 : decode cX7_isThought 0 = .ok (.iload_n 2, 1) := by decide +kernel
theorem dX7_isThought_1 : decode cX7_isThought 1 = .ok (.iconst 0, 1) := by decide +kernel
theorem dX7_isThought_2 : decode cX7_isThought 2 = .ok (.iconst 5, 1) := by decide +kernel
theorem dX7_isThought_3 : decode cX7_isThought 3 = .ok (.invokestatic 93, 3) := by decide +kernel
theorem dX7_isThought_6 : decode cX7_isThought 6 = .ok (.ifCond .eq 15, 3) := by decide +kernel
theorem dX7_isThought_9 : decode cX7_isThought 9 = .ok (.aload_n 0, 1) := by decide +kernel
theorem dX7_isThought_10 : decode cX7_isThought 10 = .ok (.iload_n 1, 1) := by decide +kernel
theorem dX7_isThought_11 : decode cX7_isThought 11 = .ok (.invokevirtual 105, 3) := by decide +kernel
theorem dX7_isThought_14 : decode cX7_isThought 14 = .ok (.ifCond .ne 7, 3) := by decide +kernel
theorem dX7_isThought_17 : decode cX7_isThought 17 = .ok (.iconst 1, 1) := by decide +kernel
theorem dX7_isThought_18 : decode cX7_isThought 18 = .ok (.goto 4, 3) := by decide +kernel
theorem dX7_isThought_21 : decode cX7_isThought 21 = .ok (.iconst 0, 1) := by decide +kernel
theorem dX7_isThought_22 : decode cX7_isThought 22 = .ok (.ireturn, 1) := by decide +kernel
theorem dX7_refusalOf_0 : decode cX7_refusalOf 0 = .ok (.iload_n 1, 1) := by decide +kernel
theorem dX7_refusalOf_1 : decode cX7_refusalOf 1 = .ok (.invokestatic 275, 3) := by decide +kernel
theorem dX7_refusalOf_4 : decode cX7_refusalOf 4 = .ok (.ifCond .eq 10, 3) := by decide +kernel
theorem dX7_refusalOf_7 : decode cX7_refusalOf 7 = .ok (.aload_n 0, 1) := by decide +kernel
theorem dX7_refusalOf_8 : decode cX7_refusalOf 8 = .ok (.invokevirtual 178, 3) := by decide +kernel
theorem dX7_refusalOf_11 : decode cX7_refusalOf 11 = .ok (.ifCond .ne 6, 3) := by decide +kernel
theorem dX7_refusalOf_14 : decode cX7_refusalOf 14 = .ok (.bipush (-2), 2) := by decide +kernel
theorem dX7_refusalOf_16 : decode cX7_refusalOf 16 = .ok (.ireturn, 1) := by decide +kernel
theorem dX7_refusalOf_17 : decode cX7_refusalOf 17 = .ok (.aload_n 0, 1) := by decide +kernel
theorem dX7_refusalOf_18 : decode cX7_refusalOf 18 = .ok (.getfield 45, 3) := by decide +kernel
theorem dX7_refusalOf_21 : decode cX7_refusalOf 21 = .ok (.iload_n 1, 1) := by decide +kernel
theorem dX7_refusalOf_22 : decode cX7_refusalOf 22 = .ok (.aaload, 1) := by decide +kernel
theorem dX7_refusalOf_23 : decode cX7_refusalOf 23 = .ok (.getfield 278, 3) := by decide +kernel
theorem dX7_refusalOf_26 : decode cX7_refusalOf 26 = .ok (.ifCond .ne 6, 3) := by decide +kernel
theorem dX7_refusalOf_29 : decode cX7_refusalOf 29 = .ok (.bipush (-6), 2) := by decide +kernel
theorem dX7_refusalOf_31 : decode cX7_refusalOf 31 = .ok (.ireturn, 1) := by decide +kernel
theorem dX7_refusalOf_32 : decode cX7_refusalOf 32 = .ok (.aload_n 0, 1) := by decide +kernel
theorem dX7_refusalOf_33 : decode cX7_refusalOf 33 = .ok (.getfield 45, 3) := by decide +kernel
theorem dX7_refusalOf_36 : decode cX7_refusalOf 36 = .ok (.iload_n 1, 1) := by decide +kernel
theorem dX7_refusalOf_37 : decode cX7_refusalOf 37 = .ok (.aaload, 1) := by decide +kernel
theorem dX7_refusalOf_38 : decode cX7_refusalOf 38 = .ok (.invokevirtual 392, 3) := by decide +kernel
theorem dX7_refusalOf_41 : decode cX7_refusalOf 41 = .ok (.ifCond .eq 7, 3) := by decide +kernel
theorem dX7_refusalOf_44 : decode cX7_refusalOf 44 = .ok (.iconst 0, 1) := by decide +kernel
theorem dX7_refusalOf_45 : decode cX7_refusalOf 45 = .ok (.goto 5, 3) := by decide +kernel
theorem dX7_refusalOf_48 : decode cX7_refusalOf 48 = .ok (.bipush (-2), 2) := by decide +kernel
theorem dX7_refusalOf_50 : decode cX7_refusalOf 50 = .ok (.ireturn, 1) := by decide +kernel
theorem dX7_blowMany_0 : decode cX7_blowMany 0 = .ok (.aload_n 0, 1) := by decide +kernel
theorem dX7_blowMany_1 : decode cX7_blowMany 1 = .ok (.invokevirtual 178, 3) := by decide +kernel
theorem dX7_blowMany_4 : decode cX7_blowMany 4 = .ok (.ifCond .eq 10, 3) := by decide +kernel
theorem dX7_blowMany_7 : decode cX7_blowMany 7 = .ok (.iload_n 1, 1) := by decide +kernel
theorem dX7_blowMany_8 : decode cX7_blowMany 8 = .ok (.invokestatic 246, 3) := by decide +kernel
theorem dX7_blowMany_11 : decode cX7_blowMany 11 = .ok (.ifCond .ne 6, 3) := by decide +kernel
theorem dX7_blowMany_14 : decode cX7_blowMany 14 = .ok (.bipush (-2), 2) := by decide +kernel
theorem dX7_blowMany_16 : decode cX7_blowMany 16 = .ok (.ireturn, 1) := by decide +kernel
theorem dX7_blowMany_17 : decode cX7_blowMany 17 = .ok (.iconst 0, 1) := by decide +kernel
theorem dX7_blowMany_18 : decode cX7_blowMany 18 = .ok (.istore_n 3, 1) := by decide +kernel
theorem dX7_blowMany_19 : decode cX7_blowMany 19 = .ok (.iconst 0, 1) := by decide +kernel
theorem dX7_blowMany_20 : decode cX7_blowMany 20 = .ok (.istore 4, 2) := by decide +kernel
theorem dX7_blowMany_22 : decode cX7_blowMany 22 = .ok (.iload 4, 2) := by decide +kernel
theorem dX7_blowMany_24 : decode cX7_blowMany 24 = .ok (.iload_n 2, 1) := by decide +kernel
theorem dX7_blowMany_25 : decode cX7_blowMany 25 = .ok (.if_icmp .ge 20, 3) := by decide +kernel
theorem dX7_blowMany_28 : decode cX7_blowMany 28 = .ok (.iload_n 3, 1) := by decide +kernel
theorem dX7_blowMany_29 : decode cX7_blowMany 29 = .ok (.aload_n 0, 1) := by decide +kernel
theorem dX7_blowMany_30 : decode cX7_blowMany 30 = .ok (.getfield 19, 3) := by decide +kernel
theorem dX7_blowMany_33 : decode cX7_blowMany 33 = .ok (.iload_n 1, 1) := by decide +kernel
theorem dX7_blowMany_34 : decode cX7_blowMany 34 = .ok (.invokevirtual 337, 3) := by decide +kernel
theorem dX7_blowMany_37 : decode cX7_blowMany 37 = .ok (.iadd, 1) := by decide +kernel
theorem dX7_blowMany_38 : decode cX7_blowMany 38 = .ok (.istore_n 3, 1) := by decide +kernel
theorem dX7_blowMany_39 : decode cX7_blowMany 39 = .ok (.iinc 4 1, 3) := by decide +kernel
theorem dX7_blowMany_42 : decode cX7_blowMany 42 = .ok (.goto (-20), 3) := by decide +kernel
theorem dX7_blowMany_45 : decode cX7_blowMany 45 = .ok (.iload_n 3, 1) := by decide +kernel
theorem dX7_blowMany_46 : decode cX7_blowMany 46 = .ok (.ireturn, 1) := by decide +kernel
theorem dX7_countRows_0 : decode cX7_countRows 0 = .ok (.iconst 0, 1) := by decide +kernel
theorem dX7_countRows_1 : decode cX7_countRows 1 = .ok (.istore_n 1, 1) := by decide +kernel
theorem dX7_countRows_2 : decode cX7_countRows 2 = .ok (.iconst 0, 1) := by decide +kernel
theorem dX7_countRows_3 : decode cX7_countRows 3 = .ok (.istore_n 2, 1) := by decide +kernel
theorem dX7_countRows_4 : decode cX7_countRows 4 = .ok (.iload_n 2, 1) := by decide +kernel
theorem dX7_countRows_5 : decode cX7_countRows 5 = .ok (.iconst 4, 1) := by decide +kernel
theorem dX7_countRows_6 : decode cX7_countRows 6 = .ok (.if_icmp .ge 24, 3) := by decide +kernel
theorem dX7_countRows_9 : decode cX7_countRows 9 = .ok (.aload_n 0, 1) := by decide +kernel
theorem dX7_countRows_10 : decode cX7_countRows 10 = .ok (.getfield 45, 3) := by decide +kernel
theorem dX7_countRows_13 : decode cX7_countRows 13 = .ok (.iload_n 2, 1) := by decide +kernel
theorem dX7_countRows_14 : decode cX7_countRows 14 = .ok (.aaload, 1) := by decide +kernel
theorem dX7_countRows_15 : decode cX7_countRows 15 = .ok (.getfield 278, 3) := by decide +kernel
theorem dX7_countRows_18 : decode cX7_countRows 18 = .ok (.ifCond .eq 6, 3) := by decide +kernel
theorem dX7_countRows_21 : decode cX7_countRows 21 = .ok (.iinc 1 1, 3) := by decide +kernel
theorem dX7_countRows_24 : decode cX7_countRows 24 = .ok (.iinc 2 1, 3) := by decide +kernel
theorem dX7_countRows_27 : decode cX7_countRows 27 = .ok (.goto (-23), 3) := by decide +kernel
theorem dX7_countRows_30 : decode cX7_countRows 30 = .ok (.iload_n 1, 1) := by decide +kernel
theorem dX7_countRows_31 : decode cX7_countRows 31 = .ok (.ireturn, 1) := by decide +kernel
theorem dX7_lowestHit_0 : decode cX7_lowestHit 0 = .ok (.aload_n 0, 1) := by decide +kernel
theorem dX7_lowestHit_1 : decode cX7_lowestHit 1 = .ok (.getfield 19, 3) := by decide +kernel
theorem dX7_lowestHit_4 : decode cX7_lowestHit 4 = .ok (.getfield 28, 3) := by decide +kernel
theorem dX7_lowestHit_7 : decode cX7_lowestHit 7 = .ok (.iload_n 1, 1) := by decide +kernel
theorem dX7_lowestHit_8 : decode cX7_lowestHit 8 = .ok (.invokevirtual 349, 3) := by decide +kernel
theorem dX7_lowestHit_11 : decode cX7_lowestHit 11 = .ok (.istore_n 3, 1) := by decide +kernel
theorem dX7_lowestHit_12 : decode cX7_lowestHit 12 = .ok (.iconst 1, 1) := by decide +kernel
theorem dX7_lowestHit_13 : decode cX7_lowestHit 13 = .ok (.istore 4, 2) := by decide +kernel
theorem dX7_lowestHit_15 : decode cX7_lowestHit 15 = .ok (.iload 4, 2) := by decide +kernel
theorem dX7_lowestHit_17 : decode cX7_lowestHit 17 = .ok (.bipush 60, 2) := by decide +kernel
theorem dX7_lowestHit_19 : decode cX7_lowestHit 19 = .ok (.if_icmp .gt 32, 3) := by decide +kernel
theorem dX7_lowestHit_22 : decode cX7_lowestHit 22 = .ok (.aload_n 0, 1) := by decide +kernel
theorem dX7_lowestHit_23 : decode cX7_lowestHit 23 = .ok (.getfield 19, 3) := by decide +kernel
theorem dX7_lowestHit_26 : decode cX7_lowestHit 26 = .ok (.getfield 28, 3) := by decide +kernel
theorem dX7_lowestHit_29 : decode cX7_lowestHit 29 = .ok (.iload_n 3, 1) := by decide +kernel
theorem dX7_lowestHit_30 : decode cX7_lowestHit 30 = .ok (.iload 4, 2) := by decide +kernel
theorem dX7_lowestHit_32 : decode cX7_lowestHit 32 = .ok (.invokestatic 227, 3) := by decide +kernel
theorem dX7_lowestHit_35 : decode cX7_lowestHit 35 = .ok (.iload_n 2, 1) := by decide +kernel
theorem dX7_lowestHit_36 : decode cX7_lowestHit 36 = .ok (.invokevirtual 264, 3) := by decide +kernel
theorem dX7_lowestHit_39 : decode cX7_lowestHit 39 = .ok (.ifCond .eq 6, 3) := by decide +kernel
theorem dX7_lowestHit_42 : decode cX7_lowestHit 42 = .ok (.iload 4, 2) := by decide +kernel
theorem dX7_lowestHit_44 : decode cX7_lowestHit 44 = .ok (.ireturn, 1) := by decide +kernel
theorem dX7_lowestHit_45 : decode cX7_lowestHit 45 = .ok (.iinc 4 1, 3) := by decide +kernel
theorem dX7_lowestHit_48 : decode cX7_lowestHit 48 = .ok (.goto (-33), 3) := by decide +kernel
theorem dX7_lowestHit_51 : decode cX7_lowestHit 51 = .ok (.bipush 61, 2) := by decide +kernel
theorem dX7_lowestHit_53 : decode cX7_lowestHit 53 = .ok (.ireturn, 1) := by decide +kernel
theorem dX7_makesMarks_0 : decode cX7_makesMarks 0 = .ok (.iconst 0, 1) := by decide +kernel
theorem dX7_makesMarks_1 : decode cX7_makesMarks 1 = .ok (.istore 4, 2) := by decide +kernel
theorem dX7_makesMarks_3 : decode cX7_makesMarks 3 = .ok (.iload 4, 2) := by decide +kernel
theorem dX7_makesMarks_5 : decode cX7_makesMarks 5 = .ok (.aload_n 1, 1) := by decide +kernel
theorem dX7_makesMarks_6 : decode cX7_makesMarks 6 = .ok (.getfield 333, 3) := by decide +kernel
theorem dX7_makesMarks_9 : decode cX7_makesMarks 9 = .ok (.if_icmp .ge 59, 3) := by decide +kernel
theorem dX7_makesMarks_12 : decode cX7_makesMarks 12 = .ok (.aload_n 1, 1) := by decide +kernel
theorem dX7_makesMarks_13 : decode cX7_makesMarks 13 = .ok (.getfield 371, 3) := by decide +kernel
theorem dX7_makesMarks_16 : decode cX7_makesMarks 16 = .ok (.iload 4, 2) := by decide +kernel
theorem dX7_makesMarks_18 : decode cX7_makesMarks 18 = .ok (.laload, 1) := by decide +kernel
theorem dX7_makesMarks_19 : decode cX7_makesMarks 19 = .ok (.lstore 5, 2) := by decide +kernel
theorem dX7_makesMarks_21 : decode cX7_makesMarks 21 = .ok (.lload 5, 2) := by decide +kernel
theorem dX7_makesMarks_23 : decode cX7_makesMarks 23 = .ok (.lconst 0, 1) := by decide +kernel
theorem dX7_makesMarks_24 : decode cX7_makesMarks 24 = .ok (.lcmp, 1) := by decide +kernel
theorem dX7_makesMarks_25 : decode cX7_makesMarks 25 = .ok (.ifCond .lt 35, 3) := by decide +kernel
theorem dX7_makesMarks_28 : decode cX7_makesMarks 28 = .ok (.lload 5, 2) := by decide +kernel
theorem dX7_makesMarks_30 : decode cX7_makesMarks 30 = .ok (.bipush 30, 2) := by decide +kernel
theorem dX7_makesMarks_32 : decode cX7_makesMarks 32 = .ok (.bipush 30, 2) := by decide +kernel
theorem dX7_makesMarks_34 : decode cX7_makesMarks 34 = .ok (.invokestatic 196, 3) := by decide +kernel
theorem dX7_makesMarks_37 : decode cX7_makesMarks 37 = .ok (.i2l, 1) := by decide +kernel
theorem dX7_makesMarks_38 : decode cX7_makesMarks 38 = .ok (.lcmp, 1) := by decide +kernel
theorem dX7_makesMarks_39 : decode cX7_makesMarks 39 = .ok (.ifCond .gt 21, 3) := by decide +kernel
theorem dX7_makesMarks_42 : decode cX7_makesMarks 42 = .ok (.aload_n 0, 1) := by decide +kernel
theorem dX7_makesMarks_43 : decode cX7_makesMarks 43 = .ok (.getfield 19, 3) := by decide +kernel
theorem dX7_makesMarks_46 : decode cX7_makesMarks 46 = .ok (.getfield 28, 3) := by decide +kernel
theorem dX7_makesMarks_49 : decode cX7_makesMarks 49 = .ok (.lload 5, 2) := by decide +kernel
theorem dX7_makesMarks_51 : decode cX7_makesMarks 51 = .ok (.l2i, 1) := by decide +kernel
theorem dX7_makesMarks_52 : decode cX7_makesMarks 52 = .ok (.iload_n 2, 1) := by decide +kernel
theorem dX7_makesMarks_53 : decode cX7_makesMarks 53 = .ok (.iload_n 3, 1) := by decide +kernel
theorem dX7_makesMarks_54 : decode cX7_makesMarks 54 = .ok (.invokevirtual 264, 3) := by decide +kernel
theorem dX7_makesMarks_57 : decode cX7_makesMarks 57 = .ok (.ifCond .ne 5, 3) := by decide +kernel
theorem dX7_makesMarks_60 : decode cX7_makesMarks 60 = .ok (.iconst 0, 1) := by decide +kernel
theorem dX7_makesMarks_61 : decode cX7_makesMarks 61 = .ok (.ireturn, 1) := by decide +kernel
theorem dX7_makesMarks_62 : decode cX7_makesMarks 62 = .ok (.iinc 4 1, 3) := by decide +kernel
theorem dX7_makesMarks_65 : decode cX7_makesMarks 65 = .ok (.goto (-62), 3) := by decide +kernel
theorem dX7_makesMarks_68 : decode cX7_makesMarks 68 = .ok (.iconst 1, 1) := by decide +kernel
theorem dX7_makesMarks_69 : decode cX7_makesMarks 69 = .ok (.ireturn, 1) := by decide +kernel
theorem dX7_beginDream_0 : decode cX7_beginDream 0 = .ok (.aload_n 0, 1) := by decide +kernel
theorem dX7_beginDream_1 : decode cX7_beginDream 1 = .ok (.getfield 23, 3) := by decide +kernel
theorem dX7_beginDream_4 : decode cX7_beginDream 4 = .ok (.aload_n 0, 1) := by decide +kernel
theorem dX7_beginDream_5 : decode cX7_beginDream 5 = .ok (.getfield 19, 3) := by decide +kernel
theorem dX7_beginDream_8 : decode cX7_beginDream 8 = .ok (.invokevirtual 365, 3) := by decide +kernel
theorem dX7_beginDream_11 : decode cX7_beginDream 11 = .ok (.return_, 1) := by decide +kernel
theorem dX7_dreamDay_0 : decode cX7_dreamDay 0 = .ok (.aload_n 0, 1) := by decide +kernel
theorem dX7_dreamDay_1 : decode cX7_dreamDay 1 = .ok (.getfield 45, 3) := by decide +kernel
theorem dX7_dreamDay_4 : decode cX7_dreamDay 4 = .ok (.iload_n 1, 1) := by decide +kernel
theorem dX7_dreamDay_5 : decode cX7_dreamDay 5 = .ok (.aaload, 1) := by decide +kernel
theorem dX7_dreamDay_6 : decode cX7_dreamDay 6 = .ok (.astore_n 2, 1) := by decide +kernel
theorem dX7_dreamDay_7 : decode cX7_dreamDay 7 = .ok (.iconst 0, 1) := by decide +kernel
theorem dX7_dreamDay_8 : decode cX7_dreamDay 8 = .ok (.istore_n 3, 1) := by decide +kernel
theorem dX7_dreamDay_9 : decode cX7_dreamDay 9 = .ok (.iload_n 3, 1) := by decide +kernel
theorem dX7_dreamDay_10 : decode cX7_dreamDay 10 = .ok (.aload_n 2, 1) := by decide +kernel
theorem dX7_dreamDay_11 : decode cX7_dreamDay 11 = .ok (.getfield 333, 3) := by decide +kernel
theorem dX7_dreamDay_14 : decode cX7_dreamDay 14 = .ok (.if_icmp .ge 22, 3) := by decide +kernel
theorem dX7_dreamDay_17 : decode cX7_dreamDay 17 = .ok (.aload_n 0, 1) := by decide +kernel
theorem dX7_dreamDay_18 : decode cX7_dreamDay 18 = .ok (.getfield 23, 3) := by decide +kernel
theorem dX7_dreamDay_21 : decode cX7_dreamDay 21 = .ok (.aload_n 2, 1) := by decide +kernel
theorem dX7_dreamDay_22 : decode cX7_dreamDay 22 = .ok (.iload_n 3, 1) := by decide +kernel
theorem dX7_dreamDay_23 : decode cX7_dreamDay 23 = .ok (.invokevirtual 334, 3) := by decide +kernel
theorem dX7_dreamDay_26 : decode cX7_dreamDay 26 = .ok (.invokevirtual 337, 3) := by decide +kernel
theorem dX7_dreamDay_29 : decode cX7_dreamDay 29 = .ok (.pop, 1) := by decide +kernel
theorem dX7_dreamDay_30 : decode cX7_dreamDay 30 = .ok (.iinc 3 1, 3) := by decide +kernel
theorem dX7_dreamDay_33 : decode cX7_dreamDay 33 = .ok (.goto (-24), 3) := by decide +kernel
theorem dX7_dreamDay_36 : decode cX7_dreamDay 36 = .ok (.aload_n 0, 1) := by decide +kernel
theorem dX7_dreamDay_37 : decode cX7_dreamDay 37 = .ok (.getfield 23, 3) := by decide +kernel
theorem dX7_dreamDay_40 : decode cX7_dreamDay 40 = .ok (.getfield 75, 3) := by decide +kernel
theorem dX7_dreamDay_43 : decode cX7_dreamDay 43 = .ok (.aload_n 0, 1) := by decide +kernel
theorem dX7_dreamDay_44 : decode cX7_dreamDay 44 = .ok (.getfield 23, 3) := by decide +kernel
theorem dX7_dreamDay_47 : decode cX7_dreamDay 47 = .ok (.getfield 28, 3) := by decide +kernel
theorem dX7_dreamDay_50 : decode cX7_dreamDay 50 = .ok (.invokevirtual 395, 3) := by decide +kernel
theorem dX7_dreamDay_53 : decode cX7_dreamDay 53 = .ok (.return_, 1) := by decide +kernel
theorem dX7_dreamByHigh_0 : decode cX7_dreamByHigh 0 = .ok (.aload_n 0, 1) := by decide +kernel
theorem dX7_dreamByHigh_1 : decode cX7_dreamByHigh 1 = .ok (.invokevirtual 299, 3) := by decide +kernel
theorem dX7_dreamByHigh_4 : decode cX7_dreamByHigh 4 = .ok (.aload_n 0, 1) := by decide +kernel
theorem dX7_dreamByHigh_5 : decode cX7_dreamByHigh 5 = .ok (.getfield 23, 3) := by decide +kernel
theorem dX7_dreamByHigh_8 : decode cX7_dreamByHigh 8 = .ok (.getfield 28, 3) := by decide +kernel
theorem dX7_dreamByHigh_11 : decode cX7_dreamByHigh 11 = .ok (.iload_n 2, 1) := by decide +kernel
theorem dX7_dreamByHigh_12 : decode cX7_dreamByHigh 12 = .ok (.putfield 211, 3) := by decide +kernel
theorem dX7_dreamByHigh_15 : decode cX7_dreamByHigh 15 = .ok (.aload_n 0, 1) := by decide +kernel
theorem dX7_dreamByHigh_16 : decode cX7_dreamByHigh 16 = .ok (.iload_n 1, 1) := by decide +kernel
theorem dX7_dreamByHigh_17 : decode cX7_dreamByHigh 17 = .ok (.invokevirtual 302, 3) := by decide +kernel
theorem dX7_dreamByHigh_20 : decode cX7_dreamByHigh 20 = .ok (.return_, 1) := by decide +kernel
theorem dX7_dreamByStand_0 : decode cX7_dreamByStand 0 = .ok (.aload_n 0, 1) := by decide +kernel
theorem dX7_dreamByStand_1 : decode cX7_dreamByStand 1 = .ok (.invokevirtual 299, 3) := by decide +kernel
theorem dX7_dreamByStand_4 : decode cX7_dreamByStand 4 = .ok (.aload_n 0, 1) := by decide +kernel
theorem dX7_dreamByStand_5 : decode cX7_dreamByStand 5 = .ok (.getfield 23, 3) := by decide +kernel
theorem dX7_dreamByStand_8 : decode cX7_dreamByStand 8 = .ok (.getfield 28, 3) := by decide +kernel
theorem dX7_dreamByStand_11 : decode cX7_dreamByStand 11 = .ok (.iload_n 2, 1) := by decide +kernel
theorem dX7_dreamByStand_12 : decode cX7_dreamByStand 12 = .ok (.putfield 234, 3) := by decide +kernel
theorem dX7_dreamByStand_15 : decode cX7_dreamByStand 15 = .ok (.aload_n 0, 1) := by decide +kernel
theorem dX7_dreamByStand_16 : decode cX7_dreamByStand 16 = .ok (.getfield 23, 3) := by decide +kernel
theorem dX7_dreamByStand_19 : decode cX7_dreamByStand 19 = .ok (.getfield 28, 3) := by decide +kernel
theorem dX7_dreamByStand_22 : decode cX7_dreamByStand 22 = .ok (.iload_n 3, 1) := by decide +kernel
theorem dX7_dreamByStand_23 : decode cX7_dreamByStand 23 = .ok (.putfield 240, 3) := by decide +kernel
theorem dX7_dreamByStand_26 : decode cX7_dreamByStand 26 = .ok (.aload_n 0, 1) := by decide +kernel
theorem dX7_dreamByStand_27 : decode cX7_dreamByStand 27 = .ok (.iload_n 1, 1) := by decide +kernel
theorem dX7_dreamByStand_28 : decode cX7_dreamByStand 28 = .ok (.invokevirtual 302, 3) := by decide +kernel
theorem dX7_dreamByStand_31 : decode cX7_dreamByStand 31 = .ok (.aload_n 0, 1) := by decide +kernel
theorem dX7_dreamByStand_32 : decode cX7_dreamByStand 32 = .ok (.iconst 4, 1) := by decide +kernel
theorem dX7_dreamByStand_33 : decode cX7_dreamByStand 33 = .ok (.invokevirtual 305, 3) := by decide +kernel
theorem dX7_dreamByStand_36 : decode cX7_dreamByStand 36 = .ok (.ireturn, 1) := by decide +kernel
theorem dX7_valueByLag_0 : decode cX7_valueByLag 0 = .ok (.aload_n 0, 1) := by decide +kernel
theorem dX7_valueByLag_1 : decode cX7_valueByLag 1 = .ok (.invokevirtual 299, 3) := by decide +kernel
theorem dX7_valueByLag_4 : decode cX7_valueByLag 4 = .ok (.aload_n 0, 1) := by decide +kernel
theorem dX7_valueByLag_5 : decode cX7_valueByLag 5 = .ok (.getfield 23, 3) := by decide +kernel
theorem dX7_valueByLag_8 : decode cX7_valueByLag 8 = .ok (.getfield 28, 3) := by decide +kernel
theorem dX7_valueByLag_11 : decode cX7_valueByLag 11 = .ok (.iload_n 2, 1) := by decide +kernel
theorem dX7_valueByLag_12 : decode cX7_valueByLag 12 = .ok (.putfield 212, 3) := by decide +kernel
theorem dX7_valueByLag_15 : decode cX7_valueByLag 15 = .ok (.aload_n 0, 1) := by decide +kernel
theorem dX7_valueByLag_16 : decode cX7_valueByLag 16 = .ok (.iload_n 1, 1) := by decide +kernel
theorem dX7_valueByLag_17 : decode cX7_valueByLag 17 = .ok (.invokevirtual 302, 3) := by decide +kernel
theorem dX7_valueByLag_20 : decode cX7_valueByLag 20 = .ok (.aload_n 0, 1) := by decide +kernel
theorem dX7_valueByLag_21 : decode cX7_valueByLag 21 = .ok (.iconst 0, 1) := by decide +kernel
theorem dX7_valueByLag_22 : decode cX7_valueByLag 22 = .ok (.invokevirtual 305, 3) := by decide +kernel
theorem dX7_valueByLag_25 : decode cX7_valueByLag 25 = .ok (.aload_n 0, 1) := by decide +kernel
theorem dX7_valueByLag_26 : decode cX7_valueByLag 26 = .ok (.iconst 4, 1) := by decide +kernel
theorem dX7_valueByLag_27 : decode cX7_valueByLag 27 = .ok (.invokevirtual 305, 3) := by decide +kernel
theorem dX7_valueByLag_30 : decode cX7_valueByLag 30 = .ok (.isub, 1) := by decide +kernel
theorem dX7_valueByLag_31 : decode cX7_valueByLag 31 = .ok (.ireturn, 1) := by decide +kernel
theorem dX7_dreamStrays_0 : decode cX7_dreamStrays 0 = .ok (.aload_n 0, 1) := by decide +kernel
theorem dX7_dreamStrays_1 : decode cX7_dreamStrays 1 = .ok (.iconst 1, 1) := by decide +kernel
theorem dX7_dreamStrays_2 : decode cX7_dreamStrays 2 = .ok (.invokevirtual 305, 3) := by decide +kernel
theorem dX7_dreamStrays_5 : decode cX7_dreamStrays 5 = .ok (.aload_n 0, 1) := by decide +kernel
theorem dX7_dreamStrays_6 : decode cX7_dreamStrays 6 = .ok (.iconst 2, 1) := by decide +kernel
theorem dX7_dreamStrays_7 : decode cX7_dreamStrays 7 = .ok (.invokevirtual 305, 3) := by decide +kernel
theorem dX7_dreamStrays_10 : decode cX7_dreamStrays 10 = .ok (.iadd, 1) := by decide +kernel
theorem dX7_dreamStrays_11 : decode cX7_dreamStrays 11 = .ok (.ireturn, 1) := by decide +kernel
theorem dX7_gainOf_0 : decode cX7_gainOf 0 = .ok (.iload_n 1, 1) := by decide +kernel
theorem dX7_gainOf_1 : decode cX7_gainOf 1 = .ok (.tableswitch 125 0 4 #[35, 57, 79, 101, 109], 35) := by decide +kernel
theorem dX7_gainOf_36 : decode cX7_gainOf 36 = .ok (.aload_n 0, 1) := by decide +kernel
theorem dX7_gainOf_37 : decode cX7_gainOf 37 = .ok (.getfield 23, 3) := by decide +kernel
theorem dX7_gainOf_40 : decode cX7_gainOf 40 = .ok (.getfield 75, 3) := by decide +kernel
theorem dX7_gainOf_43 : decode cX7_gainOf 43 = .ok (.getfield 169, 3) := by decide +kernel
theorem dX7_gainOf_46 : decode cX7_gainOf 46 = .ok (.aload_n 0, 1) := by decide +kernel
theorem dX7_gainOf_47 : decode cX7_gainOf 47 = .ok (.getfield 19, 3) := by decide +kernel
theorem dX7_gainOf_50 : decode cX7_gainOf 50 = .ok (.getfield 75, 3) := by decide +kernel
theorem dX7_gainOf_53 : decode cX7_gainOf 53 = .ok (.getfield 169, 3) := by decide +kernel
theorem dX7_gainOf_56 : decode cX7_gainOf 56 = .ok (.isub, 1) := by decide +kernel
theorem dX7_gainOf_57 : decode cX7_gainOf 57 = .ok (.ireturn, 1) := by decide +kernel
theorem dX7_gainOf_58 : decode cX7_gainOf 58 = .ok (.aload_n 0, 1) := by decide +kernel
theorem dX7_gainOf_59 : decode cX7_gainOf 59 = .ok (.getfield 23, 3) := by decide +kernel
theorem dX7_gainOf_62 : decode cX7_gainOf 62 = .ok (.getfield 75, 3) := by decide +kernel
theorem dX7_gainOf_65 : decode cX7_gainOf 65 = .ok (.getfield 157, 3) := by decide +kernel
theorem dX7_gainOf_68 : decode cX7_gainOf 68 = .ok (.aload_n 0, 1) := by decide +kernel
theorem dX7_gainOf_69 : decode cX7_gainOf 69 = .ok (.getfield 19, 3) := by decide +kernel
theorem dX7_gainOf_72 : decode cX7_gainOf 72 = .ok (.getfield 75, 3) := by decide +kernel
theorem dX7_gainOf_75 : decode cX7_gainOf 75 = .ok (.getfield 157, 3) := by decide +kernel
theorem dX7_gainOf_78 : decode cX7_gainOf 78 = .ok (.isub, 1) := by decide +kernel
theorem dX7_gainOf_79 : decode cX7_gainOf 79 = .ok (.ireturn, 1) := by decide +kernel
theorem dX7_gainOf_80 : decode cX7_gainOf 80 = .ok (.aload_n 0, 1) := by decide +kernel
theorem dX7_gainOf_81 : decode cX7_gainOf 81 = .ok (.getfield 23, 3) := by decide +kernel
theorem dX7_gainOf_84 : decode cX7_gainOf 84 = .ok (.getfield 75, 3) := by decide +kernel
theorem dX7_gainOf_87 : decode cX7_gainOf 87 = .ok (.getfield 160, 3) := by decide +kernel
theorem dX7_gainOf_90 : decode cX7_gainOf 90 = .ok (.aload_n 0, 1) := by decide +kernel
theorem dX7_gainOf_91 : decode cX7_gainOf 91 = .ok (.getfield 19, 3) := by decide +kernel
theorem dX7_gainOf_94 : decode cX7_gainOf 94 = .ok (.getfield 75, 3) := by decide +kernel
theorem dX7_gainOf_97 : decode cX7_gainOf 97 = .ok (.getfield 160, 3) := by decide +kernel
theorem dX7_gainOf_100 : decode cX7_gainOf 100 = .ok (.isub, 1) := by decide +kernel
theorem dX7_gainOf_101 : decode cX7_gainOf 101 = .ok (.ireturn, 1) := by decide +kernel
theorem dX7_gainOf_102 : decode cX7_gainOf 102 = .ok (.aload_n 0, 1) := by decide +kernel
theorem dX7_gainOf_103 : decode cX7_gainOf 103 = .ok (.getfield 23, 3) := by decide +kernel
theorem dX7_gainOf_106 : decode cX7_gainOf 106 = .ok (.invokevirtual 144, 3) := by decide +kernel
theorem dX7_gainOf_109 : decode cX7_gainOf 109 = .ok (.ireturn, 1) := by decide +kernel
theorem dX7_gainOf_110 : decode cX7_gainOf 110 = .ok (.aload_n 0, 1) := by decide +kernel
theorem dX7_gainOf_111 : decode cX7_gainOf 111 = .ok (.getfield 23, 3) := by decide +kernel
theorem dX7_gainOf_114 : decode cX7_gainOf 114 = .ok (.invokevirtual 398, 3) := by decide +kernel
theorem dX7_gainOf_117 : decode cX7_gainOf 117 = .ok (.aload_n 0, 1) := by decide +kernel
theorem dX7_gainOf_118 : decode cX7_gainOf 118 = .ok (.getfield 19, 3) := by decide +kernel
theorem dX7_gainOf_121 : decode cX7_gainOf 121 = .ok (.invokevirtual 398, 3) := by decide +kernel
theorem dX7_gainOf_124 : decode cX7_gainOf 124 = .ok (.isub, 1) := by decide +kernel
theorem dX7_gainOf_125 : decode cX7_gainOf 125 = .ok (.ireturn, 1) := by decide +kernel
theorem dX7_gainOf_126 : decode cX7_gainOf 126 = .ok (.aload_n 0, 1) := by decide +kernel
theorem dX7_gainOf_127 : decode cX7_gainOf 127 = .ok (.getfield 23, 3) := by decide +kernel
theorem dX7_gainOf_130 : decode cX7_gainOf 130 = .ok (.getfield 75, 3) := by decide +kernel
theorem dX7_gainOf_133 : decode cX7_gainOf 133 = .ok (.getfield 154, 3) := by decide +kernel
theorem dX7_gainOf_136 : decode cX7_gainOf 136 = .ok (.aload_n 0, 1) := by decide +kernel
theorem dX7_gainOf_137 : decode cX7_gainOf 137 = .ok (.getfield 19, 3) := by decide +kernel
theorem dX7_gainOf_140 : decode cX7_gainOf 140 = .ok (.getfield 75, 3) := by decide +kernel
theorem dX7_gainOf_143 : decode cX7_gainOf 143 = .ok (.getfield 154, 3) := by decide +kernel
theorem dX7_gainOf_146 : decode cX7_gainOf 146 = .ok (.isub, 1) := by decide +kernel
theorem dX7_gainOf_147 : decode cX7_gainOf 147 = .ok (.ireturn, 1) := by decide +kernel
theorem dX8_in_0 : decode cX8_in 0 = .ok (.lload_n 0, 1) := by decide +kernel
theorem dX8_in_1 : decode cX8_in 1 = .ok (.lload_n 2, 1) := by decide +kernel
theorem dX8_in_2 : decode cX8_in 2 = .ok (.lcmp, 1) := by decide +kernel
theorem dX8_in_3 : decode cX8_in 3 = .ok (.ifCond .lt 14, 3) := by decide +kernel
theorem dX8_in_6 : decode cX8_in 6 = .ok (.lload_n 0, 1) := by decide +kernel
theorem dX8_in_7 : decode cX8_in 7 = .ok (.lload 4, 2) := by decide +kernel
theorem dX8_in_9 : decode cX8_in 9 = .ok (.lcmp, 1) := by decide +kernel
theorem dX8_in_10 : decode cX8_in 10 = .ok (.ifCond .gt 7, 3) := by decide +kernel
theorem dX8_in_13 : decode cX8_in 13 = .ok (.iconst 1, 1) := by decide +kernel
theorem dX8_in_14 : decode cX8_in 14 = .ok (.goto 4, 3) := by decide +kernel
theorem dX8_in_17 : decode cX8_in 17 = .ok (.iconst 0, 1) := by decide +kernel
theorem dX8_in_18 : decode cX8_in 18 = .ok (.ireturn, 1) := by decide +kernel
theorem dX8_init_0 : decode cX8_init 0 = .ok (.aload_n 0, 1) := by decide +kernel
theorem dX8_init_1 : decode cX8_init 1 = .ok (.invokespecial 7, 3) := by decide +kernel
theorem dX8_init_4 : decode cX8_init 4 = .ok (.aload_n 0, 1) := by decide +kernel
theorem dX8_init_5 : decode cX8_init 5 = .ok (.sipush 1419, 3) := by decide +kernel
theorem dX8_init_8 : decode cX8_init 8 = .ok (.newarray .int, 2) := by decide +kernel
theorem dX8_init_10 : decode cX8_init 10 = .ok (.putfield 13, 3) := by decide +kernel
theorem dX8_init_13 : decode cX8_init 13 = .ok (.aload_n 0, 1) := by decide +kernel
theorem dX8_init_14 : decode cX8_init 14 = .ok (.sipush 4257, 3) := by decide +kernel
theorem dX8_init_17 : decode cX8_init 17 = .ok (.newarray .int, 2) := by decide +kernel
theorem dX8_init_19 : decode cX8_init 19 = .ok (.putfield 17, 3) := by decide +kernel
theorem dX8_init_22 : decode cX8_init 22 = .ok (.aload_n 0, 1) := by decide +kernel
theorem dX8_init_23 : decode cX8_init 23 = .ok (.iconst 3, 1) := by decide +kernel
theorem dX8_init_24 : decode cX8_init 24 = .ok (.newarray .boolean, 2) := by decide +kernel
theorem dX8_init_26 : decode cX8_init 26 = .ok (.putfield 20, 3) := by decide +kernel
theorem dX8_init_29 : decode cX8_init 29 = .ok (.aload_n 0, 1) := by decide +kernel
theorem dX8_init_30 : decode cX8_init 30 = .ok (.sipush 1600, 3) := by decide +kernel
theorem dX8_init_33 : decode cX8_init 33 = .ok (.newarray .byte, 2) := by decide +kernel
theorem dX8_init_35 : decode cX8_init 35 = .ok (.putfield 24, 3) := by decide +kernel
theorem dX8_init_38 : decode cX8_init 38 = .ok (.aload_n 0, 1) := by decide +kernel
theorem dX8_init_39 : decode cX8_init 39 = .ok (.iconst 5, 1) := by decide +kernel
theorem dX8_init_40 : decode cX8_init 40 = .ok (.newarray .int, 2) := by decide +kernel
theorem dX8_init_42 : decode cX8_init 42 = .ok (.putfield 28, 3) := by decide +kernel
theorem dX8_init_45 : decode cX8_init 45 = .ok (.aload_n 0, 1) := by decide +kernel
theorem dX8_init_46 : decode cX8_init 46 = .ok (.iconst (-1), 1) := by decide +kernel
theorem dX8_init_47 : decode cX8_init 47 = .ok (.putfield 31, 3) := by decide +kernel
theorem dX8_init_50 : decode cX8_init 50 = .ok (.aload_n 0, 1) := by decide +kernel
theorem dX8_init_51 : decode cX8_init 51 = .ok (.sipush 1419, 3) := by decide +kernel
theorem dX8_init_54 : decode cX8_init 54 = .ok (.newarray .int, 2) := by decide +kernel
theorem dX8_init_56 : decode cX8_init 56 = .ok (.putfield 34, 3) := by decide +kernel
theorem dX8_init_59 : decode cX8_init 59 = .ok (.aload_n 0, 1) := by decide +kernel
theorem dX8_init_60 : decode cX8_init 60 = .ok (.sipush 1419, 3) := by decide +kernel
theorem dX8_init_63 : decode cX8_init 63 = .ok (.newarray .int, 2) := by decide +kernel
theorem dX8_init_65 : decode cX8_init 65 = .ok (.putfield 37, 3) := by decide +kernel
theorem dX8_init_68 : decode cX8_init 68 = .ok (.aload_n 0, 1) := by decide +kernel
theorem dX8_init_69 : decode cX8_init 69 = .ok (.bipush 6, 2) := by decide +kernel
theorem dX8_init_71 : decode cX8_init 71 = .ok (.newarray .int, 2) := by decide +kernel
theorem dX8_init_73 : decode cX8_init 73 = .ok (.putfield 40, 3) := by decide +kernel
theorem dX8_init_76 : decode cX8_init 76 = .ok (.aload_n 0, 1) := by decide +kernel
theorem dX8_init_77 : decode cX8_init 77 = .ok (.sipush 900, 3) := by decide +kernel
theorem dX8_init_80 : decode cX8_init 80 = .ok (.newarray .int, 2) := by decide +kernel
theorem dX8_init_82 : decode cX8_init 82 = .ok (.putfield 43, 3) := by decide +kernel
theorem dX8_init_85 : decode cX8_init 85 = .ok (.aload_n 0, 1) := by decide +kernel
theorem dX8_init_86 : decode cX8_init 86 = .ok (.sipush 900, 3) := by decide +kernel
theorem dX8_init_89 : decode cX8_init 89 = .ok (.newarray .boolean, 2) := by decide +kernel
theorem dX8_init_91 : decode cX8_init 91 = .ok (.putfield 46, 3) := by decide +kernel
theorem dX8_init_94 : decode cX8_init 94 = .ok (.aload_n 0, 1) := by decide +kernel
theorem dX8_init_95 : decode cX8_init 95 = .ok (.iconst 4, 1) := by decide +kernel
theorem dX8_init_96 : decode cX8_init 96 = .ok (.newarray .int, 2) := by decide +kernel
theorem dX8_init_98 : decode cX8_init 98 = .ok (.dup, 1) := by decide +kernel
theorem dX8_init_99 : decode cX8_init 99 = .ok (.iconst 0, 1) := by decide +kernel
theorem dX8_init_100 : decode cX8_init 100 = .ok (.iconst (-1), 1) := by decide +kernel
theorem dX8_init_101 : decode cX8_init 101 = .ok (.iastore, 1) := by decide +kernel
theorem dX8_init_102 : decode cX8_init 102 = .ok (.dup, 1) := by decide +kernel
theorem dX8_init_103 : decode cX8_init 103 = .ok (.iconst 1, 1) := by decide +kernel
theorem dX8_init_104 : decode cX8_init 104 = .ok (.iconst (-1), 1) := by decide +kernel
theorem dX8_init_105 : decode cX8_init 105 = .ok (.iastore, 1) := by decide +kernel
theorem dX8_init_106 : decode cX8_init 106 = .ok (.dup, 1) := by decide +kernel
theorem dX8_init_107 : decode cX8_init 107 = .ok (.iconst 2, 1) := by decide +kernel
theorem dX8_init_108 : decode cX8_init 108 = .ok (.iconst (-1), 1) := by decide +kernel
theorem dX8_init_109 : decode cX8_init 109 = .ok (.iastore, 1) := by decide +kernel
theorem dX8_init_110 : decode cX8_init 110 = .ok (.dup, 1) := by decide +kernel
theorem dX8_init_111 : decode cX8_init 111 = .ok (.iconst 3, 1) := by decide +kernel
theorem dX8_init_112 : decode cX8_init 112 = .ok (.iconst (-1), 1) := by decide +kernel
theorem dX8_init_113 : decode cX8_init 113 = .ok (.iastore, 1) := by decide +kernel
theorem dX8_init_114 : decode cX8_init 114 = .ok (.putfield 49, 3) := by decide +kernel
theorem dX8_init_117 : decode cX8_init 117 = .ok (.aload_n 0, 1) := by decide +kernel
theorem dX8_init_118 : decode cX8_init 118 = .ok (.iconst 4, 1) := by decide +kernel
theorem dX8_init_119 : decode cX8_init 119 = .ok (.newarray .int, 2) := by decide +kernel
theorem dX8_init_121 : decode cX8_init 121 = .ok (.putfield 52, 3) := by decide +kernel
theorem dX8_init_124 : decode cX8_init 124 = .ok (.aload_n 0, 1) := by decide +kernel
theorem dX8_init_125 : decode cX8_init 125 = .ok (.sipush 240, 3) := by decide +kernel
theorem dX8_init_128 : decode cX8_init 128 = .ok (.newarray .long, 2) := by decide +kernel
theorem dX8_init_130 : decode cX8_init 130 = .ok (.putfield 55, 3) := by decide +kernel
theorem dX8_init_133 : decode cX8_init 133 = .ok (.aload_n 0, 1) := by decide +kernel
theorem dX8_init_134 : decode cX8_init 134 = .ok (.bipush 60, 2) := by decide +kernel
theorem dX8_init_136 : decode cX8_init 136 = .ok (.newarray .long, 2) := by decide +kernel
theorem dX8_init_138 : decode cX8_init 138 = .ok (.putfield 59, 3) := by decide +kernel
theorem dX8_init_141 : decode cX8_init 141 = .ok (.aload_n 0, 1) := by decide +kernel
theorem dX8_init_142 : decode cX8_init 142 = .ok (.getfield 13, 3) := by decide +kernel
theorem dX8_init_145 : decode cX8_init 145 = .ok (.invokestatic 62, 3) := by decide +kernel
theorem dX8_init_148 : decode cX8_init 148 = .ok (.return_, 1) := by decide +kernel
theorem dX8_empties_0 : decode cX8_empties 0 = .ok (.iconst 0, 1) := by decide +kernel
theorem dX8_empties_1 : decode cX8_empties 1 = .ok (.istore_n 1, 1) := by decide +kernel
theorem dX8_empties_2 : decode cX8_empties 2 = .ok (.iload_n 1, 1) := by decide +kernel
theorem dX8_empties_3 : decode cX8_empties 3 = .ok (.sipush 1419, 3) := by decide +kernel
theorem dX8_empties_6 : decode cX8_empties 6 = .ok (.if_icmp .ge 13, 3) := by decide +kernel
theorem dX8_empties_9 : decode cX8_empties 9 = .ok (.aload_n 0, 1) := by decide +kernel
theorem dX8_empties_10 : decode cX8_empties 10 = .ok (.iload_n 1, 1) := by decide +kernel
theorem dX8_empties_11 : decode cX8_empties 11 = .ok (.iconst 0, 1) := by decide +kernel
theorem dX8_empties_12 : decode cX8_empties 12 = .ok (.iastore, 1) := by decide +kernel
theorem dX8_empties_13 : decode cX8_empties 13 = .ok (.iinc 1 1, 3) := by decide +kernel
theorem dX8_empties_16 : decode cX8_empties 16 = .ok (.goto (-14), 3) := by decide +kernel
theorem dX8_empties_19 : decode cX8_empties 19 = .ok (.aload_n 0, 1) := by decide +kernel
theorem dX8_empties_20 : decode cX8_empties 20 = .ok (.bipush 7, 2) := by decide +kernel
theorem dX8_empties_22 : decode cX8_empties 22 = .ok (.iconst (-1), 1) := by decide +kernel
theorem dX8_empties_23 : decode cX8_empties 23 = .ok (.iastore, 1) := by decide +kernel
theorem dX8_empties_24 : decode cX8_empties 24 = .ok (.aload_n 0, 1) := by decide +kernel
theorem dX8_empties_25 : decode cX8_empties 25 = .ok (.bipush 17, 2) := by decide +kernel
theorem dX8_empties_27 : decode cX8_empties 27 = .ok (.iconst (-1), 1) := by decide +kernel
theorem dX8_empties_28 : decode cX8_empties 28 = .ok (.iastore, 1) := by decide +kernel
theorem dX8_empties_29 : decode cX8_empties 29 = .ok (.aload_n 0, 1) := by decide +kernel
theorem dX8_empties_30 : decode cX8_empties 30 = .ok (.bipush 22, 2) := by decide +kernel
theorem dX8_empties_32 : decode cX8_empties 32 = .ok (.iconst (-1), 1) := by decide +kernel
theorem dX8_empties_33 : decode cX8_empties 33 = .ok (.iastore, 1) := by decide +kernel
theorem dX8_empties_34 : decode cX8_empties 34 = .ok (.aload_n 0, 1) := by decide +kernel
theorem dX8_empties_35 : decode cX8_empties 35 = .ok (.bipush 24, 2) := by decide +kernel
theorem dX8_empties_37 : decode cX8_empties 37 = .ok (.iconst 1, 1) := by decide +kernel
theorem dX8_empties_38 : decode cX8_empties 38 = .ok (.iastore, 1) := by decide +kernel
theorem dX8_empties_39 : decode cX8_empties 39 = .ok (.return_, 1) := by decide +kernel
theorem dX8_keep_0 : decode cX8_keep 0 = .ok (.iload_n 1, 1) := by decide +kernel
theorem dX8_keep_1 : decode cX8_keep 1 = .ok (.i2l, 1) := by decide +kernel
theorem dX8_keep_2 : decode cX8_keep 2 = .ok (.lconst 0, 1) := by decide +kernel
theorem dX8_keep_3 : decode cX8_keep 3 = .ok (.ldc2_w 66, 3) := by decide +kernel
theorem dX8_keep_6 : decode cX8_keep 6 = .ok (.invokestatic 68, 3) := by decide +kernel
theorem dX8_keep_9 : decode cX8_keep 9 = .ok (.ifCond .ne 6, 3) := by decide +kernel
theorem dX8_keep_12 : decode cX8_keep 12 = .ok (.bipush (-2), 2) := by decide +kernel
theorem dX8_keep_14 : decode cX8_keep 14 = .ok (.ireturn, 1) := by decide +kernel
theorem dX8_keep_15 : decode cX8_keep 15 = .ok (.iconst 0, 1) := by decide +kernel
theorem dX8_keep_16 : decode cX8_keep 16 = .ok (.istore_n 2, 1) := by decide +kernel
theorem dX8_keep_17 : decode cX8_keep 17 = .ok (.iload_n 2, 1) := by decide +kernel
theorem dX8_keep_18 : decode cX8_keep 18 = .ok (.sipush 1419, 3) := by decide +kernel
theorem dX8_keep_21 : decode cX8_keep 21 = .ok (.if_icmp .ge 27, 3) := by decide +kernel
theorem dX8_keep_24 : decode cX8_keep 24 = .ok (.aload_n 0, 1) := by decide +kernel
theorem dX8_keep_25 : decode cX8_keep 25 = .ok (.getfield 17, 3) := by decide +kernel
theorem dX8_keep_28 : decode cX8_keep 28 = .ok (.sipush 1419, 3) := by decide +kernel
theorem dX8_keep_31 : decode cX8_keep 31 = .ok (.iload_n 1, 1) := by decide +kernel
theorem dX8_keep_32 : decode cX8_keep 32 = .ok (.imul, 1) := by decide +kernel
theorem dX8_keep_33 : decode cX8_keep 33 = .ok (.iload_n 2, 1) := by decide +kernel
theorem dX8_keep_34 : decode cX8_keep 34 = .ok (.iadd, 1) := by decide +kernel
theorem dX8_keep_35 : decode cX8_keep 35 = .ok (.aload_n 0, 1) := by decide +kernel
theorem dX8_keep_36 : decode cX8_keep 36 = .ok (.getfield 13, 3) := by decide +kernel
theorem dX8_keep_39 : decode cX8_keep 39 = .ok (.iload_n 2, 1) := by decide +kernel
theorem dX8_keep_40 : decode cX8_keep 40 = .ok (.iaload, 1) := by decide +kernel
theorem dX8_keep_41 : decode cX8_keep 41 = .ok (.iastore, 1) := by decide +kernel
theorem dX8_keep_42 : decode cX8_keep 42 = .ok (.iinc 2 1, 3) := by decide +kernel
theorem dX8_keep_45 : decode cX8_keep 45 = .ok (.goto (-28), 3) := by decide +kernel
theorem dX8_keep_48 : decode cX8_keep 48 = .ok (.aload_n 0, 1) := by decide +kernel
theorem dX8_keep_49 : decode cX8_keep 49 = .ok (.getfield 20, 3) := by decide +kernel
theorem dX8_keep_52 : decode cX8_keep 52 = .ok (.iload_n 1, 1) := by decide +kernel
theorem dX8_keep_53 : decode cX8_keep 53 = .ok (.iconst 1, 1) := by decide +kernel
theorem dX8_keep_54 : decode cX8_keep 54 = .ok (.bastore, 1) := by decide +kernel
theorem dX8_keep_55 : decode cX8_keep 55 = .ok (.iconst 0, 1) := by decide +kernel
theorem dX8_keep_56 : decode cX8_keep 56 = .ok (.ireturn, 1) := by decide +kernel
theorem dX8_back_0 : decode cX8_back 0 = .ok (.iload_n 1, 1) := by decide +kernel
theorem dX8_back_1 : decode cX8_back 1 = .ok (.i2l, 1) := by decide +kernel
theorem dX8_back_2 : decode cX8_back 2 = .ok (.lconst 0, 1) := by decide +kernel
theorem dX8_back_3 : decode cX8_back 3 = .ok (.ldc2_w 66, 3) := by decide +kernel
theorem dX8_back_6 : decode cX8_back 6 = .ok (.invokestatic 68, 3) := by decide +kernel
theorem dX8_back_9 : decode cX8_back 9 = .ok (.ifCond .ne 6, 3) := by decide +kernel
theorem dX8_back_12 : decode cX8_back 12 = .ok (.bipush (-2), 2) := by decide +kernel
theorem dX8_back_14 : decode cX8_back 14 = .ok (.ireturn, 1) := by decide +kernel
theorem dX8_back_15 : decode cX8_back 15 = .ok (.aload_n 0, 1) := by decide +kernel
theorem dX8_back_16 : decode cX8_back 16 = .ok (.getfield 20, 3) := by decide +kernel
theorem dX8_back_19 : decode cX8_back 19 = .ok (.iload_n 1, 1) := by decide +kernel
theorem dX8_back_20 : decode cX8_back 20 = .ok (.baload, 1) := by decide +kernel
theorem dX8_back_21 : decode cX8_back 21 = .ok (.ifCond .ne 6, 3) := by decide +kernel
theorem dX8_back_24 : decode cX8_back 24 = .ok (.bipush (-6), 2) := by decide +kernel
theorem dX8_back_26 : decode cX8_back 26 = .ok (.ireturn, 1) := by decide +kernel
theorem dX8_back_27 : decode cX8_back 27 = .ok (.iconst 0, 1) := by decide +kernel
theorem dX8_back_28 : decode cX8_back 28 = .ok (.istore_n 2, 1) := by decide +kernel
theorem dX8_back_29 : decode cX8_back 29 = .ok (.iload_n 2, 1) := by decide +kernel
theorem dX8_back_30 : decode cX8_back 30 = .ok (.sipush 1419, 3) := by decide +kernel
theorem dX8_back_33 : decode cX8_back 33 = .ok (.if_icmp .ge 27, 3) := by decide +kernel
theorem dX8_back_36 : decode cX8_back 36 = .ok (.aload_n 0, 1) := by decide +kernel
theorem dX8_back_37 : decode cX8_back 37 = .ok (.getfield 13, 3) := by decide +kernel
