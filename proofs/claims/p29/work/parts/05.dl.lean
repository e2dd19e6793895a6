theorem dL_cell_0 : decode cL_cell 0 = .ok (.iload_n 1, 1) := by decide +kernel
theorem dL_cell_1 : decode cL_cell 1 = .ok (.aload_n 0, 1) := by decide +kernel
theorem dL_cell_2 : decode cL_cell 2 = .ok (.arraylength, 1) := by decide +kernel
theorem dL_cell_3 : decode cL_cell 3 = .ok (.if_icmp .ge 9, 3) := by decide +kernel
theorem dL_cell_6 : decode cL_cell 6 = .ok (.aload_n 0, 1) := by decide +kernel
theorem dL_cell_7 : decode cL_cell 7 = .ok (.iload_n 1, 1) := by decide +kernel
theorem dL_cell_8 : decode cL_cell 8 = .ok (.iaload, 1) := by decide +kernel
theorem dL_cell_9 : decode cL_cell 9 = .ok (.goto 11, 3) := by decide +kernel
theorem dL_cell_12 : decode cL_cell 12 = .ok (.sipush 26021, 3) := by decide +kernel
theorem dL_cell_15 : decode cL_cell 15 = .ok (.iload_n 1, 1) := by decide +kernel
theorem dL_cell_16 : decode cL_cell 16 = .ok (.bipush 20, 2) := by decide +kernel
theorem dL_cell_18 : decode cL_cell 18 = .ok (.iadd, 1) := by decide +kernel
theorem dL_cell_19 : decode cL_cell 19 = .ok (.imul, 1) := by decide +kernel
theorem dL_cell_20 : decode cL_cell 20 = .ok (.istore_n 2, 1) := by decide +kernel
theorem dL_cell_21 : decode cL_cell 21 = .ok (.iload_n 2, 1) := by decide +kernel
theorem dL_cell_22 : decode cL_cell 22 = .ok (.iload_n 2, 1) := by decide +kernel
theorem dL_cell_23 : decode cL_cell 23 = .ok (.bipush 14, 2) := by decide +kernel
theorem dL_cell_25 : decode cL_cell 25 = .ok (.iushr, 1) := by decide +kernel
theorem dL_cell_26 : decode cL_cell 26 = .ok (.ixor, 1) := by decide +kernel
theorem dL_cell_27 : decode cL_cell 27 = .ok (.ldc 7, 2) := by decide +kernel
theorem dL_cell_29 : decode cL_cell 29 = .ok (.imul, 1) := by decide +kernel
theorem dL_cell_30 : decode cL_cell 30 = .ok (.bipush 53, 2) := by decide +kernel
theorem dL_cell_32 : decode cL_cell 32 = .ok (.iload_n 1, 1) := by decide +kernel
theorem dL_cell_33 : decode cL_cell 33 = .ok (.imul, 1) := by decide +kernel
theorem dL_cell_34 : decode cL_cell 34 = .ok (.iadd, 1) := by decide +kernel
theorem dL_cell_35 : decode cL_cell 35 = .ok (.ireturn, 1) := by decide +kernel
theorem dL_some_0 : decode cL_some 0 = .ok (.iload_n 0, 1) := by decide +kernel
theorem dL_some_1 : decode cL_some 1 = .ok (.iconst 1, 1) := by decide +kernel
theorem dL_some_2 : decode cL_some 2 = .ok (.iushr, 1) := by decide +kernel
theorem dL_some_3 : decode cL_some 3 = .ok (.iload_n 1, 1) := by decide +kernel
theorem dL_some_4 : decode cL_some 4 = .ok (.irem, 1) := by decide +kernel
theorem dL_some_5 : decode cL_some 5 = .ok (.ireturn, 1) := by decide +kernel
theorem dL_asks_0 : decode cL_asks 0 = .ok (.iload_n 1, 1) := by decide +kernel
theorem dL_asks_1 : decode cL_asks 1 = .ok (.ifCond .ne 11, 3) := by decide +kernel
theorem dL_asks_4 : decode cL_asks 4 = .ok (.aload_n 0, 1) := by decide +kernel
theorem dL_asks_5 : decode cL_asks 5 = .ok (.iload_n 2, 1) := by decide +kernel
theorem dL_asks_6 : decode cL_asks 6 = .ok (.invokevirtual 8, 3) := by decide +kernel
theorem dL_asks_9 : decode cL_asks 9 = .ok (.goto 127, 3) := by decide +kernel
theorem dL_asks_12 : decode cL_asks 12 = .ok (.iload_n 1, 1) := by decide +kernel
theorem dL_asks_13 : decode cL_asks 13 = .ok (.iconst 1, 1) := by decide +kernel
theorem dL_asks_14 : decode cL_asks 14 = .ok (.if_icmp .ne 11, 3) := by decide +kernel
theorem dL_asks_17 : decode cL_asks 17 = .ok (.aload_n 0, 1) := by decide +kernel
theorem dL_asks_18 : decode cL_asks 18 = .ok (.iload_n 2, 1) := by decide +kernel
theorem dL_asks_19 : decode cL_asks 19 = .ok (.invokevirtual 14, 3) := by decide +kernel
theorem dL_asks_22 : decode cL_asks 22 = .ok (.goto 114, 3) := by decide +kernel
theorem dL_asks_25 : decode cL_asks 25 = .ok (.iload_n 1, 1) := by decide +kernel
theorem dL_asks_26 : decode cL_asks 26 = .ok (.iconst 2, 1) := by decide +kernel
theorem dL_asks_27 : decode cL_asks 27 = .ok (.if_icmp .ne 10, 3) := by decide +kernel
theorem dL_asks_30 : decode cL_asks 30 = .ok (.aload_n 0, 1) := by decide +kernel
theorem dL_asks_31 : decode cL_asks 31 = .ok (.invokevirtual 17, 3) := by decide +kernel
theorem dL_asks_34 : decode cL_asks 34 = .ok (.goto 102, 3) := by decide +kernel
theorem dL_asks_37 : decode cL_asks 37 = .ok (.iload_n 1, 1) := by decide +kernel
theorem dL_asks_38 : decode cL_asks 38 = .ok (.iconst 3, 1) := by decide +kernel
theorem dL_asks_39 : decode cL_asks 39 = .ok (.if_icmp .ne 11, 3) := by decide +kernel
theorem dL_asks_42 : decode cL_asks 42 = .ok (.aload_n 0, 1) := by decide +kernel
theorem dL_asks_43 : decode cL_asks 43 = .ok (.iload_n 2, 1) := by decide +kernel
theorem dL_asks_44 : decode cL_asks 44 = .ok (.invokevirtual 21, 3) := by decide +kernel
theorem dL_asks_47 : decode cL_asks 47 = .ok (.goto 89, 3) := by decide +kernel
theorem dL_asks_50 : decode cL_asks 50 = .ok (.iload_n 1, 1) := by decide +kernel
theorem dL_asks_51 : decode cL_asks 51 = .ok (.iconst 4, 1) := by decide +kernel
theorem dL_asks_52 : decode cL_asks 52 = .ok (.if_icmp .ne 11, 3) := by decide +kernel
theorem dL_asks_55 : decode cL_asks 55 = .ok (.aload_n 0, 1) := by decide +kernel
theorem dL_asks_56 : decode cL_asks 56 = .ok (.iload_n 2, 1) := by decide +kernel
theorem dL_asks_57 : decode cL_asks 57 = .ok (.invokevirtual 24, 3) := by decide +kernel
theorem dL_asks_60 : decode cL_asks 60 = .ok (.goto 76, 3) := by decide +kernel
theorem dL_asks_63 : decode cL_asks 63 = .ok (.iload_n 1, 1) := by decide +kernel
theorem dL_asks_64 : decode cL_asks 64 = .ok (.iconst 5, 1) := by decide +kernel
theorem dL_asks_65 : decode cL_asks 65 = .ok (.if_icmp .ne 11, 3) := by decide +kernel
theorem dL_asks_68 : decode cL_asks 68 = .ok (.aload_n 0, 1) := by decide +kernel
theorem dL_asks_69 : decode cL_asks 69 = .ok (.iload_n 2, 1) := by decide +kernel
theorem dL_asks_70 : decode cL_asks 70 = .ok (.invokevirtual 27, 3) := by decide +kernel
theorem dL_asks_73 : decode cL_asks 73 = .ok (.goto 63, 3) := by decide +kernel
theorem dL_asks_76 : decode cL_asks 76 = .ok (.iload_n 1, 1) := by decide +kernel
theorem dL_asks_77 : decode cL_asks 77 = .ok (.bipush 6, 2) := by decide +kernel
theorem dL_asks_79 : decode cL_asks 79 = .ok (.if_icmp .ne 20, 3) := by decide +kernel
theorem dL_asks_82 : decode cL_asks 82 = .ok (.aload_n 0, 1) := by decide +kernel
theorem dL_asks_83 : decode cL_asks 83 = .ok (.iload_n 2, 1) := by decide +kernel
theorem dL_asks_84 : decode cL_asks 84 = .ok (.iload_n 3, 1) := by decide +kernel
theorem dL_asks_85 : decode cL_asks 85 = .ok (.invokevirtual 30, 3) := by decide +kernel
theorem dL_asks_88 : decode cL_asks 88 = .ok (.ifCond .eq 7, 3) := by decide +kernel
theorem dL_asks_91 : decode cL_asks 91 = .ok (.iconst 1, 1) := by decide +kernel
theorem dL_asks_92 : decode cL_asks 92 = .ok (.goto 44, 3) := by decide +kernel
theorem dL_asks_95 : decode cL_asks 95 = .ok (.iconst 0, 1) := by decide +kernel
theorem dL_asks_96 : decode cL_asks 96 = .ok (.goto 40, 3) := by decide +kernel
theorem dL_asks_99 : decode cL_asks 99 = .ok (.iload_n 1, 1) := by decide +kernel
theorem dL_asks_100 : decode cL_asks 100 = .ok (.bipush 7, 2) := by decide +kernel
theorem dL_asks_102 : decode cL_asks 102 = .ok (.if_icmp .ne 11, 3) := by decide +kernel
theorem dL_asks_105 : decode cL_asks 105 = .ok (.aload_n 0, 1) := by decide +kernel
theorem dL_asks_106 : decode cL_asks 106 = .ok (.iload_n 2, 1) := by decide +kernel
theorem dL_asks_107 : decode cL_asks 107 = .ok (.invokevirtual 34, 3) := by decide +kernel
theorem dL_asks_110 : decode cL_asks 110 = .ok (.goto 26, 3) := by decide +kernel
theorem dL_asks_113 : decode cL_asks 113 = .ok (.aload_n 0, 1) := by decide +kernel
theorem dL_asks_114 : decode cL_asks 114 = .ok (.iload_n 2, 1) := by decide +kernel
theorem dL_asks_115 : decode cL_asks 115 = .ok (.iload_n 3, 1) := by decide +kernel
theorem dL_asks_116 : decode cL_asks 116 = .ok (.iconst 1, 1) := by decide +kernel
theorem dL_asks_117 : decode cL_asks 117 = .ok (.if_icmp .ne 7, 3) := by decide +kernel
theorem dL_asks_120 : decode cL_asks 120 = .ok (.iconst 1, 1) := by decide +kernel
theorem dL_asks_121 : decode cL_asks 121 = .ok (.goto 4, 3) := by decide +kernel
theorem dL_asks_124 : decode cL_asks 124 = .ok (.iconst 0, 1) := by decide +kernel
theorem dL_asks_125 : decode cL_asks 125 = .ok (.invokevirtual 37, 3) := by decide +kernel
theorem dL_asks_128 : decode cL_asks 128 = .ok (.ifCond .eq 7, 3) := by decide +kernel
theorem dL_asks_131 : decode cL_asks 131 = .ok (.iconst 1, 1) := by decide +kernel
theorem dL_asks_132 : decode cL_asks 132 = .ok (.goto 4, 3) := by decide +kernel
theorem dL_asks_135 : decode cL_asks 135 = .ok (.iconst 0, 1) := by decide +kernel
theorem dL_asks_136 : decode cL_asks 136 = .ok (.ireturn, 1) := by decide +kernel
theorem dL_asks_137 : decode cL_asks 137 = .ok (.astore 4, 2) := by decide +kernel
theorem dL_asks_139 : decode cL_asks 139 = .ok (.bipush (-101), 2) := by decide +kernel
theorem dL_asks_141 : decode cL_asks 141 = .ok (.ireturn, 1) := by decide +kernel
theorem dL_asks_142 : decode cL_asks 142 = .ok (.astore 4, 2) := by decide +kernel
theorem dL_asks_144 : decode cL_asks 144 = .ok (.bipush (-102), 2) := by decide +kernel
theorem dL_asks_146 : decode cL_asks 146 = .ok (.ireturn, 1) := by decide +kernel
theorem dL_asks_147 : decode cL_asks 147 = .ok (.astore 4, 2) := by decide +kernel
theorem dL_asks_149 : decode cL_asks 149 = .ok (.bipush (-103), 2) := by decide +kernel
theorem dL_asks_151 : decode cL_asks 151 = .ok (.ireturn, 1) := by decide +kernel
theorem dL_tries_0 : decode cL_tries 0 = .ok (.iload_n 1, 1) := by decide +kernel
theorem dL_tries_1 : decode cL_tries 1 = .ok (.ifCond .ne 16, 3) := by decide +kernel
theorem dL_tries_4 : decode cL_tries 4 = .ok (.aload_n 0, 1) := by decide +kernel
theorem dL_tries_5 : decode cL_tries 5 = .ok (.iload_n 2, 1) := by decide +kernel
theorem dL_tries_6 : decode cL_tries 6 = .ok (.iload_n 3, 1) := by decide +kernel
theorem dL_tries_7 : decode cL_tries 7 = .ok (.iload 4, 2) := by decide +kernel
theorem dL_tries_9 : decode cL_tries 9 = .ok (.iload 5, 2) := by decide +kernel
theorem dL_tries_11 : decode cL_tries 11 = .ok (.invokevirtual 47, 3) := by decide +kernel
theorem dL_tries_14 : decode cL_tries 14 = .ok (.goto 27, 3) := by decide +kernel
theorem dL_tries_17 : decode cL_tries 17 = .ok (.iload_n 1, 1) := by decide +kernel
theorem dL_tries_18 : decode cL_tries 18 = .ok (.iconst 1, 1) := by decide +kernel
theorem dL_tries_19 : decode cL_tries 19 = .ok (.if_icmp .ne 14, 3) := by decide +kernel
theorem dL_tries_22 : decode cL_tries 22 = .ok (.aload_n 0, 1) := by decide +kernel
theorem dL_tries_23 : decode cL_tries 23 = .ok (.iload_n 2, 1) := by decide +kernel
theorem dL_tries_24 : decode cL_tries 24 = .ok (.iload_n 3, 1) := by decide +kernel
theorem dL_tries_25 : decode cL_tries 25 = .ok (.iload 4, 2) := by decide +kernel
theorem dL_tries_27 : decode cL_tries 27 = .ok (.invokevirtual 51, 3) := by decide +kernel
theorem dL_tries_30 : decode cL_tries 30 = .ok (.goto 11, 3) := by decide +kernel
theorem dL_tries_33 : decode cL_tries 33 = .ok (.aload_n 0, 1) := by decide +kernel
theorem dL_tries_34 : decode cL_tries 34 = .ok (.iload_n 2, 1) := by decide +kernel
theorem dL_tries_35 : decode cL_tries 35 = .ok (.iload_n 3, 1) := by decide +kernel
theorem dL_tries_36 : decode cL_tries 36 = .ok (.iload 4, 2) := by decide +kernel
theorem dL_tries_38 : decode cL_tries 38 = .ok (.invokevirtual 55, 3) := by decide +kernel
theorem dL_tries_41 : decode cL_tries 41 = .ok (.iconst 0, 1) := by decide +kernel
theorem dL_tries_42 : decode cL_tries 42 = .ok (.ireturn, 1) := by decide +kernel
theorem dL_sets_0 : decode cL_sets 0 = .ok (.aload_n 0, 1) := by decide +kernel
theorem dL_sets_1 : decode cL_sets 1 = .ok (.iload_n 1, 1) := by decide +kernel
theorem dL_sets_2 : decode cL_sets 2 = .ok (.iload_n 2, 1) := by decide +kernel
theorem dL_sets_3 : decode cL_sets 3 = .ok (.iload_n 3, 1) := by decide +kernel
theorem dL_sets_4 : decode cL_sets 4 = .ok (.iload 4, 2) := by decide +kernel
theorem dL_sets_6 : decode cL_sets 6 = .ok (.iload 5, 2) := by decide +kernel
theorem dL_sets_8 : decode cL_sets 8 = .ok (.invokestatic 58, 3) := by decide +kernel
theorem dL_sets_11 : decode cL_sets 11 = .ok (.ireturn, 1) := by decide +kernel
theorem dL_sets_12 : decode cL_sets 12 = .ok (.astore 6, 2) := by decide +kernel
theorem dL_sets_14 : decode cL_sets 14 = .ok (.bipush (-102), 2) := by decide +kernel
theorem dL_sets_16 : decode cL_sets 16 = .ok (.ireturn, 1) := by decide +kernel
theorem dL_sets_17 : decode cL_sets 17 = .ok (.astore 6, 2) := by decide +kernel
theorem dL_sets_19 : decode cL_sets 19 = .ok (.bipush (-103), 2) := by decide +kernel
theorem dL_sets_21 : decode cL_sets 21 = .ok (.ireturn, 1) := by decide +kernel
theorem dL_all_0 : decode cL_all 0 = .ok (.aload_n 0, 1) := by decide +kernel
theorem dL_all_1 : decode cL_all 1 = .ok (.invokevirtual 64, 3) := by decide +kernel
theorem dL_all_4 : decode cL_all 4 = .ok (.i2l, 1) := by decide +kernel
theorem dL_all_5 : decode cL_all 5 = .ok (.ldc2_w 67, 3) := by decide +kernel
theorem dL_all_8 : decode cL_all 8 = .ok (.lmul, 1) := by decide +kernel
theorem dL_all_9 : decode cL_all 9 = .ok (.aload_n 0, 1) := by decide +kernel
theorem dL_all_10 : decode cL_all 10 = .ok (.invokevirtual 69, 3) := by decide +kernel
theorem dL_all_13 : decode cL_all 13 = .ok (.i2l, 1) := by decide +kernel
theorem dL_all_14 : decode cL_all 14 = .ok (.ladd, 1) := by decide +kernel
theorem dL_all_15 : decode cL_all 15 = .ok (.ldc2_w 72, 3) := by decide +kernel
theorem dL_all_18 : decode cL_all 18 = .ok (.lmul, 1) := by decide +kernel
theorem dL_all_19 : decode cL_all 19 = .ok (.aload_n 0, 1) := by decide +kernel
theorem dL_all_20 : decode cL_all 20 = .ok (.invokevirtual 74, 3) := by decide +kernel
theorem dL_all_23 : decode cL_all 23 = .ok (.i2l, 1) := by decide +kernel
theorem dL_all_24 : decode cL_all 24 = .ok (.ladd, 1) := by decide +kernel
theorem dL_all_25 : decode cL_all 25 = .ok (.lstore_n 1, 1) := by decide +kernel
theorem dL_all_26 : decode cL_all 26 = .ok (.lload_n 1, 1) := by decide +kernel
theorem dL_all_27 : decode cL_all 27 = .ok (.ldc2_w 77, 3) := by decide +kernel
theorem dL_all_30 : decode cL_all 30 = .ok (.lmul, 1) := by decide +kernel
theorem dL_all_31 : decode cL_all 31 = .ok (.aload_n 0, 1) := by decide +kernel
theorem dL_all_32 : decode cL_all 32 = .ok (.invokevirtual 79, 3) := by decide +kernel
theorem dL_all_35 : decode cL_all 35 = .ok (.i2l, 1) := by decide +kernel
theorem dL_all_36 : decode cL_all 36 = .ok (.ladd, 1) := by decide +kernel
theorem dL_all_37 : decode cL_all 37 = .ok (.ldc2_w 82, 3) := by decide +kernel
theorem dL_all_40 : decode cL_all 40 = .ok (.lmul, 1) := by decide +kernel
theorem dL_all_41 : decode cL_all 41 = .ok (.aload_n 0, 1) := by decide +kernel
theorem dL_all_42 : decode cL_all 42 = .ok (.invokevirtual 84, 3) := by decide +kernel
theorem dL_all_45 : decode cL_all 45 = .ok (.i2l, 1) := by decide +kernel
theorem dL_all_46 : decode cL_all 46 = .ok (.ladd, 1) := by decide +kernel
theorem dL_all_47 : decode cL_all 47 = .ok (.ldc2_w 82, 3) := by decide +kernel
theorem dL_all_50 : decode cL_all 50 = .ok (.lmul, 1) := by decide +kernel
theorem dL_all_51 : decode cL_all 51 = .ok (.aload_n 0, 1) := by decide +kernel
theorem dL_all_52 : decode cL_all 52 = .ok (.invokevirtual 87, 3) := by decide +kernel
theorem dL_all_55 : decode cL_all 55 = .ok (.i2l, 1) := by decide +kernel
theorem dL_all_56 : decode cL_all 56 = .ok (.ladd, 1) := by decide +kernel
theorem dL_all_57 : decode cL_all 57 = .ok (.lstore_n 1, 1) := by decide +kernel
theorem dL_all_58 : decode cL_all 58 = .ok (.lload_n 1, 1) := by decide +kernel
theorem dL_all_59 : decode cL_all 59 = .ok (.ldc2_w 90, 3) := by decide +kernel
theorem dL_all_62 : decode cL_all 62 = .ok (.lmul, 1) := by decide +kernel
theorem dL_all_63 : decode cL_all 63 = .ok (.aload_n 0, 1) := by decide +kernel
theorem dL_all_64 : decode cL_all 64 = .ok (.invokevirtual 92, 3) := by decide +kernel
theorem dL_all_67 : decode cL_all 67 = .ok (.i2l, 1) := by decide +kernel
theorem dL_all_68 : decode cL_all 68 = .ok (.ladd, 1) := by decide +kernel
theorem dL_all_69 : decode cL_all 69 = .ok (.ldc2_w 77, 3) := by decide +kernel
theorem dL_all_72 : decode cL_all 72 = .ok (.lmul, 1) := by decide +kernel
theorem dL_all_73 : decode cL_all 73 = .ok (.aload_n 0, 1) := by decide +kernel
theorem dL_all_74 : decode cL_all 74 = .ok (.invokevirtual 95, 3) := by decide +kernel
theorem dL_all_77 : decode cL_all 77 = .ok (.i2l, 1) := by decide +kernel
theorem dL_all_78 : decode cL_all 78 = .ok (.ladd, 1) := by decide +kernel
theorem dL_all_79 : decode cL_all 79 = .ok (.ldc2_w 77, 3) := by decide +kernel
theorem dL_all_82 : decode cL_all 82 = .ok (.lmul, 1) := by decide +kernel
theorem dL_all_83 : decode cL_all 83 = .ok (.aload_n 0, 1) := by decide +kernel
theorem dL_all_84 : decode cL_all 84 = .ok (.invokevirtual 98, 3) := by decide +kernel
theorem dL_all_87 : decode cL_all 87 = .ok (.i2l, 1) := by decide +kernel
theorem dL_all_88 : decode cL_all 88 = .ok (.ladd, 1) := by decide +kernel
theorem dL_all_89 : decode cL_all 89 = .ok (.lstore_n 1, 1) := by decide +kernel
theorem dL_all_90 : decode cL_all 90 = .ok (.lload_n 1, 1) := by decide +kernel
theorem dL_all_91 : decode cL_all 91 = .ok (.ldc2_w 101, 3) := by decide +kernel
theorem dL_all_94 : decode cL_all 94 = .ok (.lmul, 1) := by decide +kernel
theorem dL_all_95 : decode cL_all 95 = .ok (.aload_n 0, 1) := by decide +kernel
theorem dL_all_96 : decode cL_all 96 = .ok (.iconst 1, 1) := by decide +kernel
theorem dL_all_97 : decode cL_all 97 = .ok (.invokevirtual 103, 3) := by decide +kernel
theorem dL_all_100 : decode cL_all 100 = .ok (.ifCond .eq 7, 3) := by decide +kernel
theorem dL_all_103 : decode cL_all 103 = .ok (.iconst 1, 1) := by decide +kernel
theorem dL_all_104 : decode cL_all 104 = .ok (.goto 4, 3) := by decide +kernel
theorem dL_all_107 : decode cL_all 107 = .ok (.iconst 0, 1) := by decide +kernel
theorem dL_all_108 : decode cL_all 108 = .ok (.i2l, 1) := by decide +kernel
theorem dL_all_109 : decode cL_all 109 = .ok (.ladd, 1) := by decide +kernel
theorem dL_all_110 : decode cL_all 110 = .ok (.ldc2_w 107, 3) := by decide +kernel
theorem dL_all_113 : decode cL_all 113 = .ok (.lmul, 1) := by decide +kernel
theorem dL_all_114 : decode cL_all 114 = .ok (.aload_n 0, 1) := by decide +kernel
theorem dL_all_115 : decode cL_all 115 = .ok (.iconst 0, 1) := by decide +kernel
theorem dL_all_116 : decode cL_all 116 = .ok (.invokevirtual 103, 3) := by decide +kernel
theorem dL_all_119 : decode cL_all 119 = .ok (.ifCond .eq 7, 3) := by decide +kernel
theorem dL_all_122 : decode cL_all 122 = .ok (.iconst 1, 1) := by decide +kernel
theorem dL_all_123 : decode cL_all 123 = .ok (.goto 4, 3) := by decide +kernel
theorem dL_all_126 : decode cL_all 126 = .ok (.iconst 0, 1) := by decide +kernel
theorem dL_all_127 : decode cL_all 127 = .ok (.i2l, 1) := by decide +kernel
theorem dL_all_128 : decode cL_all 128 = .ok (.ladd, 1) := by decide +kernel
theorem dL_all_129 : decode cL_all 129 = .ok (.ldc2_w 77, 3) := by decide +kernel
theorem dL_all_132 : decode cL_all 132 = .ok (.lmul, 1) := by decide +kernel
theorem dL_all_133 : decode cL_all 133 = .ok (.aload_n 0, 1) := by decide +kernel
theorem dL_all_134 : decode cL_all 134 = .ok (.invokevirtual 109, 3) := by decide +kernel
theorem dL_all_137 : decode cL_all 137 = .ok (.i2l, 1) := by decide +kernel
theorem dL_all_138 : decode cL_all 138 = .ok (.ladd, 1) := by decide +kernel
theorem dL_all_139 : decode cL_all 139 = .ok (.lstore_n 1, 1) := by decide +kernel
theorem dL_all_140 : decode cL_all 140 = .ok (.aload_n 0, 1) := by decide +kernel
theorem dL_all_141 : decode cL_all 141 = .ok (.invokevirtual 112, 3) := by decide +kernel
theorem dL_all_144 : decode cL_all 144 = .ok (.istore_n 3, 1) := by decide +kernel
theorem dL_all_145 : decode cL_all 145 = .ok (.iconst 0, 1) := by decide +kernel
theorem dL_all_146 : decode cL_all 146 = .ok (.istore 4, 2) := by decide +kernel
theorem dL_all_148 : decode cL_all 148 = .ok (.iload 4, 2) := by decide +kernel
theorem dL_all_150 : decode cL_all 150 = .ok (.iload_n 3, 1) := by decide +kernel
theorem dL_all_151 : decode cL_all 151 = .ok (.if_icmp .ge 53, 3) := by decide +kernel
theorem dL_all_154 : decode cL_all 154 = .ok (.iload 4, 2) := by decide +kernel
theorem dL_all_156 : decode cL_all 156 = .ok (.iconst 5, 1) := by decide +kernel
theorem dL_all_157 : decode cL_all 157 = .ok (.if_icmp .ge 47, 3) := by decide +kernel
theorem dL_all_160 : decode cL_all 160 = .ok (.lload_n 1, 1) := by decide +kernel
theorem dL_all_161 : decode cL_all 161 = .ok (.ldc2_w 115, 3) := by decide +kernel
theorem dL_all_164 : decode cL_all 164 = .ok (.lmul, 1) := by decide +kernel
theorem dL_all_165 : decode cL_all 165 = .ok (.aload_n 0, 1) := by decide +kernel
theorem dL_all_166 : decode cL_all 166 = .ok (.iload 4, 2) := by decide +kernel
theorem dL_all_168 : decode cL_all 168 = .ok (.invokevirtual 21, 3) := by decide +kernel
theorem dL_all_171 : decode cL_all 171 = .ok (.i2l, 1) := by decide +kernel
theorem dL_all_172 : decode cL_all 172 = .ok (.ladd, 1) := by decide +kernel
theorem dL_all_173 : decode cL_all 173 = .ok (.ldc2_w 117, 3) := by decide +kernel
theorem dL_all_176 : decode cL_all 176 = .ok (.lmul, 1) := by decide +kernel
theorem dL_all_177 : decode cL_all 177 = .ok (.aload_n 0, 1) := by decide +kernel
theorem dL_all_178 : decode cL_all 178 = .ok (.iload 4, 2) := by decide +kernel
theorem dL_all_180 : decode cL_all 180 = .ok (.invokevirtual 24, 3) := by decide +kernel
theorem dL_all_183 : decode cL_all 183 = .ok (.i2l, 1) := by decide +kernel
theorem dL_all_184 : decode cL_all 184 = .ok (.ldc2_w 72, 3) := by decide +kernel
theorem dL_all_187 : decode cL_all 187 = .ok (.lmul, 1) := by decide +kernel
theorem dL_all_188 : decode cL_all 188 = .ok (.ladd, 1) := by decide +kernel
theorem dL_all_189 : decode cL_all 189 = .ok (.aload_n 0, 1) := by decide +kernel
theorem dL_all_190 : decode cL_all 190 = .ok (.iload 4, 2) := by decide +kernel
theorem dL_all_192 : decode cL_all 192 = .ok (.invokevirtual 27, 3) := by decide +kernel
theorem dL_all_195 : decode cL_all 195 = .ok (.i2l, 1) := by decide +kernel
theorem dL_all_196 : decode cL_all 196 = .ok (.ladd, 1) := by decide +kernel
theorem dL_all_197 : decode cL_all 197 = .ok (.lstore_n 1, 1) := by decide +kernel
theorem dL_all_198 : decode cL_all 198 = .ok (.iinc 4 1, 3) := by decide +kernel
theorem dL_all_201 : decode cL_all 201 = .ok (.goto (-53), 3) := by decide +kernel
theorem dL_all_204 : decode cL_all 204 = .ok (.lload_n 1, 1) := by decide +kernel
theorem dL_all_205 : decode cL_all 205 = .ok (.ldc2_w 119, 3) := by decide +kernel
theorem dL_all_208 : decode cL_all 208 = .ok (.lmul, 1) := by decide +kernel
theorem dL_all_209 : decode cL_all 209 = .ok (.aload_n 0, 1) := by decide +kernel
theorem dL_all_210 : decode cL_all 210 = .ok (.invokevirtual 121, 3) := by decide +kernel
theorem dL_all_213 : decode cL_all 213 = .ok (.i2l, 1) := by decide +kernel
theorem dL_all_214 : decode cL_all 214 = .ok (.ladd, 1) := by decide +kernel
theorem dL_all_215 : decode cL_all 215 = .ok (.lreturn, 1) := by decide +kernel
theorem dL_keeps_0 : decode cL_keeps 0 = .ok (.aload_n 0, 1) := by decide +kernel
theorem dL_keeps_1 : decode cL_keeps 1 = .ok (.invokevirtual 69, 3) := by decide +kernel
theorem dL_keeps_4 : decode cL_keeps 4 = .ok (.istore_n 1, 1) := by decide +kernel
theorem dL_keeps_5 : decode cL_keeps 5 = .ok (.aload_n 0, 1) := by decide +kernel
theorem dL_keeps_6 : decode cL_keeps 6 = .ok (.invokevirtual 112, 3) := by decide +kernel
theorem dL_keeps_9 : decode cL_keeps 9 = .ok (.istore_n 2, 1) := by decide +kernel
theorem dL_keeps_10 : decode cL_keeps 10 = .ok (.aload_n 0, 1) := by decide +kernel
theorem dL_keeps_11 : decode cL_keeps 11 = .ok (.iconst 0, 1) := by decide +kernel
theorem dL_keeps_12 : decode cL_keeps 12 = .ok (.invokevirtual 124, 3) := by decide +kernel
theorem dL_keeps_15 : decode cL_keeps 15 = .ok (.iload_n 1, 1) := by decide +kernel
theorem dL_keeps_16 : decode cL_keeps 16 = .ok (.iconst 2, 1) := by decide +kernel
theorem dL_keeps_17 : decode cL_keeps 17 = .ok (.if_icmp .eq 8, 3) := by decide +kernel
theorem dL_keeps_20 : decode cL_keeps 20 = .ok (.iload_n 1, 1) := by decide +kernel
theorem dL_keeps_21 : decode cL_keeps 21 = .ok (.iconst 3, 1) := by decide +kernel
theorem dL_keeps_22 : decode cL_keeps 22 = .ok (.if_icmp .ne 7, 3) := by decide +kernel
theorem dL_keeps_25 : decode cL_keeps 25 = .ok (.iconst 1, 1) := by decide +kernel
theorem dL_keeps_26 : decode cL_keeps 26 = .ok (.goto 4, 3) := by decide +kernel
theorem dL_keeps_29 : decode cL_keeps 29 = .ok (.iconst 0, 1) := by decide +kernel
theorem dL_keeps_30 : decode cL_keeps 30 = .ok (.if_icmp .ne 175, 3) := by decide +kernel
theorem dL_keeps_33 : decode cL_keeps 33 = .ok (.aload_n 0, 1) := by decide +kernel
theorem dL_keeps_34 : decode cL_keeps 34 = .ok (.iconst 1, 1) := by decide +kernel
theorem dL_keeps_35 : decode cL_keeps 35 = .ok (.invokevirtual 124, 3) := by decide +kernel
theorem dL_keeps_38 : decode cL_keeps 38 = .ok (.iload_n 1, 1) := by decide +kernel
theorem dL_keeps_39 : decode cL_keeps 39 = .ok (.iconst 3, 1) := by decide +kernel
theorem dL_keeps_40 : decode cL_keeps 40 = .ok (.if_icmp .eq 8, 3) := by decide +kernel
theorem dL_keeps_43 : decode cL_keeps 43 = .ok (.iload_n 1, 1) := by decide +kernel
theorem dL_keeps_44 : decode cL_keeps 44 = .ok (.iconst 4, 1) := by decide +kernel
theorem dL_keeps_45 : decode cL_keeps 45 = .ok (.if_icmp .ne 7, 3) := by decide +kernel
theorem dL_keeps_48 : decode cL_keeps 48 = .ok (.iconst 1, 1) := by decide +kernel
theorem dL_keeps_49 : decode cL_keeps 49 = .ok (.goto 4, 3) := by decide +kernel
theorem dL_keeps_52 : decode cL_keeps 52 = .ok (.iconst 0, 1) := by decide +kernel
theorem dL_keeps_53 : decode cL_keeps 53 = .ok (.if_icmp .ne 152, 3) := by decide +kernel
theorem dL_keeps_56 : decode cL_keeps 56 = .ok (.aload_n 0, 1) := by decide +kernel
theorem dL_keeps_57 : decode cL_keeps 57 = .ok (.iconst 1, 1) := by decide +kernel
theorem dL_keeps_58 : decode cL_keeps 58 = .ok (.invokevirtual 124, 3) := by decide +kernel
theorem dL_keeps_61 : decode cL_keeps 61 = .ok (.ifCond .ne 10, 3) := by decide +kernel
theorem dL_keeps_64 : decode cL_keeps 64 = .ok (.aload_n 0, 1) := by decide +kernel
theorem dL_keeps_65 : decode cL_keeps 65 = .ok (.invokevirtual 87, 3) := by decide +kernel
theorem dL_keeps_68 : decode cL_keeps 68 = .ok (.ifCond .ne 137, 3) := by decide +kernel
theorem dL_keeps_71 : decode cL_keeps 71 = .ok (.iload_n 1, 1) := by decide +kernel
theorem dL_keeps_72 : decode cL_keeps 72 = .ok (.iconst 1, 1) := by decide +kernel
theorem dL_keeps_73 : decode cL_keeps 73 = .ok (.if_icmp .eq 10, 3) := by decide +kernel
theorem dL_keeps_76 : decode cL_keeps 76 = .ok (.aload_n 0, 1) := by decide +kernel
theorem dL_keeps_77 : decode cL_keeps 77 = .ok (.invokevirtual 92, 3) := by decide +kernel
theorem dL_keeps_80 : decode cL_keeps 80 = .ok (.ifCond .ne 125, 3) := by decide +kernel
theorem dL_keeps_83 : decode cL_keeps 83 = .ok (.iload_n 1, 1) := by decide +kernel
theorem dL_keeps_84 : decode cL_keeps 84 = .ok (.bipush 6, 2) := by decide +kernel
theorem dL_keeps_86 : decode cL_keeps 86 = .ok (.if_icmp .ne 7, 3) := by decide +kernel
theorem dL_keeps_89 : decode cL_keeps 89 = .ok (.iconst 1, 1) := by decide +kernel
theorem dL_keeps_90 : decode cL_keeps 90 = .ok (.goto 4, 3) := by decide +kernel
theorem dL_keeps_93 : decode cL_keeps 93 = .ok (.iconst 0, 1) := by decide +kernel
theorem dL_keeps_94 : decode cL_keeps 94 = .ok (.aload_n 0, 1) := by decide +kernel
theorem dL_keeps_95 : decode cL_keeps 95 = .ok (.invokevirtual 74, 3) := by decide +kernel
theorem dL_keeps_98 : decode cL_keeps 98 = .ok (.ifCond .le 7, 3) := by decide +kernel
theorem dL_keeps_101 : decode cL_keeps 101 = .ok (.iconst 1, 1) := by decide +kernel
theorem dL_keeps_102 : decode cL_keeps 102 = .ok (.goto 4, 3) := by decide +kernel
theorem dL_keeps_105 : decode cL_keeps 105 = .ok (.iconst 0, 1) := by decide +kernel
theorem dL_keeps_106 : decode cL_keeps 106 = .ok (.if_icmp .ne 99, 3) := by decide +kernel
theorem dL_keeps_109 : decode cL_keeps 109 = .ok (.aload_n 0, 1) := by decide +kernel
theorem dL_keeps_110 : decode cL_keeps 110 = .ok (.invokevirtual 74, 3) := by decide +kernel
theorem dL_keeps_113 : decode cL_keeps 113 = .ok (.bipush 9, 2) := by decide +kernel
theorem dL_keeps_115 : decode cL_keeps 115 = .ok (.if_icmp .ge 90, 3) := by decide +kernel
theorem dL_keeps_118 : decode cL_keeps 118 = .ok (.aload_n 0, 1) := by decide +kernel
theorem dL_keeps_119 : decode cL_keeps 119 = .ok (.invokevirtual 98, 3) := by decide +kernel
theorem dL_keeps_122 : decode cL_keeps 122 = .ok (.aload_n 0, 1) := by decide +kernel
theorem dL_keeps_123 : decode cL_keeps 123 = .ok (.invokevirtual 95, 3) := by decide +kernel
theorem dL_keeps_126 : decode cL_keeps 126 = .ok (.if_icmp .lt 79, 3) := by decide +kernel
theorem dL_keeps_129 : decode cL_keeps 129 = .ok (.iload_n 2, 1) := by decide +kernel
theorem dL_keeps_130 : decode cL_keeps 130 = .ok (.aload_n 0, 1) := by decide +kernel
theorem dL_keeps_131 : decode cL_keeps 131 = .ok (.invokevirtual 109, 3) := by decide +kernel
theorem dL_keeps_134 : decode cL_keeps 134 = .ok (.bipush 100, 2) := by decide +kernel
theorem dL_keeps_136 : decode cL_keeps 136 = .ok (.if_icmp .ge 10, 3) := by decide +kernel
theorem dL_keeps_139 : decode cL_keeps 139 = .ok (.aload_n 0, 1) := by decide +kernel
theorem dL_keeps_140 : decode cL_keeps 140 = .ok (.invokevirtual 109, 3) := by decide +kernel
theorem dL_keeps_143 : decode cL_keeps 143 = .ok (.goto 5, 3) := by decide +kernel
theorem dL_keeps_146 : decode cL_keeps 146 = .ok (.bipush 100, 2) := by decide +kernel
theorem dL_keeps_148 : decode cL_keeps 148 = .ok (.if_icmp .ne 57, 3) := by decide +kernel
theorem dL_keeps_151 : decode cL_keeps 151 = .ok (.iload_n 2, 1) := by decide +kernel
theorem dL_keeps_152 : decode cL_keeps 152 = .ok (.ifCond .eq 41, 3) := by decide +kernel
theorem dL_keeps_155 : decode cL_keeps 155 = .ok (.aload_n 0, 1) := by decide +kernel
theorem dL_keeps_156 : decode cL_keeps 156 = .ok (.iconst 0, 1) := by decide +kernel
theorem dL_keeps_157 : decode cL_keeps 157 = .ok (.invokevirtual 24, 3) := by decide +kernel
theorem dL_keeps_160 : decode cL_keeps 160 = .ok (.iload_n 1, 1) := by decide +kernel
theorem dL_keeps_161 : decode cL_keeps 161 = .ok (.if_icmp .ne 44, 3) := by decide +kernel
theorem dL_keeps_164 : decode cL_keeps 164 = .ok (.aload_n 0, 1) := by decide +kernel
theorem dL_keeps_165 : decode cL_keeps 165 = .ok (.iconst 0, 1) := by decide +kernel
theorem dL_keeps_166 : decode cL_keeps 166 = .ok (.invokevirtual 27, 3) := by decide +kernel
theorem dL_keeps_169 : decode cL_keeps 169 = .ok (.aload_n 0, 1) := by decide +kernel
theorem dL_keeps_170 : decode cL_keeps 170 = .ok (.invokevirtual 74, 3) := by decide +kernel
theorem dL_keeps_173 : decode cL_keeps 173 = .ok (.if_icmp .ne 32, 3) := by decide +kernel
theorem dL_keeps_176 : decode cL_keeps 176 = .ok (.aload_n 0, 1) := by decide +kernel
theorem dL_keeps_177 : decode cL_keeps 177 = .ok (.invokevirtual 64, 3) := by decide +kernel
theorem dL_keeps_180 : decode cL_keeps 180 = .ok (.aload_n 0, 1) := by decide +kernel
theorem dL_keeps_181 : decode cL_keeps 181 = .ok (.iconst 0, 1) := by decide +kernel
theorem dL_keeps_182 : decode cL_keeps 182 = .ok (.invokevirtual 21, 3) := by decide +kernel
theorem dL_keeps_185 : decode cL_keeps 185 = .ok (.isub, 1) := by decide +kernel
theorem dL_keeps_186 : decode cL_keeps 186 = .ok (.aload_n 0, 1) := by decide +kernel
theorem dL_keeps_187 : decode cL_keeps 187 = .ok (.invokevirtual 79, 3) := by decide +kernel
theorem dL_keeps_190 : decode cL_keeps 190 = .ok (.if_icmp .lt 15, 3) := by decide +kernel
theorem dL_keeps_193 : decode cL_keeps 193 = .ok (.iload_n 2, 1) := by decide +kernel
theorem dL_keeps_194 : decode cL_keeps 194 = .ok (.ifCond .gt 7, 3) := by decide +kernel
theorem dL_keeps_197 : decode cL_keeps 197 = .ok (.iload_n 1, 1) := by decide +kernel
theorem dL_keeps_198 : decode cL_keeps 198 = .ok (.ifCond .ne 7, 3) := by decide +kernel
theorem dL_keeps_201 : decode cL_keeps 201 = .ok (.iconst 1, 1) := by decide +kernel
theorem dL_keeps_202 : decode cL_keeps 202 = .ok (.goto 4, 3) := by decide +kernel
theorem dL_keeps_205 : decode cL_keeps 205 = .ok (.iconst 0, 1) := by decide +kernel
theorem dL_keeps_206 : decode cL_keeps 206 = .ok (.istore_n 3, 1) := by decide +kernel
theorem dL_keeps_207 : decode cL_keeps 207 = .ok (.iconst 1, 1) := by decide +kernel
theorem dL_keeps_208 : decode cL_keeps 208 = .ok (.istore 4, 2) := by decide +kernel
theorem dL_keeps_210 : decode cL_keeps 210 = .ok (.iload 4, 2) := by decide +kernel
theorem dL_keeps_212 : decode cL_keeps 212 = .ok (.iload_n 2, 1) := by decide +kernel
theorem dL_keeps_213 : decode cL_keeps 213 = .ok (.if_icmp .ge 93, 3) := by decide +kernel
theorem dL_keeps_216 : decode cL_keeps 216 = .ok (.iload 4, 2) := by decide +kernel
theorem dL_keeps_218 : decode cL_keeps 218 = .ok (.bipush 8, 2) := by decide +kernel
theorem dL_keeps_220 : decode cL_keeps 220 = .ok (.if_icmp .ge 86, 3) := by decide +kernel
theorem dL_keeps_223 : decode cL_keeps 223 = .ok (.iload_n 3, 1) := by decide +kernel
theorem dL_keeps_224 : decode cL_keeps 224 = .ok (.ifCond .eq 82, 3) := by decide +kernel
theorem dL_keeps_227 : decode cL_keeps 227 = .ok (.aload_n 0, 1) := by decide +kernel
theorem dL_keeps_228 : decode cL_keeps 228 = .ok (.iload 4, 2) := by decide +kernel
theorem dL_keeps_230 : decode cL_keeps 230 = .ok (.invokevirtual 21, 3) := by decide +kernel
theorem dL_keeps_233 : decode cL_keeps 233 = .ok (.aload_n 0, 1) := by decide +kernel
theorem dL_keeps_234 : decode cL_keeps 234 = .ok (.iload 4, 2) := by decide +kernel
theorem dL_keeps_236 : decode cL_keeps 236 = .ok (.iconst 1, 1) := by decide +kernel
theorem dL_keeps_237 : decode cL_keeps 237 = .ok (.isub, 1) := by decide +kernel
theorem dL_keeps_238 : decode cL_keeps 238 = .ok (.invokevirtual 21, 3) := by decide +kernel
theorem dL_keeps_241 : decode cL_keeps 241 = .ok (.if_icmp .gt 57, 3) := by decide +kernel
theorem dL_keeps_244 : decode cL_keeps 244 = .ok (.aload_n 0, 1) := by decide +kernel
theorem dL_keeps_245 : decode cL_keeps 245 = .ok (.iload 4, 2) := by decide +kernel
theorem dL_keeps_247 : decode cL_keeps 247 = .ok (.invokevirtual 24, 3) := by decide +kernel
theorem dL_keeps_250 : decode cL_keeps 250 = .ok (.aload_n 0, 1) := by decide +kernel
theorem dL_keeps_251 : decode cL_keeps 251 = .ok (.iload 4, 2) := by decide +kernel
theorem dL_keeps_253 : decode cL_keeps 253 = .ok (.iconst 1, 1) := by decide +kernel
theorem dL_keeps_254 : decode cL_keeps 254 = .ok (.isub, 1) := by decide +kernel
theorem dL_keeps_255 : decode cL_keeps 255 = .ok (.invokevirtual 24, 3) := by decide +kernel
theorem dL_keeps_258 : decode cL_keeps 258 = .ok (.if_icmp .eq 40, 3) := by decide +kernel
theorem dL_keeps_261 : decode cL_keeps 261 = .ok (.aload_n 0, 1) := by decide +kernel
theorem dL_keeps_262 : decode cL_keeps 262 = .ok (.iload 4, 2) := by decide +kernel
theorem dL_keeps_264 : decode cL_keeps 264 = .ok (.invokevirtual 27, 3) := by decide +kernel
theorem dL_keeps_267 : decode cL_keeps 267 = .ok (.ifCond .le 7, 3) := by decide +kernel
theorem dL_keeps_270 : decode cL_keeps 270 = .ok (.iconst 1, 1) := by decide +kernel
theorem dL_keeps_271 : decode cL_keeps 271 = .ok (.goto 4, 3) := by decide +kernel
theorem dL_keeps_274 : decode cL_keeps 274 = .ok (.iconst 0, 1) := by decide +kernel
theorem dL_keeps_275 : decode cL_keeps 275 = .ok (.aload_n 0, 1) := by decide +kernel
theorem dL_keeps_276 : decode cL_keeps 276 = .ok (.iload 4, 2) := by decide +kernel
theorem dL_keeps_278 : decode cL_keeps 278 = .ok (.invokevirtual 24, 3) := by decide +kernel
theorem dL_keeps_281 : decode cL_keeps 281 = .ok (.bipush 6, 2) := by decide +kernel
theorem dL_keeps_283 : decode cL_keeps 283 = .ok (.if_icmp .ne 7, 3) := by decide +kernel
theorem dL_keeps_286 : decode cL_keeps 286 = .ok (.iconst 1, 1) := by decide +kernel
theorem dL_keeps_287 : decode cL_keeps 287 = .ok (.goto 4, 3) := by decide +kernel
theorem dL_keeps_290 : decode cL_keeps 290 = .ok (.iconst 0, 1) := by decide +kernel
theorem dL_keeps_291 : decode cL_keeps 291 = .ok (.if_icmp .ne 7, 3) := by decide +kernel
theorem dL_keeps_294 : decode cL_keeps 294 = .ok (.iconst 1, 1) := by decide +kernel
theorem dL_keeps_295 : decode cL_keeps 295 = .ok (.goto 4, 3) := by decide +kernel
theorem dL_keeps_298 : decode cL_keeps 298 = .ok (.iconst 0, 1) := by decide +kernel
theorem dL_keeps_299 : decode cL_keeps 299 = .ok (.istore_n 3, 1) := by decide +kernel
theorem dL_keeps_300 : decode cL_keeps 300 = .ok (.iinc 4 1, 3) := by decide +kernel
theorem dL_keeps_303 : decode cL_keeps 303 = .ok (.goto (-93), 3) := by decide +kernel
theorem dL_keeps_306 : decode cL_keeps 306 = .ok (.iload_n 3, 1) := by decide +kernel
theorem dL_keeps_307 : decode cL_keeps 307 = .ok (.ifCond .eq 79, 3) := by decide +kernel
theorem dL_keeps_310 : decode cL_keeps 310 = .ok (.aload_n 0, 1) := by decide +kernel
theorem dL_keeps_311 : decode cL_keeps 311 = .ok (.iconst 3, 1) := by decide +kernel
theorem dL_keeps_312 : decode cL_keeps 312 = .ok (.iload_n 2, 1) := by decide +kernel
theorem dL_keeps_313 : decode cL_keeps 313 = .ok (.iconst 0, 1) := by decide +kernel
theorem dL_keeps_314 : decode cL_keeps 314 = .ok (.invokestatic 127, 3) := by decide +kernel
theorem dL_keeps_317 : decode cL_keeps 317 = .ok (.bipush (-101), 2) := by decide +kernel
theorem dL_keeps_319 : decode cL_keeps 319 = .ok (.if_icmp .ne 67, 3) := by decide +kernel
theorem dL_keeps_322 : decode cL_keeps 322 = .ok (.aload_n 0, 1) := by decide +kernel
theorem dL_keeps_323 : decode cL_keeps 323 = .ok (.iconst 4, 1) := by decide +kernel
theorem dL_keeps_324 : decode cL_keeps 324 = .ok (.iconst (-1), 1) := by decide +kernel
theorem dL_keeps_325 : decode cL_keeps 325 = .ok (.iconst 0, 1) := by decide +kernel
theorem dL_keeps_326 : decode cL_keeps 326 = .ok (.invokestatic 127, 3) := by decide +kernel
theorem dL_keeps_329 : decode cL_keeps 329 = .ok (.bipush (-101), 2) := by decide +kernel
theorem dL_keeps_331 : decode cL_keeps 331 = .ok (.if_icmp .ne 55, 3) := by decide +kernel
theorem dL_keeps_334 : decode cL_keeps 334 = .ok (.aload_n 0, 1) := by decide +kernel
theorem dL_keeps_335 : decode cL_keeps 335 = .ok (.iconst 5, 1) := by decide +kernel
theorem dL_keeps_336 : decode cL_keeps 336 = .ok (.iload_n 2, 1) := by decide +kernel
theorem dL_keeps_337 : decode cL_keeps 337 = .ok (.iconst 0, 1) := by decide +kernel
theorem dL_keeps_338 : decode cL_keeps 338 = .ok (.invokestatic 127, 3) := by decide +kernel
theorem dL_keeps_341 : decode cL_keeps 341 = .ok (.bipush (-101), 2) := by decide +kernel
theorem dL_keeps_343 : decode cL_keeps 343 = .ok (.if_icmp .ne 43, 3) := by decide +kernel
theorem dL_keeps_346 : decode cL_keeps 346 = .ok (.aload_n 0, 1) := by decide +kernel
theorem dL_keeps_347 : decode cL_keeps 347 = .ok (.invokevirtual 84, 3) := by decide +kernel
theorem dL_keeps_350 : decode cL_keeps 350 = .ok (.ifCond .lt 36, 3) := by decide +kernel
theorem dL_keeps_353 : decode cL_keeps 353 = .ok (.aload_n 0, 1) := by decide +kernel
theorem dL_keeps_354 : decode cL_keeps 354 = .ok (.invokevirtual 84, 3) := by decide +kernel
theorem dL_keeps_357 : decode cL_keeps 357 = .ok (.bipush 100, 2) := by decide +kernel
theorem dL_keeps_359 : decode cL_keeps 359 = .ok (.if_icmp .gt 27, 3) := by decide +kernel
theorem dL_keeps_362 : decode cL_keeps 362 = .ok (.aload_n 0, 1) := by decide +kernel
theorem dL_keeps_363 : decode cL_keeps 363 = .ok (.invokevirtual 121, 3) := by decide +kernel
theorem dL_keeps_366 : decode cL_keeps 366 = .ok (.ifCond .ne 7, 3) := by decide +kernel
theorem dL_keeps_369 : decode cL_keeps 369 = .ok (.iconst 1, 1) := by decide +kernel
theorem dL_keeps_370 : decode cL_keeps 370 = .ok (.goto 4, 3) := by decide +kernel
theorem dL_keeps_373 : decode cL_keeps 373 = .ok (.iconst 0, 1) := by decide +kernel
theorem dL_keeps_374 : decode cL_keeps 374 = .ok (.aload_n 0, 1) := by decide +kernel
theorem dL_keeps_375 : decode cL_keeps 375 = .ok (.iconst 0, 1) := by decide +kernel
theorem dL_keeps_376 : decode cL_keeps 376 = .ok (.invokevirtual 124, 3) := by decide +kernel
theorem dL_keeps_379 : decode cL_keeps 379 = .ok (.if_icmp .ne 7, 3) := by decide +kernel
theorem dL_keeps_382 : decode cL_keeps 382 = .ok (.iconst 1, 1) := by decide +kernel
theorem dL_keeps_383 : decode cL_keeps 383 = .ok (.goto 4, 3) := by decide +kernel
theorem dL_keeps_386 : decode cL_keeps 386 = .ok (.iconst 0, 1) := by decide +kernel
theorem dL_keeps_387 : decode cL_keeps 387 = .ok (.ireturn, 1) := by decide +kernel
theorem dL_told_0 : decode cL_told 0 = .ok (.aload_n 0, 1) := by decide +kernel
theorem dL_told_1 : decode cL_told 1 = .ok (.invokestatic 131, 3) := by decide +kernel
theorem dL_told_4 : decode cL_told 4 = .ok (.lstore 4, 2) := by decide +kernel
theorem dL_told_6 : decode cL_told 6 = .ok (.iload_n 2, 1) := by decide +kernel
theorem dL_told_7 : decode cL_told 7 = .ok (.bipush 6, 2) := by decide +kernel
theorem dL_told_9 : decode cL_told 9 = .ok (.invokestatic 135, 3) := by decide +kernel
theorem dL_told_12 : decode cL_told 12 = .ok (.istore 6, 2) := by decide +kernel
theorem dL_told_14 : decode cL_told 14 = .ok (.iload 6, 2) := by decide +kernel
theorem dL_told_16 : decode cL_told 16 = .ok (.iconst 3, 1) := by decide +kernel
theorem dL_told_17 : decode cL_told 17 = .ok (.if_icmp .ge 132, 3) := by decide +kernel
theorem dL_told_20 : decode cL_told 20 = .ok (.iload_n 3, 1) := by decide +kernel
theorem dL_told_21 : decode cL_told 21 = .ok (.ifCond .eq 16, 3) := by decide +kernel
theorem dL_told_24 : decode cL_told 24 = .ok (.iload_n 2, 1) := by decide +kernel
theorem dL_told_25 : decode cL_told 25 = .ok (.iconst 3, 1) := by decide +kernel
theorem dL_told_26 : decode cL_told 26 = .ok (.ishr, 1) := by decide +kernel
theorem dL_told_27 : decode cL_told 27 = .ok (.bipush 10, 2) := by decide +kernel
theorem dL_told_29 : decode cL_told 29 = .ok (.invokestatic 135, 3) := by decide +kernel
theorem dL_told_32 : decode cL_told 32 = .ok (.iconst 2, 1) := by decide +kernel
theorem dL_told_33 : decode cL_told 33 = .ok (.isub, 1) := by decide +kernel
theorem dL_told_34 : decode cL_told 34 = .ok (.goto 11, 3) := by decide +kernel
theorem dL_told_37 : decode cL_told 37 = .ok (.iload_n 2, 1) := by decide +kernel
theorem dL_told_38 : decode cL_told 38 = .ok (.iconst 3, 1) := by decide +kernel
theorem dL_told_39 : decode cL_told 39 = .ok (.ishr, 1) := by decide +kernel
theorem dL_told_40 : decode cL_told 40 = .ok (.bipush 6, 2) := by decide +kernel
theorem dL_told_42 : decode cL_told 42 = .ok (.invokestatic 135, 3) := by decide +kernel
theorem dL_told_45 : decode cL_told 45 = .ok (.istore 7, 2) := by decide +kernel
theorem dL_told_47 : decode cL_told 47 = .ok (.iload_n 2, 1) := by decide +kernel
theorem dL_told_48 : decode cL_told 48 = .ok (.bipush 7, 2) := by decide +kernel
theorem dL_told_50 : decode cL_told 50 = .ok (.ishr, 1) := by decide +kernel
theorem dL_told_51 : decode cL_told 51 = .ok (.iconst 4, 1) := by decide +kernel
theorem dL_told_52 : decode cL_told 52 = .ok (.invokestatic 135, 3) := by decide +kernel
theorem dL_told_55 : decode cL_told 55 = .ok (.ifCond .le 7, 3) := by decide +kernel
theorem dL_told_58 : decode cL_told 58 = .ok (.iconst 1, 1) := by decide +kernel
theorem dL_told_59 : decode cL_told 59 = .ok (.goto 4, 3) := by decide +kernel
theorem dL_told_62 : decode cL_told 62 = .ok (.iconst 0, 1) := by decide +kernel
theorem dL_told_63 : decode cL_told 63 = .ok (.istore 8, 2) := by decide +kernel
theorem dL_told_65 : decode cL_told 65 = .ok (.aload_n 0, 1) := by decide +kernel
theorem dL_told_66 : decode cL_told 66 = .ok (.bipush 8, 2) := by decide +kernel
theorem dL_told_68 : decode cL_told 68 = .ok (.iload 7, 2) := by decide +kernel
theorem dL_told_70 : decode cL_told 70 = .ok (.iload 8, 2) := by decide +kernel
theorem dL_told_72 : decode cL_told 72 = .ok (.invokestatic 127, 3) := by decide +kernel
theorem dL_told_75 : decode cL_told 75 = .ok (.istore 9, 2) := by decide +kernel
theorem dL_told_77 : decode cL_told 77 = .ok (.iload 9, 2) := by decide +kernel
theorem dL_told_79 : decode cL_told 79 = .ok (.aload_n 1, 1) := by decide +kernel
theorem dL_told_80 : decode cL_told 80 = .ok (.bipush 8, 2) := by decide +kernel
theorem dL_told_82 : decode cL_told 82 = .ok (.iload 7, 2) := by decide +kernel
theorem dL_told_84 : decode cL_told 84 = .ok (.iload 8, 2) := by decide +kernel
theorem dL_told_86 : decode cL_told 86 = .ok (.invokestatic 127, 3) := by decide +kernel
theorem dL_told_89 : decode cL_told 89 = .ok (.if_icmp .ne 58, 3) := by decide +kernel
theorem dL_told_92 : decode cL_told 92 = .ok (.iload 7, 2) := by decide +kernel
theorem dL_told_94 : decode cL_told 94 = .ok (.ifCond .lt 9, 3) := by decide +kernel
theorem dL_told_97 : decode cL_told 97 = .ok (.iload 7, 2) := by decide +kernel
theorem dL_told_99 : decode cL_told 99 = .ok (.iconst 5, 1) := by decide +kernel
theorem dL_told_100 : decode cL_told 100 = .ok (.if_icmp .le 13, 3) := by decide +kernel
theorem dL_told_103 : decode cL_told 103 = .ok (.iload 9, 2) := by decide +kernel
theorem dL_told_105 : decode cL_told 105 = .ok (.bipush (-101), 2) := by decide +kernel
theorem dL_told_107 : decode cL_told 107 = .ok (.if_icmp .ne 40, 3) := by decide +kernel
theorem dL_told_110 : decode cL_told 110 = .ok (.goto 23, 3) := by decide +kernel
theorem dL_told_113 : decode cL_told 113 = .ok (.iload 9, 2) := by decide +kernel
theorem dL_told_115 : decode cL_told 115 = .ok (.ifCond .lt 32, 3) := by decide +kernel
theorem dL_told_118 : decode cL_told 118 = .ok (.aload_n 0, 1) := by decide +kernel
theorem dL_told_119 : decode cL_told 119 = .ok (.bipush 8, 2) := by decide +kernel
theorem dL_told_121 : decode cL_told 121 = .ok (.iload 7, 2) := by decide +kernel
theorem dL_told_123 : decode cL_told 123 = .ok (.iload 8, 2) := by decide +kernel
theorem dL_told_125 : decode cL_told 125 = .ok (.invokestatic 127, 3) := by decide +kernel
theorem dL_told_128 : decode cL_told 128 = .ok (.iload 8, 2) := by decide +kernel
theorem dL_told_130 : decode cL_told 130 = .ok (.if_icmp .ne 17, 3) := by decide +kernel
theorem dL_told_133 : decode cL_told 133 = .ok (.aload_n 0, 1) := by decide +kernel
theorem dL_told_134 : decode cL_told 134 = .ok (.invokestatic 131, 3) := by decide +kernel
theorem dL_told_137 : decode cL_told 137 = .ok (.lload 4, 2) := by decide +kernel
theorem dL_told_139 : decode cL_told 139 = .ok (.lcmp, 1) := by decide +kernel
theorem dL_told_140 : decode cL_told 140 = .ok (.ifCond .ne 7, 3) := by decide +kernel
theorem dL_told_143 : decode cL_told 143 = .ok (.iconst 1, 1) := by decide +kernel
theorem dL_told_144 : decode cL_told 144 = .ok (.goto 4, 3) := by decide +kernel
theorem dL_told_147 : decode cL_told 147 = .ok (.iconst 0, 1) := by decide +kernel
theorem dL_told_148 : decode cL_told 148 = .ok (.ireturn, 1) := by decide +kernel
theorem dL_told_149 : decode cL_told 149 = .ok (.iload 6, 2) := by decide +kernel
theorem dL_told_151 : decode cL_told 151 = .ok (.iconst 4, 1) := by decide +kernel
theorem dL_told_152 : decode cL_told 152 = .ok (.if_icmp .ge 122, 3) := by decide +kernel
theorem dL_told_155 : decode cL_told 155 = .ok (.iload_n 3, 1) := by decide +kernel
theorem dL_told_156 : decode cL_told 156 = .ok (.ifCond .eq 15, 3) := by decide +kernel
theorem dL_told_159 : decode cL_told 159 = .ok (.iload_n 2, 1) := by decide +kernel
theorem dL_told_160 : decode cL_told 160 = .ok (.iconst 3, 1) := by decide +kernel
theorem dL_told_161 : decode cL_told 161 = .ok (.ishr, 1) := by decide +kernel
theorem dL_told_162 : decode cL_told 162 = .ok (.sipush 130, 3) := by decide +kernel
theorem dL_told_165 : decode cL_told 165 = .ok (.invokestatic 135, 3) := by decide +kernel
theorem dL_told_168 : decode cL_told 168 = .ok (.goto 14, 3) := by decide +kernel
theorem dL_told_171 : decode cL_told 171 = .ok (.bipush 20, 2) := by decide +kernel
theorem dL_told_173 : decode cL_told 173 = .ok (.iload_n 2, 1) := by decide +kernel
theorem dL_told_174 : decode cL_told 174 = .ok (.iconst 3, 1) := by decide +kernel
theorem dL_told_175 : decode cL_told 175 = .ok (.ishr, 1) := by decide +kernel
theorem dL_told_176 : decode cL_told 176 = .ok (.bipush 81, 2) := by decide +kernel
theorem dL_told_178 : decode cL_told 178 = .ok (.invokestatic 135, 3) := by decide +kernel
theorem dL_told_181 : decode cL_told 181 = .ok (.iadd, 1) := by decide +kernel
theorem dL_told_182 : decode cL_told 182 = .ok (.istore 7, 2) := by decide +kernel
theorem dL_told_184 : decode cL_told 184 = .ok (.aload_n 0, 1) := by decide +kernel
theorem dL_told_185 : decode cL_told 185 = .ok (.iconst 0, 1) := by decide +kernel
theorem dL_told_186 : decode cL_told 186 = .ok (.iload 7, 2) := by decide +kernel
theorem dL_told_188 : decode cL_told 188 = .ok (.iconst 0, 1) := by decide +kernel
theorem dL_told_189 : decode cL_told 189 = .ok (.invokestatic 127, 3) := by decide +kernel
theorem dL_told_192 : decode cL_told 192 = .ok (.istore 8, 2) := by decide +kernel
theorem dL_told_194 : decode cL_told 194 = .ok (.iload 8, 2) := by decide +kernel
theorem dL_told_196 : decode cL_told 196 = .ok (.aload_n 1, 1) := by decide +kernel
theorem dL_told_197 : decode cL_told 197 = .ok (.iconst 0, 1) := by decide +kernel
theorem dL_told_198 : decode cL_told 198 = .ok (.iload 7, 2) := by decide +kernel
theorem dL_told_200 : decode cL_told 200 = .ok (.iconst 0, 1) := by decide +kernel
theorem dL_told_201 : decode cL_told 201 = .ok (.invokestatic 127, 3) := by decide +kernel
theorem dL_told_204 : decode cL_told 204 = .ok (.if_icmp .ne 68, 3) := by decide +kernel
theorem dL_told_207 : decode cL_told 207 = .ok (.iload 7, 2) := by decide +kernel
theorem dL_told_209 : decode cL_told 209 = .ok (.bipush 20, 2) := by decide +kernel
theorem dL_told_211 : decode cL_told 211 = .ok (.if_icmp .lt 10, 3) := by decide +kernel
theorem dL_told_214 : decode cL_told 214 = .ok (.iload 7, 2) := by decide +kernel
theorem dL_told_216 : decode cL_told 216 = .ok (.bipush 100, 2) := by decide +kernel
theorem dL_told_218 : decode cL_told 218 = .ok (.if_icmp .le 13, 3) := by decide +kernel
theorem dL_told_221 : decode cL_told 221 = .ok (.iload 8, 2) := by decide +kernel
theorem dL_told_223 : decode cL_told 223 = .ok (.bipush (-102), 2) := by decide +kernel
theorem dL_told_225 : decode cL_told 225 = .ok (.if_icmp .ne 47, 3) := by decide +kernel
theorem dL_told_228 : decode cL_told 228 = .ok (.goto 30, 3) := by decide +kernel
theorem dL_told_231 : decode cL_told 231 = .ok (.iload 8, 2) := by decide +kernel
theorem dL_told_233 : decode cL_told 233 = .ok (.bipush 19, 2) := by decide +kernel
theorem dL_told_235 : decode cL_told 235 = .ok (.if_icmp .le 37, 3) := by decide +kernel
theorem dL_told_238 : decode cL_told 238 = .ok (.iload 8, 2) := by decide +kernel
theorem dL_told_240 : decode cL_told 240 = .ok (.bipush 101, 2) := by decide +kernel
theorem dL_told_242 : decode cL_told 242 = .ok (.if_icmp .ge 30, 3) := by decide +kernel
theorem dL_told_245 : decode cL_told 245 = .ok (.aload_n 0, 1) := by decide +kernel
theorem dL_told_246 : decode cL_told 246 = .ok (.iconst 0, 1) := by decide +kernel
theorem dL_told_247 : decode cL_told 247 = .ok (.iload 7, 2) := by decide +kernel
theorem dL_told_249 : decode cL_told 249 = .ok (.iconst 0, 1) := by decide +kernel
theorem dL_told_250 : decode cL_told 250 = .ok (.invokestatic 127, 3) := by decide +kernel
theorem dL_told_253 : decode cL_told 253 = .ok (.iload 7, 2) := by decide +kernel
theorem dL_told_255 : decode cL_told 255 = .ok (.if_icmp .ne 17, 3) := by decide +kernel
theorem dL_told_258 : decode cL_told 258 = .ok (.aload_n 0, 1) := by decide +kernel
theorem dL_told_259 : decode cL_told 259 = .ok (.invokestatic 131, 3) := by decide +kernel
theorem dL_told_262 : decode cL_told 262 = .ok (.lload 4, 2) := by decide +kernel
theorem dL_told_264 : decode cL_told 264 = .ok (.lcmp, 1) := by decide +kernel
theorem dL_told_265 : decode cL_told 265 = .ok (.ifCond .ne 7, 3) := by decide +kernel
theorem dL_told_268 : decode cL_told 268 = .ok (.iconst 1, 1) := by decide +kernel
theorem dL_told_269 : decode cL_told 269 = .ok (.goto 4, 3) := by decide +kernel
theorem dL_told_272 : decode cL_told 272 = .ok (.iconst 0, 1) := by decide +kernel
theorem dL_told_273 : decode cL_told 273 = .ok (.ireturn, 1) := by decide +kernel
theorem dL_told_274 : decode cL_told 274 = .ok (.iload_n 2, 1) := by decide +kernel
theorem dL_told_275 : decode cL_told 275 = .ok (.iconst 3, 1) := by decide +kernel
theorem dL_told_276 : decode cL_told 276 = .ok (.ishr, 1) := by decide +kernel
theorem dL_told_277 : decode cL_told 277 = .ok (.iconst 3, 1) := by decide +kernel
theorem dL_told_278 : decode cL_told 278 = .ok (.invokestatic 135, 3) := by decide +kernel
theorem dL_told_281 : decode cL_told 281 = .ok (.istore 7, 2) := by decide +kernel
theorem dL_told_283 : decode cL_told 283 = .ok (.iload_n 3, 1) := by decide +kernel
theorem dL_told_284 : decode cL_told 284 = .ok (.ifCond .eq 18, 3) := by decide +kernel
theorem dL_told_287 : decode cL_told 287 = .ok (.iload_n 2, 1) := by decide +kernel
theorem dL_told_288 : decode cL_told 288 = .ok (.iconst 5, 1) := by decide +kernel
theorem dL_told_289 : decode cL_told 289 = .ok (.ishr, 1) := by decide +kernel
theorem dL_told_290 : decode cL_told 290 = .ok (.sipush 520, 3) := by decide +kernel
theorem dL_told_293 : decode cL_told 293 = .ok (.invokestatic 135, 3) := by decide +kernel
theorem dL_told_296 : decode cL_told 296 = .ok (.bipush 9, 2) := by decide +kernel
theorem dL_told_298 : decode cL_told 298 = .ok (.isub, 1) := by decide +kernel
theorem dL_told_299 : decode cL_told 299 = .ok (.goto 50, 3) := by decide +kernel
theorem dL_told_302 : decode cL_told 302 = .ok (.iload 7, 2) := by decide +kernel
theorem dL_told_304 : decode cL_told 304 = .ok (.ifCond .ne 17, 3) := by decide +kernel
theorem dL_told_307 : decode cL_told 307 = .ok (.bipush 15, 2) := by decide +kernel
theorem dL_told_309 : decode cL_told 309 = .ok (.iload_n 2, 1) := by decide +kernel
theorem dL_told_310 : decode cL_told 310 = .ok (.iconst 5, 1) := by decide +kernel
theorem dL_told_311 : decode cL_told 311 = .ok (.ishr, 1) := by decide +kernel
theorem dL_told_312 : decode cL_told 312 = .ok (.bipush 50, 2) := by decide +kernel
theorem dL_told_314 : decode cL_told 314 = .ok (.invokestatic 135, 3) := by decide +kernel
theorem dL_told_317 : decode cL_told 317 = .ok (.iadd, 1) := by decide +kernel
theorem dL_told_318 : decode cL_told 318 = .ok (.goto 31, 3) := by decide +kernel
theorem dL_told_321 : decode cL_told 321 = .ok (.iload 7, 2) := by decide +kernel
theorem dL_told_323 : decode cL_told 323 = .ok (.iconst 1, 1) := by decide +kernel
theorem dL_told_324 : decode cL_told 324 = .ok (.if_icmp .ne 15, 3) := by decide +kernel
theorem dL_told_327 : decode cL_told 327 = .ok (.iconst 1, 1) := by decide +kernel
theorem dL_told_328 : decode cL_told 328 = .ok (.iload_n 2, 1) := by decide +kernel
theorem dL_told_329 : decode cL_told 329 = .ok (.iconst 5, 1) := by decide +kernel
theorem dL_told_330 : decode cL_told 330 = .ok (.ishr, 1) := by decide +kernel
theorem dL_told_331 : decode cL_told 331 = .ok (.iconst 3, 1) := by decide +kernel
theorem dL_told_332 : decode cL_told 332 = .ok (.invokestatic 135, 3) := by decide +kernel
theorem dL_told_335 : decode cL_told 335 = .ok (.iadd, 1) := by decide +kernel
theorem dL_told_336 : decode cL_told 336 = .ok (.goto 13, 3) := by decide +kernel
theorem dL_told_339 : decode cL_told 339 = .ok (.iconst 1, 1) := by decide +kernel
theorem dL_told_340 : decode cL_told 340 = .ok (.iload_n 2, 1) := by decide +kernel
theorem dL_told_341 : decode cL_told 341 = .ok (.iconst 5, 1) := by decide +kernel
theorem dL_told_342 : decode cL_told 342 = .ok (.ishr, 1) := by decide +kernel
theorem dL_told_343 : decode cL_told 343 = .ok (.bipush 120, 2) := by decide +kernel
theorem dL_told_345 : decode cL_told 345 = .ok (.invokestatic 135, 3) := by decide +kernel
theorem dL_told_348 : decode cL_told 348 = .ok (.iadd, 1) := by decide +kernel
theorem dL_told_349 : decode cL_told 349 = .ok (.istore 8, 2) := by decide +kernel
theorem dL_told_351 : decode cL_told 351 = .ok (.iload_n 3, 1) := by decide +kernel
theorem dL_told_352 : decode cL_told 352 = .ok (.ifCond .eq 17, 3) := by decide +kernel
theorem dL_told_355 : decode cL_told 355 = .ok (.iload_n 2, 1) := by decide +kernel
theorem dL_told_356 : decode cL_told 356 = .ok (.bipush 8, 2) := by decide +kernel
theorem dL_told_358 : decode cL_told 358 = .ok (.ishr, 1) := by decide +kernel
theorem dL_told_359 : decode cL_told 359 = .ok (.bipush 60, 2) := by decide +kernel
theorem dL_told_361 : decode cL_told 361 = .ok (.invokestatic 135, 3) := by decide +kernel
theorem dL_told_364 : decode cL_told 364 = .ok (.iconst 3, 1) := by decide +kernel
theorem dL_told_365 : decode cL_told 365 = .ok (.isub, 1) := by decide +kernel
theorem dL_told_366 : decode cL_told 366 = .ok (.goto 53, 3) := by decide +kernel
theorem dL_told_369 : decode cL_told 369 = .ok (.iload 7, 2) := by decide +kernel
theorem dL_told_371 : decode cL_told 371 = .ok (.ifCond .ne 17, 3) := by decide +kernel
theorem dL_told_374 : decode cL_told 374 = .ok (.iconst 3, 1) := by decide +kernel
theorem dL_told_375 : decode cL_told 375 = .ok (.iload_n 2, 1) := by decide +kernel
theorem dL_told_376 : decode cL_told 376 = .ok (.bipush 8, 2) := by decide +kernel
theorem dL_told_378 : decode cL_told 378 = .ok (.ishr, 1) := by decide +kernel
theorem dL_told_379 : decode cL_told 379 = .ok (.bipush 9, 2) := by decide +kernel
theorem dL_told_381 : decode cL_told 381 = .ok (.invokestatic 135, 3) := by decide +kernel
theorem dL_told_384 : decode cL_told 384 = .ok (.iadd, 1) := by decide +kernel
theorem dL_told_385 : decode cL_told 385 = .ok (.goto 34, 3) := by decide +kernel
theorem dL_told_388 : decode cL_told 388 = .ok (.iload 7, 2) := by decide +kernel
theorem dL_told_390 : decode cL_told 390 = .ok (.iconst 1, 1) := by decide +kernel
theorem dL_told_391 : decode cL_told 391 = .ok (.if_icmp .ne 16, 3) := by decide +kernel
theorem dL_told_394 : decode cL_told 394 = .ok (.iconst 1, 1) := by decide +kernel
theorem dL_told_395 : decode cL_told 395 = .ok (.iload_n 2, 1) := by decide +kernel
theorem dL_told_396 : decode cL_told 396 = .ok (.bipush 8, 2) := by decide +kernel
theorem dL_told_398 : decode cL_told 398 = .ok (.ishr, 1) := by decide +kernel
theorem dL_told_399 : decode cL_told 399 = .ok (.iconst 3, 1) := by decide +kernel
theorem dL_told_400 : decode cL_told 400 = .ok (.invokestatic 135, 3) := by decide +kernel
theorem dL_told_403 : decode cL_told 403 = .ok (.iadd, 1) := by decide +kernel
theorem dL_told_404 : decode cL_told 404 = .ok (.goto 15, 3) := by decide +kernel
theorem dL_told_407 : decode cL_told 407 = .ok (.bipush 10, 2) := by decide +kernel
theorem dL_told_409 : decode cL_told 409 = .ok (.iload_n 2, 1) := by decide +kernel
theorem dL_told_410 : decode cL_told 410 = .ok (.bipush 8, 2) := by decide +kernel
theorem dL_told_412 : decode cL_told 412 = .ok (.ishr, 1) := by decide +kernel
theorem dL_told_413 : decode cL_told 413 = .ok (.bipush 41, 2) := by decide +kernel
theorem dL_told_415 : decode cL_told 415 = .ok (.invokestatic 135, 3) := by decide +kernel
theorem dL_told_418 : decode cL_told 418 = .ok (.iadd, 1) := by decide +kernel
theorem dL_told_419 : decode cL_told 419 = .ok (.istore 9, 2) := by decide +kernel
theorem dL_told_421 : decode cL_told 421 = .ok (.iload_n 3, 1) := by decide +kernel
theorem dL_told_422 : decode cL_told 422 = .ok (.ifCond .eq 17, 3) := by decide +kernel
theorem dL_told_425 : decode cL_told 425 = .ok (.iload_n 2, 1) := by decide +kernel
theorem dL_told_426 : decode cL_told 426 = .ok (.bipush 11, 2) := by decide +kernel
theorem dL_told_428 : decode cL_told 428 = .ok (.ishr, 1) := by decide +kernel
theorem dL_told_429 : decode cL_told 429 = .ok (.bipush 110, 2) := by decide +kernel
theorem dL_told_431 : decode cL_told 431 = .ok (.invokestatic 135, 3) := by decide +kernel
theorem dL_told_434 : decode cL_told 434 = .ok (.iconst 3, 1) := by decide +kernel
theorem dL_told_435 : decode cL_told 435 = .ok (.isub, 1) := by decide +kernel
theorem dL_told_436 : decode cL_told 436 = .ok (.goto 53, 3) := by decide +kernel
theorem dL_told_439 : decode cL_told 439 = .ok (.iload 7, 2) := by decide +kernel
theorem dL_told_441 : decode cL_told 441 = .ok (.ifCond .ne 17, 3) := by decide +kernel
theorem dL_told_444 : decode cL_told 444 = .ok (.iconst 2, 1) := by decide +kernel
theorem dL_told_445 : decode cL_told 445 = .ok (.iload_n 2, 1) := by decide +kernel
theorem dL_told_446 : decode cL_told 446 = .ok (.bipush 11, 2) := by decide +kernel
theorem dL_told_448 : decode cL_told 448 = .ok (.ishr, 1) := by decide +kernel
theorem dL_told_449 : decode cL_told 449 = .ok (.bipush 9, 2) := by decide +kernel
theorem dL_told_451 : decode cL_told 451 = .ok (.invokestatic 135, 3) := by decide +kernel
theorem dL_told_454 : decode cL_told 454 = .ok (.iadd, 1) := by decide +kernel
theorem dL_told_455 : decode cL_told 455 = .ok (.goto 34, 3) := by decide +kernel
theorem dL_told_458 : decode cL_told 458 = .ok (.iload 7, 2) := by decide +kernel
theorem dL_told_460 : decode cL_told 460 = .ok (.iconst 1, 1) := by decide +kernel
theorem dL_told_461 : decode cL_told 461 = .ok (.if_icmp .ne 17, 3) := by decide +kernel
theorem dL_told_464 : decode cL_told 464 = .ok (.iconst 5, 1) := by decide +kernel
theorem dL_told_465 : decode cL_told 465 = .ok (.iload_n 2, 1) := by decide +kernel
theorem dL_told_466 : decode cL_told 466 = .ok (.bipush 11, 2) := by decide +kernel
theorem dL_told_468 : decode cL_told 468 = .ok (.ishr, 1) := by decide +kernel
theorem dL_told_469 : decode cL_told 469 = .ok (.bipush 9, 2) := by decide +kernel
theorem dL_told_471 : decode cL_told 471 = .ok (.invokestatic 135, 3) := by decide +kernel
theorem dL_told_474 : decode cL_told 474 = .ok (.iadd, 1) := by decide +kernel
theorem dL_told_475 : decode cL_told 475 = .ok (.goto 14, 3) := by decide +kernel
theorem dL_told_478 : decode cL_told 478 = .ok (.iconst 5, 1) := by decide +kernel
theorem dL_told_479 : decode cL_told 479 = .ok (.iload_n 2, 1) := by decide +kernel
theorem dL_told_480 : decode cL_told 480 = .ok (.bipush 11, 2) := by decide +kernel
theorem dL_told_482 : decode cL_told 482 = .ok (.ishr, 1) := by decide +kernel
theorem dL_told_483 : decode cL_told 483 = .ok (.bipush 46, 2) := by decide +kernel
theorem dL_told_485 : decode cL_told 485 = .ok (.invokestatic 135, 3) := by decide +kernel
theorem dL_told_488 : decode cL_told 488 = .ok (.iadd, 1) := by decide +kernel
theorem dL_told_489 : decode cL_told 489 = .ok (.istore 10, 2) := by decide +kernel
theorem dL_told_491 : decode cL_told 491 = .ok (.iload_n 3, 1) := by decide +kernel
theorem dL_told_492 : decode cL_told 492 = .ok (.ifCond .eq 16, 3) := by decide +kernel
theorem dL_told_495 : decode cL_told 495 = .ok (.iload_n 2, 1) := by decide +kernel
theorem dL_told_496 : decode cL_told 496 = .ok (.iconst 2, 1) := by decide +kernel
theorem dL_told_497 : decode cL_told 497 = .ok (.ishr, 1) := by decide +kernel
theorem dL_told_498 : decode cL_told 498 = .ok (.bipush 70, 2) := by decide +kernel
theorem dL_told_500 : decode cL_told 500 = .ok (.invokestatic 135, 3) := by decide +kernel
theorem dL_told_503 : decode cL_told 503 = .ok (.iconst 3, 1) := by decide +kernel
theorem dL_told_504 : decode cL_told 504 = .ok (.isub, 1) := by decide +kernel
theorem dL_told_505 : decode cL_told 505 = .ok (.goto 13, 3) := by decide +kernel
theorem dL_told_508 : decode cL_told 508 = .ok (.iconst 1, 1) := by decide +kernel
theorem dL_told_509 : decode cL_told 509 = .ok (.iload_n 2, 1) := by decide +kernel
theorem dL_told_510 : decode cL_told 510 = .ok (.iconst 2, 1) := by decide +kernel
theorem dL_told_511 : decode cL_told 511 = .ok (.ishr, 1) := by decide +kernel
theorem dL_told_512 : decode cL_told 512 = .ok (.bipush 9, 2) := by decide +kernel
theorem dL_told_514 : decode cL_told 514 = .ok (.invokestatic 135, 3) := by decide +kernel
theorem dL_told_517 : decode cL_told 517 = .ok (.iadd, 1) := by decide +kernel
theorem dL_told_518 : decode cL_told 518 = .ok (.istore 11, 2) := by decide +kernel
theorem dL_told_520 : decode cL_told 520 = .ok (.iload 7, 2) := by decide +kernel
theorem dL_told_522 : decode cL_told 522 = .ok (.ifCond .ne 64, 3) := by decide +kernel
theorem dL_told_525 : decode cL_told 525 = .ok (.iload 8, 2) := by decide +kernel
theorem dL_told_527 : decode cL_told 527 = .ok (.iconst 1, 1) := by decide +kernel
theorem dL_told_528 : decode cL_told 528 = .ok (.if_icmp .lt 50, 3) := by decide +kernel
theorem dL_told_531 : decode cL_told 531 = .ok (.iload 8, 2) := by decide +kernel
theorem dL_told_533 : decode cL_told 533 = .ok (.sipush 200, 3) := by decide +kernel
theorem dL_told_536 : decode cL_told 536 = .ok (.if_icmp .gt 42, 3) := by decide +kernel
theorem dL_told_539 : decode cL_told 539 = .ok (.iload 9, 2) := by decide +kernel
theorem dL_told_541 : decode cL_told 541 = .ok (.iconst 1, 1) := by decide +kernel
theorem dL_told_542 : decode cL_told 542 = .ok (.if_icmp .lt 36, 3) := by decide +kernel
theorem dL_told_545 : decode cL_told 545 = .ok (.iload 9, 2) := by decide +kernel
theorem dL_told_547 : decode cL_told 547 = .ok (.bipush 30, 2) := by decide +kernel
theorem dL_told_549 : decode cL_told 549 = .ok (.if_icmp .gt 29, 3) := by decide +kernel
theorem dL_told_552 : decode cL_told 552 = .ok (.iload 10, 2) := by decide +kernel
theorem dL_told_554 : decode cL_told 554 = .ok (.iconst 1, 1) := by decide +kernel
theorem dL_told_555 : decode cL_told 555 = .ok (.if_icmp .lt 23, 3) := by decide +kernel
theorem dL_told_558 : decode cL_told 558 = .ok (.iload 10, 2) := by decide +kernel
theorem dL_told_560 : decode cL_told 560 = .ok (.bipush 30, 2) := by decide +kernel
theorem dL_told_562 : decode cL_told 562 = .ok (.if_icmp .gt 16, 3) := by decide +kernel
theorem dL_told_565 : decode cL_told 565 = .ok (.iload 11, 2) := by decide +kernel
theorem dL_told_567 : decode cL_told 567 = .ok (.iconst 1, 1) := by decide +kernel
theorem dL_told_568 : decode cL_told 568 = .ok (.if_icmp .lt 10, 3) := by decide +kernel
theorem dL_told_571 : decode cL_told 571 = .ok (.iload 11, 2) := by decide +kernel
theorem dL_told_573 : decode cL_told 573 = .ok (.bipush 60, 2) := by decide +kernel
theorem dL_told_575 : decode cL_told 575 = .ok (.if_icmp .le 7, 3) := by decide +kernel
theorem dL_told_578 : decode cL_told 578 = .ok (.iconst 1, 1) := by decide +kernel
theorem dL_told_579 : decode cL_told 579 = .ok (.goto 103, 3) := by decide +kernel
theorem dL_told_582 : decode cL_told 582 = .ok (.iconst 0, 1) := by decide +kernel
theorem dL_told_583 : decode cL_told 583 = .ok (.goto 99, 3) := by decide +kernel
theorem dL_told_586 : decode cL_told 586 = .ok (.iload 7, 2) := by decide +kernel
theorem dL_told_588 : decode cL_told 588 = .ok (.iconst 1, 1) := by decide +kernel
theorem dL_told_589 : decode cL_told 589 = .ok (.if_icmp .ne 48, 3) := by decide +kernel
theorem dL_told_592 : decode cL_told 592 = .ok (.iload 8, 2) := by decide +kernel
theorem dL_told_594 : decode cL_told 594 = .ok (.iconst 1, 1) := by decide +kernel
theorem dL_told_595 : decode cL_told 595 = .ok (.if_icmp .lt 34, 3) := by decide +kernel
theorem dL_told_598 : decode cL_told 598 = .ok (.iload 8, 2) := by decide +kernel
theorem dL_told_600 : decode cL_told 600 = .ok (.iconst 5, 1) := by decide +kernel
theorem dL_told_601 : decode cL_told 601 = .ok (.if_icmp .gt 28, 3) := by decide +kernel
theorem dL_told_604 : decode cL_told 604 = .ok (.iload 9, 2) := by decide +kernel
theorem dL_told_606 : decode cL_told 606 = .ok (.iconst 1, 1) := by decide +kernel
theorem dL_told_607 : decode cL_told 607 = .ok (.if_icmp .lt 22, 3) := by decide +kernel
theorem dL_told_610 : decode cL_told 610 = .ok (.iload 9, 2) := by decide +kernel
theorem dL_told_612 : decode cL_told 612 = .ok (.iconst 5, 1) := by decide +kernel
theorem dL_told_613 : decode cL_told 613 = .ok (.if_icmp .gt 16, 3) := by decide +kernel
theorem dL_told_616 : decode cL_told 616 = .ok (.iload 10, 2) := by decide +kernel
theorem dL_told_618 : decode cL_told 618 = .ok (.iconst 5, 1) := by decide +kernel
theorem dL_told_619 : decode cL_told 619 = .ok (.if_icmp .lt 10, 3) := by decide +kernel
theorem dL_told_622 : decode cL_told 622 = .ok (.iload 10, 2) := by decide +kernel
theorem dL_told_624 : decode cL_told 624 = .ok (.bipush 100, 2) := by decide +kernel
theorem dL_told_626 : decode cL_told 626 = .ok (.if_icmp .le 7, 3) := by decide +kernel
theorem dL_told_629 : decode cL_told 629 = .ok (.iconst 1, 1) := by decide +kernel
theorem dL_told_630 : decode cL_told 630 = .ok (.goto 52, 3) := by decide +kernel
theorem dL_told_633 : decode cL_told 633 = .ok (.iconst 0, 1) := by decide +kernel
theorem dL_told_634 : decode cL_told 634 = .ok (.goto 48, 3) := by decide +kernel
theorem dL_told_637 : decode cL_told 637 = .ok (.iload 8, 2) := by decide +kernel
theorem dL_told_639 : decode cL_told 639 = .ok (.iconst 1, 1) := by decide +kernel
theorem dL_told_640 : decode cL_told 640 = .ok (.if_icmp .lt 37, 3) := by decide +kernel
theorem dL_told_643 : decode cL_told 643 = .ok (.iload 8, 2) := by decide +kernel
theorem dL_told_645 : decode cL_told 645 = .ok (.sipush 500, 3) := by decide +kernel
theorem dL_told_648 : decode cL_told 648 = .ok (.if_icmp .gt 29, 3) := by decide +kernel
theorem dL_told_651 : decode cL_told 651 = .ok (.iload 9, 2) := by decide +kernel
theorem dL_told_653 : decode cL_told 653 = .ok (.iconst 1, 1) := by decide +kernel
theorem dL_told_654 : decode cL_told 654 = .ok (.if_icmp .lt 23, 3) := by decide +kernel
theorem dL_told_657 : decode cL_told 657 = .ok (.iload 9, 2) := by decide +kernel
theorem dL_told_659 : decode cL_told 659 = .ok (.bipush 50, 2) := by decide +kernel
theorem dL_told_661 : decode cL_told 661 = .ok (.if_icmp .gt 16, 3) := by decide +kernel
theorem dL_told_664 : decode cL_told 664 = .ok (.iload 10, 2) := by decide +kernel
theorem dL_told_666 : decode cL_told 666 = .ok (.iconst 1, 1) := by decide +kernel
theorem dL_told_667 : decode cL_told 667 = .ok (.if_icmp .lt 10, 3) := by decide +kernel
theorem dL_told_670 : decode cL_told 670 = .ok (.iload 10, 2) := by decide +kernel
theorem dL_told_672 : decode cL_told 672 = .ok (.bipush 50, 2) := by decide +kernel
theorem dL_told_674 : decode cL_told 674 = .ok (.if_icmp .le 7, 3) := by decide +kernel
theorem dL_told_677 : decode cL_told 677 = .ok (.iconst 1, 1) := by decide +kernel
theorem dL_told_678 : decode cL_told 678 = .ok (.goto 4, 3) := by decide +kernel
theorem dL_told_681 : decode cL_told 681 = .ok (.iconst 0, 1) := by decide +kernel
theorem dL_told_682 : decode cL_told 682 = .ok (.istore 12, 2) := by decide +kernel
theorem dL_told_684 : decode cL_told 684 = .ok (.iload 12, 2) := by decide +kernel
theorem dL_told_686 : decode cL_told 686 = .ok (.ifCond .eq 8, 3) := by decide +kernel
theorem dL_told_689 : decode cL_told 689 = .ok (.bipush (-102), 2) := by decide +kernel
theorem dL_told_691 : decode cL_told 691 = .ok (.goto 16, 3) := by decide +kernel
theorem dL_told_694 : decode cL_told 694 = .ok (.aload_n 0, 1) := by decide +kernel
theorem dL_told_695 : decode cL_told 695 = .ok (.invokevirtual 69, 3) := by decide +kernel
theorem dL_told_698 : decode cL_told 698 = .ok (.ifCond .ne 7, 3) := by decide +kernel
theorem dL_told_701 : decode cL_told 701 = .ok (.iconst 0, 1) := by decide +kernel
theorem dL_told_702 : decode cL_told 702 = .ok (.goto 5, 3) := by decide +kernel
theorem dL_told_705 : decode cL_told 705 = .ok (.bipush (-103), 2) := by decide +kernel
theorem dL_told_707 : decode cL_told 707 = .ok (.istore 13, 2) := by decide +kernel
theorem dL_told_709 : decode cL_told 709 = .ok (.aload_n 0, 1) := by decide +kernel
theorem dL_told_710 : decode cL_told 710 = .ok (.iload 7, 2) := by decide +kernel
theorem dL_told_712 : decode cL_told 712 = .ok (.iload 8, 2) := by decide +kernel
theorem dL_told_714 : decode cL_told 714 = .ok (.iload 9, 2) := by decide +kernel
theorem dL_told_716 : decode cL_told 716 = .ok (.iload 10, 2) := by decide +kernel
theorem dL_told_718 : decode cL_told 718 = .ok (.iload 11, 2) := by decide +kernel
theorem dL_told_720 : decode cL_told 720 = .ok (.invokestatic 139, 3) := by decide +kernel
theorem dL_told_723 : decode cL_told 723 = .ok (.iload 13, 2) := by decide +kernel
theorem dL_told_725 : decode cL_told 725 = .ok (.if_icmp .ne 41, 3) := by decide +kernel
theorem dL_told_728 : decode cL_told 728 = .ok (.aload_n 1, 1) := by decide +kernel
theorem dL_told_729 : decode cL_told 729 = .ok (.iload 7, 2) := by decide +kernel
theorem dL_told_731 : decode cL_told 731 = .ok (.iload 8, 2) := by decide +kernel
theorem dL_told_733 : decode cL_told 733 = .ok (.iload 9, 2) := by decide +kernel
theorem dL_told_735 : decode cL_told 735 = .ok (.iload 10, 2) := by decide +kernel
theorem dL_told_737 : decode cL_told 737 = .ok (.iload 11, 2) := by decide +kernel
theorem dL_told_739 : decode cL_told 739 = .ok (.invokestatic 139, 3) := by decide +kernel
theorem dL_told_742 : decode cL_told 742 = .ok (.iload 13, 2) := by decide +kernel
theorem dL_told_744 : decode cL_told 744 = .ok (.if_icmp .ne 22, 3) := by decide +kernel
theorem dL_told_747 : decode cL_told 747 = .ok (.iload 13, 2) := by decide +kernel
theorem dL_told_749 : decode cL_told 749 = .ok (.ifCond .eq 13, 3) := by decide +kernel
theorem dL_told_752 : decode cL_told 752 = .ok (.aload_n 0, 1) := by decide +kernel
theorem dL_told_753 : decode cL_told 753 = .ok (.invokestatic 131, 3) := by decide +kernel
theorem dL_told_756 : decode cL_told 756 = .ok (.lload 4, 2) := by decide +kernel
theorem dL_told_758 : decode cL_told 758 = .ok (.lcmp, 1) := by decide +kernel
theorem dL_told_759 : decode cL_told 759 = .ok (.ifCond .ne 7, 3) := by decide +kernel
theorem dL_told_762 : decode cL_told 762 = .ok (.iconst 1, 1) := by decide +kernel
theorem dL_told_763 : decode cL_told 763 = .ok (.goto 4, 3) := by decide +kernel
theorem dL_told_766 : decode cL_told 766 = .ok (.iconst 0, 1) := by decide +kernel
theorem dL_told_767 : decode cL_told 767 = .ok (.ireturn, 1) := by decide +kernel
theorem dL_goes_0 : decode cL_goes 0 = .ok (.aload_n 0, 1) := by decide +kernel
theorem dL_goes_1 : decode cL_goes 1 = .ok (.invokestatic 131, 3) := by decide +kernel
theorem dL_goes_4 : decode cL_goes 4 = .ok (.lstore 4, 2) := by decide +kernel
theorem dL_goes_6 : decode cL_goes 6 = .ok (.iload_n 3, 1) := by decide +kernel
theorem dL_goes_7 : decode cL_goes 7 = .ok (.ifCond .eq 57, 3) := by decide +kernel
theorem dL_goes_10 : decode cL_goes 10 = .ok (.aload_n 0, 1) := by decide +kernel
theorem dL_goes_11 : decode cL_goes 11 = .ok (.iconst 1, 1) := by decide +kernel
theorem dL_goes_12 : decode cL_goes 12 = .ok (.iconst 0, 1) := by decide +kernel
theorem dL_goes_13 : decode cL_goes 13 = .ok (.iconst 0, 1) := by decide +kernel
theorem dL_goes_14 : decode cL_goes 14 = .ok (.invokestatic 127, 3) := by decide +kernel
theorem dL_goes_17 : decode cL_goes 17 = .ok (.bipush (-102), 2) := by decide +kernel
theorem dL_goes_19 : decode cL_goes 19 = .ok (.if_icmp .ne 43, 3) := by decide +kernel
theorem dL_goes_22 : decode cL_goes 22 = .ok (.aload_n 0, 1) := by decide +kernel
theorem dL_goes_23 : decode cL_goes 23 = .ok (.iconst 1, 1) := by decide +kernel
theorem dL_goes_24 : decode cL_goes 24 = .ok (.sipush 201, 3) := by decide +kernel
theorem dL_goes_27 : decode cL_goes 27 = .ok (.iconst 0, 1) := by decide +kernel
theorem dL_goes_28 : decode cL_goes 28 = .ok (.invokestatic 127, 3) := by decide +kernel
theorem dL_goes_31 : decode cL_goes 31 = .ok (.bipush (-102), 2) := by decide +kernel
theorem dL_goes_33 : decode cL_goes 33 = .ok (.if_icmp .ne 29, 3) := by decide +kernel
theorem dL_goes_36 : decode cL_goes 36 = .ok (.aload_n 0, 1) := by decide +kernel
theorem dL_goes_37 : decode cL_goes 37 = .ok (.iconst 1, 1) := by decide +kernel
theorem dL_goes_38 : decode cL_goes 38 = .ok (.iconst (-1), 1) := by decide +kernel
theorem dL_goes_39 : decode cL_goes 39 = .ok (.iconst 0, 1) := by decide +kernel
theorem dL_goes_40 : decode cL_goes 40 = .ok (.invokestatic 127, 3) := by decide +kernel
theorem dL_goes_43 : decode cL_goes 43 = .ok (.bipush (-102), 2) := by decide +kernel
theorem dL_goes_45 : decode cL_goes 45 = .ok (.if_icmp .ne 17, 3) := by decide +kernel
theorem dL_goes_48 : decode cL_goes 48 = .ok (.aload_n 0, 1) := by decide +kernel
theorem dL_goes_49 : decode cL_goes 49 = .ok (.invokestatic 131, 3) := by decide +kernel
theorem dL_goes_52 : decode cL_goes 52 = .ok (.lload 4, 2) := by decide +kernel
theorem dL_goes_54 : decode cL_goes 54 = .ok (.lcmp, 1) := by decide +kernel
theorem dL_goes_55 : decode cL_goes 55 = .ok (.ifCond .ne 7, 3) := by decide +kernel
theorem dL_goes_58 : decode cL_goes 58 = .ok (.iconst 1, 1) := by decide +kernel
theorem dL_goes_59 : decode cL_goes 59 = .ok (.goto 4, 3) := by decide +kernel
theorem dL_goes_62 : decode cL_goes 62 = .ok (.iconst 0, 1) := by decide +kernel
theorem dL_goes_63 : decode cL_goes 63 = .ok (.ireturn, 1) := by decide +kernel
theorem dL_goes_64 : decode cL_goes 64 = .ok (.aload_n 0, 1) := by decide +kernel
theorem dL_goes_65 : decode cL_goes 65 = .ok (.invokevirtual 69, 3) := by decide +kernel
theorem dL_goes_68 : decode cL_goes 68 = .ok (.istore 6, 2) := by decide +kernel
theorem dL_goes_70 : decode cL_goes 70 = .ok (.iload_n 2, 1) := by decide +kernel
theorem dL_goes_71 : decode cL_goes 71 = .ok (.iconst 4, 1) := by decide +kernel
theorem dL_goes_72 : decode cL_goes 72 = .ok (.invokestatic 135, 3) := by decide +kernel
theorem dL_goes_75 : decode cL_goes 75 = .ok (.ifCond .le 27, 3) := by decide +kernel
theorem dL_goes_78 : decode cL_goes 78 = .ok (.bipush 39, 2) := by decide +kernel
theorem dL_goes_80 : decode cL_goes 80 = .ok (.iload 6, 2) := by decide +kernel
theorem dL_goes_82 : decode cL_goes 82 = .ok (.iconst 1, 1) := by decide +kernel
theorem dL_goes_83 : decode cL_goes 83 = .ok (.if_icmp .le 14, 3) := by decide +kernel
theorem dL_goes_86 : decode cL_goes 86 = .ok (.iload 6, 2) := by decide +kernel
theorem dL_goes_88 : decode cL_goes 88 = .ok (.iconst 5, 1) := by decide +kernel
theorem dL_goes_89 : decode cL_goes 89 = .ok (.if_icmp .ge 8, 3) := by decide +kernel
theorem dL_goes_92 : decode cL_goes 92 = .ok (.bipush 24, 2) := by decide +kernel
theorem dL_goes_94 : decode cL_goes 94 = .ok (.goto 4, 3) := by decide +kernel
theorem dL_goes_97 : decode cL_goes 97 = .ok (.iconst 0, 1) := by decide +kernel
theorem dL_goes_98 : decode cL_goes 98 = .ok (.ior, 1) := by decide +kernel
theorem dL_goes_99 : decode cL_goes 99 = .ok (.goto 11, 3) := by decide +kernel
theorem dL_goes_102 : decode cL_goes 102 = .ok (.iload_n 2, 1) := by decide +kernel
theorem dL_goes_103 : decode cL_goes 103 = .ok (.iconst 3, 1) := by decide +kernel
theorem dL_goes_104 : decode cL_goes 104 = .ok (.ishr, 1) := by decide +kernel
theorem dL_goes_105 : decode cL_goes 105 = .ok (.bipush 64, 2) := by decide +kernel
theorem dL_goes_107 : decode cL_goes 107 = .ok (.invokestatic 135, 3) := by decide +kernel
theorem dL_goes_110 : decode cL_goes 110 = .ok (.istore 7, 2) := by decide +kernel
theorem dL_goes_112 : decode cL_goes 112 = .ok (.iconst 1, 1) := by decide +kernel
theorem dL_goes_113 : decode cL_goes 113 = .ok (.istore 8, 2) := by decide +kernel
theorem dL_goes_115 : decode cL_goes 115 = .ok (.iconst 0, 1) := by decide +kernel
theorem dL_goes_116 : decode cL_goes 116 = .ok (.istore 9, 2) := by decide +kernel
theorem dL_goes_118 : decode cL_goes 118 = .ok (.iload 9, 2) := by decide +kernel
theorem dL_goes_120 : decode cL_goes 120 = .ok (.bipush 6, 2) := by decide +kernel
theorem dL_goes_122 : decode cL_goes 122 = .ok (.if_icmp .ge 68, 3) := by decide +kernel
theorem dL_goes_125 : decode cL_goes 125 = .ok (.iload 8, 2) := by decide +kernel
theorem dL_goes_127 : decode cL_goes 127 = .ok (.ifCond .eq 63, 3) := by decide +kernel
theorem dL_goes_130 : decode cL_goes 130 = .ok (.aload_n 0, 1) := by decide +kernel
theorem dL_goes_131 : decode cL_goes 131 = .ok (.iload 9, 2) := by decide +kernel
theorem dL_goes_133 : decode cL_goes 133 = .ok (.iload 7, 2) := by decide +kernel
theorem dL_goes_135 : decode cL_goes 135 = .ok (.iload 9, 2) := by decide +kernel
theorem dL_goes_137 : decode cL_goes 137 = .ok (.ishr, 1) := by decide +kernel
theorem dL_goes_138 : decode cL_goes 138 = .ok (.iconst 1, 1) := by decide +kernel
theorem dL_goes_139 : decode cL_goes 139 = .ok (.iand, 1) := by decide +kernel
theorem dL_goes_140 : decode cL_goes 140 = .ok (.iconst 1, 1) := by decide +kernel
theorem dL_goes_141 : decode cL_goes 141 = .ok (.if_icmp .ne 7, 3) := by decide +kernel
theorem dL_goes_144 : decode cL_goes 144 = .ok (.iconst 1, 1) := by decide +kernel
theorem dL_goes_145 : decode cL_goes 145 = .ok (.goto 4, 3) := by decide +kernel
theorem dL_goes_148 : decode cL_goes 148 = .ok (.iconst 0, 1) := by decide +kernel
theorem dL_goes_149 : decode cL_goes 149 = .ok (.invokevirtual 37, 3) := by decide +kernel
theorem dL_goes_152 : decode cL_goes 152 = .ok (.aload_n 1, 1) := by decide +kernel
theorem dL_goes_153 : decode cL_goes 153 = .ok (.iload 9, 2) := by decide +kernel
theorem dL_goes_155 : decode cL_goes 155 = .ok (.iload 7, 2) := by decide +kernel
theorem dL_goes_157 : decode cL_goes 157 = .ok (.iload 9, 2) := by decide +kernel
theorem dL_goes_159 : decode cL_goes 159 = .ok (.ishr, 1) := by decide +kernel
theorem dL_goes_160 : decode cL_goes 160 = .ok (.iconst 1, 1) := by decide +kernel
theorem dL_goes_161 : decode cL_goes 161 = .ok (.iand, 1) := by decide +kernel
theorem dL_goes_162 : decode cL_goes 162 = .ok (.iconst 1, 1) := by decide +kernel
theorem dL_goes_163 : decode cL_goes 163 = .ok (.if_icmp .ne 7, 3) := by decide +kernel
theorem dL_goes_166 : decode cL_goes 166 = .ok (.iconst 1, 1) := by decide +kernel
theorem dL_goes_167 : decode cL_goes 167 = .ok (.goto 4, 3) := by decide +kernel
theorem dL_goes_170 : decode cL_goes 170 = .ok (.iconst 0, 1) := by decide +kernel
theorem dL_goes_171 : decode cL_goes 171 = .ok (.invokevirtual 37, 3) := by decide +kernel
theorem dL_goes_174 : decode cL_goes 174 = .ok (.if_icmp .ne 7, 3) := by decide +kernel
theorem dL_goes_177 : decode cL_goes 177 = .ok (.iconst 1, 1) := by decide +kernel
theorem dL_goes_178 : decode cL_goes 178 = .ok (.goto 4, 3) := by decide +kernel
theorem dL_goes_181 : decode cL_goes 181 = .ok (.iconst 0, 1) := by decide +kernel
theorem dL_goes_182 : decode cL_goes 182 = .ok (.istore 8, 2) := by decide +kernel
theorem dL_goes_184 : decode cL_goes 184 = .ok (.iinc 9 1, 3) := by decide +kernel
theorem dL_goes_187 : decode cL_goes 187 = .ok (.goto (-69), 3) := by decide +kernel
theorem dL_goes_190 : decode cL_goes 190 = .ok (.iconst 1, 1) := by decide +kernel
theorem dL_goes_191 : decode cL_goes 191 = .ok (.iload_n 2, 1) := by decide +kernel
theorem dL_goes_192 : decode cL_goes 192 = .ok (.bipush 9, 2) := by decide +kernel
theorem dL_goes_194 : decode cL_goes 194 = .ok (.ishr, 1) := by decide +kernel
theorem dL_goes_195 : decode cL_goes 195 = .ok (.iload_n 2, 1) := by decide +kernel
theorem dL_goes_196 : decode cL_goes 196 = .ok (.bipush 7, 2) := by decide +kernel
theorem dL_goes_198 : decode cL_goes 198 = .ok (.ishr, 1) := by decide +kernel
theorem dL_goes_199 : decode cL_goes 199 = .ok (.iconst 4, 1) := by decide +kernel
theorem dL_goes_200 : decode cL_goes 200 = .ok (.invokestatic 135, 3) := by decide +kernel
theorem dL_goes_203 : decode cL_goes 203 = .ok (.ifCond .ne 8, 3) := by decide +kernel
theorem dL_goes_206 : decode cL_goes 206 = .ok (.bipush 40, 2) := by decide +kernel
theorem dL_goes_208 : decode cL_goes 208 = .ok (.goto 5, 3) := by decide +kernel
theorem dL_goes_211 : decode cL_goes 211 = .ok (.bipush 6, 2) := by decide +kernel
theorem dL_goes_213 : decode cL_goes 213 = .ok (.invokestatic 135, 3) := by decide +kernel
theorem dL_goes_216 : decode cL_goes 216 = .ok (.iadd, 1) := by decide +kernel
theorem dL_goes_217 : decode cL_goes 217 = .ok (.istore 9, 2) := by decide +kernel
theorem dL_goes_219 : decode cL_goes 219 = .ok (.aload_n 0, 1) := by decide +kernel
theorem dL_goes_220 : decode cL_goes 220 = .ok (.invokevirtual 64, 3) := by decide +kernel
theorem dL_goes_223 : decode cL_goes 223 = .ok (.istore 10, 2) := by decide +kernel
theorem dL_goes_225 : decode cL_goes 225 = .ok (.iconst 0, 1) := by decide +kernel
theorem dL_goes_226 : decode cL_goes 226 = .ok (.istore 11, 2) := by decide +kernel
theorem dL_goes_228 : decode cL_goes 228 = .ok (.iconst 0, 1) := by decide +kernel
theorem dL_goes_229 : decode cL_goes 229 = .ok (.istore 12, 2) := by decide +kernel
theorem dL_goes_231 : decode cL_goes 231 = .ok (.iload 12, 2) := by decide +kernel
theorem dL_goes_233 : decode cL_goes 233 = .ok (.iload 9, 2) := by decide +kernel
theorem dL_goes_235 : decode cL_goes 235 = .ok (.if_icmp .ge 74, 3) := by decide +kernel
theorem dL_goes_238 : decode cL_goes 238 = .ok (.iload 8, 2) := by decide +kernel
theorem dL_goes_240 : decode cL_goes 240 = .ok (.ifCond .eq 69, 3) := by decide +kernel
theorem dL_goes_243 : decode cL_goes 243 = .ok (.aload_n 0, 1) := by decide +kernel
theorem dL_goes_244 : decode cL_goes 244 = .ok (.invokevirtual 69, 3) := by decide +kernel
theorem dL_goes_247 : decode cL_goes 247 = .ok (.istore 13, 2) := by decide +kernel
theorem dL_goes_249 : decode cL_goes 249 = .ok (.aload_n 0, 1) := by decide +kernel
theorem dL_goes_250 : decode cL_goes 250 = .ok (.iconst 1, 1) := by decide +kernel
theorem dL_goes_251 : decode cL_goes 251 = .ok (.invokevirtual 14, 3) := by decide +kernel
theorem dL_goes_254 : decode cL_goes 254 = .ok (.istore 14, 2) := by decide +kernel
theorem dL_goes_256 : decode cL_goes 256 = .ok (.iload 11, 2) := by decide +kernel
theorem dL_goes_258 : decode cL_goes 258 = .ok (.iload 14, 2) := by decide +kernel
theorem dL_goes_260 : decode cL_goes 260 = .ok (.iadd, 1) := by decide +kernel
theorem dL_goes_261 : decode cL_goes 261 = .ok (.istore 11, 2) := by decide +kernel
theorem dL_goes_263 : decode cL_goes 263 = .ok (.iload 14, 2) := by decide +kernel
theorem dL_goes_265 : decode cL_goes 265 = .ok (.aload_n 0, 1) := by decide +kernel
theorem dL_goes_266 : decode cL_goes 266 = .ok (.invokevirtual 69, 3) := by decide +kernel
theorem dL_goes_269 : decode cL_goes 269 = .ok (.iload 13, 2) := by decide +kernel
theorem dL_goes_271 : decode cL_goes 271 = .ok (.if_icmp .ne 7, 3) := by decide +kernel
theorem dL_goes_274 : decode cL_goes 274 = .ok (.iconst 0, 1) := by decide +kernel
theorem dL_goes_275 : decode cL_goes 275 = .ok (.goto 4, 3) := by decide +kernel
theorem dL_goes_278 : decode cL_goes 278 = .ok (.iconst 1, 1) := by decide +kernel
theorem dL_goes_279 : decode cL_goes 279 = .ok (.if_icmp .ne 21, 3) := by decide +kernel
theorem dL_goes_282 : decode cL_goes 282 = .ok (.aload_n 0, 1) := by decide +kernel
theorem dL_goes_283 : decode cL_goes 283 = .ok (.invokevirtual 64, 3) := by decide +kernel
theorem dL_goes_286 : decode cL_goes 286 = .ok (.iload 10, 2) := by decide +kernel
theorem dL_goes_288 : decode cL_goes 288 = .ok (.iload 12, 2) := by decide +kernel
theorem dL_goes_290 : decode cL_goes 290 = .ok (.iadd, 1) := by decide +kernel
theorem dL_goes_291 : decode cL_goes 291 = .ok (.iconst 1, 1) := by decide +kernel
theorem dL_goes_292 : decode cL_goes 292 = .ok (.iadd, 1) := by decide +kernel
theorem dL_goes_293 : decode cL_goes 293 = .ok (.if_icmp .ne 7, 3) := by decide +kernel
theorem dL_goes_296 : decode cL_goes 296 = .ok (.iconst 1, 1) := by decide +kernel
theorem dL_goes_297 : decode cL_goes 297 = .ok (.goto 4, 3) := by decide +kernel
theorem dL_goes_300 : decode cL_goes 300 = .ok (.iconst 0, 1) := by decide +kernel
theorem dL_goes_301 : decode cL_goes 301 = .ok (.istore 8, 2) := by decide +kernel
theorem dL_goes_303 : decode cL_goes 303 = .ok (.iinc 12 1, 3) := by decide +kernel
theorem dL_goes_306 : decode cL_goes 306 = .ok (.goto (-75), 3) := by decide +kernel
theorem dL_goes_309 : decode cL_goes 309 = .ok (.iload 8, 2) := by decide +kernel
theorem dL_goes_311 : decode cL_goes 311 = .ok (.ifCond .eq 30, 3) := by decide +kernel
theorem dL_goes_314 : decode cL_goes 314 = .ok (.aload_n 1, 1) := by decide +kernel
theorem dL_goes_315 : decode cL_goes 315 = .ok (.iload 9, 2) := by decide +kernel
theorem dL_goes_317 : decode cL_goes 317 = .ok (.invokevirtual 14, 3) := by decide +kernel
theorem dL_goes_320 : decode cL_goes 320 = .ok (.iload 11, 2) := by decide +kernel
theorem dL_goes_322 : decode cL_goes 322 = .ok (.if_icmp .ne 19, 3) := by decide +kernel
theorem dL_goes_325 : decode cL_goes 325 = .ok (.aload_n 0, 1) := by decide +kernel
theorem dL_goes_326 : decode cL_goes 326 = .ok (.invokestatic 131, 3) := by decide +kernel
theorem dL_goes_329 : decode cL_goes 329 = .ok (.aload_n 1, 1) := by decide +kernel
theorem dL_goes_330 : decode cL_goes 330 = .ok (.invokestatic 131, 3) := by decide +kernel
theorem dL_goes_333 : decode cL_goes 333 = .ok (.lcmp, 1) := by decide +kernel
theorem dL_goes_334 : decode cL_goes 334 = .ok (.ifCond .ne 7, 3) := by decide +kernel
theorem dL_goes_337 : decode cL_goes 337 = .ok (.iconst 1, 1) := by decide +kernel
theorem dL_goes_338 : decode cL_goes 338 = .ok (.goto 4, 3) := by decide +kernel
theorem dL_goes_341 : decode cL_goes 341 = .ok (.iconst 0, 1) := by decide +kernel
theorem dL_goes_342 : decode cL_goes 342 = .ok (.ireturn, 1) := by decide +kernel
theorem dL_back_0 : decode cL_back 0 = .ok (.aload_n 0, 1) := by decide +kernel
theorem dL_back_1 : decode cL_back 1 = .ok (.invokestatic 131, 3) := by decide +kernel
theorem dL_back_4 : decode cL_back 4 = .ok (.lstore_n 2, 1) := by decide +kernel
theorem dL_back_5 : decode cL_back 5 = .ok (.aload_n 0, 1) := by decide +kernel
theorem dL_back_6 : decode cL_back 6 = .ok (.invokevirtual 69, 3) := by decide +kernel
theorem dL_back_9 : decode cL_back 9 = .ok (.istore 4, 2) := by decide +kernel
theorem dL_back_11 : decode cL_back 11 = .ok (.aload_n 0, 1) := by decide +kernel
theorem dL_back_12 : decode cL_back 12 = .ok (.invokevirtual 84, 3) := by decide +kernel
theorem dL_back_15 : decode cL_back 15 = .ok (.istore 5, 2) := by decide +kernel
theorem dL_back_17 : decode cL_back 17 = .ok (.aload_n 0, 1) := by decide +kernel
theorem dL_back_18 : decode cL_back 18 = .ok (.invokevirtual 109, 3) := by decide +kernel
theorem dL_back_21 : decode cL_back 21 = .ok (.istore 6, 2) := by decide +kernel
theorem dL_back_23 : decode cL_back 23 = .ok (.iload 4, 2) := by decide +kernel
theorem dL_back_25 : decode cL_back 25 = .ok (.bipush 6, 2) := by decide +kernel
theorem dL_back_27 : decode cL_back 27 = .ok (.if_icmp .ne 31, 3) := by decide +kernel
theorem dL_back_30 : decode cL_back 30 = .ok (.aload_n 0, 1) := by decide +kernel
theorem dL_back_31 : decode cL_back 31 = .ok (.iconst 1, 1) := by decide +kernel
theorem dL_back_32 : decode cL_back 32 = .ok (.invokevirtual 103, 3) := by decide +kernel
theorem dL_back_35 : decode cL_back 35 = .ok (.ifCond .ne 23, 3) := by decide +kernel
theorem dL_back_38 : decode cL_back 38 = .ok (.aload_n 0, 1) := by decide +kernel
theorem dL_back_39 : decode cL_back 39 = .ok (.iconst 0, 1) := by decide +kernel
theorem dL_back_40 : decode cL_back 40 = .ok (.invokevirtual 103, 3) := by decide +kernel
theorem dL_back_43 : decode cL_back 43 = .ok (.ifCond .ne 15, 3) := by decide +kernel
theorem dL_back_46 : decode cL_back 46 = .ok (.aload_n 0, 1) := by decide +kernel
theorem dL_back_47 : decode cL_back 47 = .ok (.invokevirtual 79, 3) := by decide +kernel
theorem dL_back_50 : decode cL_back 50 = .ok (.iconst 4, 1) := by decide +kernel
theorem dL_back_51 : decode cL_back 51 = .ok (.if_icmp .le 7, 3) := by decide +kernel
theorem dL_back_54 : decode cL_back 54 = .ok (.iconst 1, 1) := by decide +kernel
theorem dL_back_55 : decode cL_back 55 = .ok (.goto 4, 3) := by decide +kernel
theorem dL_back_58 : decode cL_back 58 = .ok (.iconst 0, 1) := by decide +kernel
theorem dL_back_59 : decode cL_back 59 = .ok (.istore 7, 2) := by decide +kernel
theorem dL_back_61 : decode cL_back 61 = .ok (.aload_n 0, 1) := by decide +kernel
theorem dL_back_62 : decode cL_back 62 = .ok (.iconst 2, 1) := by decide +kernel
theorem dL_back_63 : decode cL_back 63 = .ok (.iconst 0, 1) := by decide +kernel
theorem dL_back_64 : decode cL_back 64 = .ok (.iconst 0, 1) := by decide +kernel
theorem dL_back_65 : decode cL_back 65 = .ok (.invokestatic 127, 3) := by decide +kernel
theorem dL_back_68 : decode cL_back 68 = .ok (.istore 8, 2) := by decide +kernel
theorem dL_back_70 : decode cL_back 70 = .ok (.iload 8, 2) := by decide +kernel
theorem dL_back_72 : decode cL_back 72 = .ok (.aload_n 1, 1) := by decide +kernel
theorem dL_back_73 : decode cL_back 73 = .ok (.iconst 2, 1) := by decide +kernel
theorem dL_back_74 : decode cL_back 74 = .ok (.iconst 0, 1) := by decide +kernel
theorem dL_back_75 : decode cL_back 75 = .ok (.iconst 0, 1) := by decide +kernel
theorem dL_back_76 : decode cL_back 76 = .ok (.invokestatic 127, 3) := by decide +kernel
theorem dL_back_79 : decode cL_back 79 = .ok (.if_icmp .ne 19, 3) := by decide +kernel
theorem dL_back_82 : decode cL_back 82 = .ok (.aload_n 0, 1) := by decide +kernel
theorem dL_back_83 : decode cL_back 83 = .ok (.invokestatic 131, 3) := by decide +kernel
theorem dL_back_86 : decode cL_back 86 = .ok (.aload_n 1, 1) := by decide +kernel
theorem dL_back_87 : decode cL_back 87 = .ok (.invokestatic 131, 3) := by decide +kernel
theorem dL_back_90 : decode cL_back 90 = .ok (.lcmp, 1) := by decide +kernel
theorem dL_back_91 : decode cL_back 91 = .ok (.ifCond .ne 7, 3) := by decide +kernel
theorem dL_back_94 : decode cL_back 94 = .ok (.iconst 1, 1) := by decide +kernel
theorem dL_back_95 : decode cL_back 95 = .ok (.goto 4, 3) := by decide +kernel
theorem dL_back_98 : decode cL_back 98 = .ok (.iconst 0, 1) := by decide +kernel
theorem dL_back_99 : decode cL_back 99 = .ok (.istore 9, 2) := by decide +kernel
theorem dL_back_101 : decode cL_back 101 = .ok (.iload 8, 2) := by decide +kernel
theorem dL_back_103 : decode cL_back 103 = .ok (.bipush (-103), 2) := by decide +kernel
theorem dL_back_105 : decode cL_back 105 = .ok (.if_icmp .ne 23, 3) := by decide +kernel
theorem dL_back_108 : decode cL_back 108 = .ok (.iload 9, 2) := by decide +kernel
theorem dL_back_110 : decode cL_back 110 = .ok (.ifCond .eq 16, 3) := by decide +kernel
theorem dL_back_113 : decode cL_back 113 = .ok (.aload_n 0, 1) := by decide +kernel
theorem dL_back_114 : decode cL_back 114 = .ok (.invokestatic 131, 3) := by decide +kernel
theorem dL_back_117 : decode cL_back 117 = .ok (.lload_n 2, 1) := by decide +kernel
theorem dL_back_118 : decode cL_back 118 = .ok (.lcmp, 1) := by decide +kernel
theorem dL_back_119 : decode cL_back 119 = .ok (.ifCond .ne 7, 3) := by decide +kernel
theorem dL_back_122 : decode cL_back 122 = .ok (.iconst 1, 1) := by decide +kernel
theorem dL_back_123 : decode cL_back 123 = .ok (.goto 4, 3) := by decide +kernel
theorem dL_back_126 : decode cL_back 126 = .ok (.iconst 0, 1) := by decide +kernel
theorem dL_back_127 : decode cL_back 127 = .ok (.ireturn, 1) := by decide +kernel
theorem dL_back_128 : decode cL_back 128 = .ok (.iload 9, 2) := by decide +kernel
theorem dL_back_130 : decode cL_back 130 = .ok (.ifCond .eq 76, 3) := by decide +kernel
theorem dL_back_133 : decode cL_back 133 = .ok (.iload 7, 2) := by decide +kernel
theorem dL_back_135 : decode cL_back 135 = .ok (.ifCond .eq 71, 3) := by decide +kernel
theorem dL_back_138 : decode cL_back 138 = .ok (.iload 8, 2) := by decide +kernel
theorem dL_back_140 : decode cL_back 140 = .ok (.ifCond .le 66, 3) := by decide +kernel
theorem dL_back_143 : decode cL_back 143 = .ok (.iload 8, 2) := by decide +kernel
theorem dL_back_145 : decode cL_back 145 = .ok (.iconst 4, 1) := by decide +kernel
theorem dL_back_146 : decode cL_back 146 = .ok (.if_icmp .ge 60, 3) := by decide +kernel
theorem dL_back_149 : decode cL_back 149 = .ok (.aload_n 0, 1) := by decide +kernel
theorem dL_back_150 : decode cL_back 150 = .ok (.invokevirtual 69, 3) := by decide +kernel
theorem dL_back_153 : decode cL_back 153 = .ok (.ifCond .ne 53, 3) := by decide +kernel
theorem dL_back_156 : decode cL_back 156 = .ok (.aload_n 0, 1) := by decide +kernel
theorem dL_back_157 : decode cL_back 157 = .ok (.invokevirtual 79, 3) := by decide +kernel
theorem dL_back_160 : decode cL_back 160 = .ok (.ifCond .ne 46, 3) := by decide +kernel
theorem dL_back_163 : decode cL_back 163 = .ok (.aload_n 0, 1) := by decide +kernel
theorem dL_back_164 : decode cL_back 164 = .ok (.invokevirtual 84, 3) := by decide +kernel
theorem dL_back_167 : decode cL_back 167 = .ok (.iload 5, 2) := by decide +kernel
theorem dL_back_169 : decode cL_back 169 = .ok (.if_icmp .ne 37, 3) := by decide +kernel
theorem dL_back_172 : decode cL_back 172 = .ok (.aload_n 0, 1) := by decide +kernel
theorem dL_back_173 : decode cL_back 173 = .ok (.invokevirtual 87, 3) := by decide +kernel
theorem dL_back_176 : decode cL_back 176 = .ok (.ifCond .ne 30, 3) := by decide +kernel
theorem dL_back_179 : decode cL_back 179 = .ok (.aload_n 0, 1) := by decide +kernel
theorem dL_back_180 : decode cL_back 180 = .ok (.invokevirtual 109, 3) := by decide +kernel
theorem dL_back_183 : decode cL_back 183 = .ok (.iload 6, 2) := by decide +kernel
theorem dL_back_185 : decode cL_back 185 = .ok (.iconst 1, 1) := by decide +kernel
theorem dL_back_186 : decode cL_back 186 = .ok (.iadd, 1) := by decide +kernel
theorem dL_back_187 : decode cL_back 187 = .ok (.if_icmp .ne 19, 3) := by decide +kernel
theorem dL_back_190 : decode cL_back 190 = .ok (.aload_n 0, 1) := by decide +kernel
theorem dL_back_191 : decode cL_back 191 = .ok (.iconst 0, 1) := by decide +kernel
theorem dL_back_192 : decode cL_back 192 = .ok (.invokevirtual 21, 3) := by decide +kernel
theorem dL_back_195 : decode cL_back 195 = .ok (.aload_n 0, 1) := by decide +kernel
theorem dL_back_196 : decode cL_back 196 = .ok (.invokevirtual 64, 3) := by decide +kernel
theorem dL_back_199 : decode cL_back 199 = .ok (.if_icmp .ne 7, 3) := by decide +kernel
theorem dL_back_202 : decode cL_back 202 = .ok (.iconst 1, 1) := by decide +kernel
theorem dL_back_203 : decode cL_back 203 = .ok (.goto 4, 3) := by decide +kernel
theorem dL_back_206 : decode cL_back 206 = .ok (.iconst 0, 1) := by decide +kernel
theorem dL_back_207 : decode cL_back 207 = .ok (.ireturn, 1) := by decide +kernel
theorem dL_ahead_0 : decode cL_ahead 0 = .ok (.aload_n 0, 1) := by decide +kernel
theorem dL_ahead_1 : decode cL_ahead 1 = .ok (.invokestatic 131, 3) := by decide +kernel
theorem dL_ahead_4 : decode cL_ahead 4 = .ok (.lstore_n 1, 1) := by decide +kernel
theorem dL_ahead_5 : decode cL_ahead 5 = .ok (.iconst 0, 1) := by decide +kernel
theorem dL_ahead_6 : decode cL_ahead 6 = .ok (.istore_n 3, 1) := by decide +kernel
theorem dL_ahead_7 : decode cL_ahead 7 = .ok (.iconst 0, 1) := by decide +kernel
theorem dL_ahead_8 : decode cL_ahead 8 = .ok (.istore 4, 2) := by decide +kernel
theorem dL_ahead_10 : decode cL_ahead 10 = .ok (.iconst 0, 1) := by decide +kernel
theorem dL_ahead_11 : decode cL_ahead 11 = .ok (.istore 5, 2) := by decide +kernel
theorem dL_ahead_13 : decode cL_ahead 13 = .ok (.iload 5, 2) := by decide +kernel
theorem dL_ahead_15 : decode cL_ahead 15 = .ok (.bipush 7, 2) := by decide +kernel
theorem dL_ahead_17 : decode cL_ahead 17 = .ok (.if_icmp .ge 53, 3) := by decide +kernel
theorem dL_ahead_20 : decode cL_ahead 20 = .ok (.iload_n 3, 1) := by decide +kernel
theorem dL_ahead_21 : decode cL_ahead 21 = .ok (.aload_n 0, 1) := by decide +kernel
theorem dL_ahead_22 : decode cL_ahead 22 = .ok (.iload 5, 2) := by decide +kernel
theorem dL_ahead_24 : decode cL_ahead 24 = .ok (.iconst 1, 1) := by decide +kernel
theorem dL_ahead_25 : decode cL_ahead 25 = .ok (.invokevirtual 30, 3) := by decide +kernel
theorem dL_ahead_28 : decode cL_ahead 28 = .ok (.ifCond .eq 10, 3) := by decide +kernel
theorem dL_ahead_31 : decode cL_ahead 31 = .ok (.iconst 1, 1) := by decide +kernel
theorem dL_ahead_32 : decode cL_ahead 32 = .ok (.iload 5, 2) := by decide +kernel
theorem dL_ahead_34 : decode cL_ahead 34 = .ok (.ishl, 1) := by decide +kernel
theorem dL_ahead_35 : decode cL_ahead 35 = .ok (.goto 4, 3) := by decide +kernel
theorem dL_ahead_38 : decode cL_ahead 38 = .ok (.iconst 0, 1) := by decide +kernel
theorem dL_ahead_39 : decode cL_ahead 39 = .ok (.ior, 1) := by decide +kernel
theorem dL_ahead_40 : decode cL_ahead 40 = .ok (.istore_n 3, 1) := by decide +kernel
theorem dL_ahead_41 : decode cL_ahead 41 = .ok (.iload 4, 2) := by decide +kernel
theorem dL_ahead_43 : decode cL_ahead 43 = .ok (.aload_n 0, 1) := by decide +kernel
theorem dL_ahead_44 : decode cL_ahead 44 = .ok (.iload 5, 2) := by decide +kernel
theorem dL_ahead_46 : decode cL_ahead 46 = .ok (.iconst 2, 1) := by decide +kernel
theorem dL_ahead_47 : decode cL_ahead 47 = .ok (.invokevirtual 30, 3) := by decide +kernel
theorem dL_ahead_50 : decode cL_ahead 50 = .ok (.ifCond .eq 10, 3) := by decide +kernel
theorem dL_ahead_53 : decode cL_ahead 53 = .ok (.iconst 1, 1) := by decide +kernel
theorem dL_ahead_54 : decode cL_ahead 54 = .ok (.iload 5, 2) := by decide +kernel
theorem dL_ahead_56 : decode cL_ahead 56 = .ok (.ishl, 1) := by decide +kernel
theorem dL_ahead_57 : decode cL_ahead 57 = .ok (.goto 4, 3) := by decide +kernel
theorem dL_ahead_60 : decode cL_ahead 60 = .ok (.iconst 0, 1) := by decide +kernel
theorem dL_ahead_61 : decode cL_ahead 61 = .ok (.ior, 1) := by decide +kernel
theorem dL_ahead_62 : decode cL_ahead 62 = .ok (.istore 4, 2) := by decide +kernel
theorem dL_ahead_64 : decode cL_ahead 64 = .ok (.iinc 5 1, 3) := by decide +kernel
theorem dL_ahead_67 : decode cL_ahead 67 = .ok (.goto (-54), 3) := by decide +kernel
theorem dL_ahead_70 : decode cL_ahead 70 = .ok (.aload_n 0, 1) := by decide +kernel
theorem dL_ahead_71 : decode cL_ahead 71 = .ok (.iconst 1, 1) := by decide +kernel
theorem dL_ahead_72 : decode cL_ahead 72 = .ok (.invokevirtual 34, 3) := by decide +kernel
theorem dL_ahead_75 : decode cL_ahead 75 = .ok (.istore 5, 2) := by decide +kernel
theorem dL_ahead_77 : decode cL_ahead 77 = .ok (.iload_n 3, 1) := by decide +kernel
theorem dL_ahead_78 : decode cL_ahead 78 = .ok (.ifCond .le 52, 3) := by decide +kernel
theorem dL_ahead_81 : decode cL_ahead 81 = .ok (.iload_n 3, 1) := by decide +kernel
theorem dL_ahead_82 : decode cL_ahead 82 = .ok (.iload 4, 2) := by decide +kernel
theorem dL_ahead_84 : decode cL_ahead 84 = .ok (.iand, 1) := by decide +kernel
theorem dL_ahead_85 : decode cL_ahead 85 = .ok (.iload_n 3, 1) := by decide +kernel
theorem dL_ahead_86 : decode cL_ahead 86 = .ok (.if_icmp .ne 44, 3) := by decide +kernel
theorem dL_ahead_89 : decode cL_ahead 89 = .ok (.iload 5, 2) := by decide +kernel
theorem dL_ahead_91 : decode cL_ahead 91 = .ok (.aload_n 0, 1) := by decide +kernel
theorem dL_ahead_92 : decode cL_ahead 92 = .ok (.iconst 2, 1) := by decide +kernel
theorem dL_ahead_93 : decode cL_ahead 93 = .ok (.invokevirtual 34, 3) := by decide +kernel
theorem dL_ahead_96 : decode cL_ahead 96 = .ok (.iand, 1) := by decide +kernel
theorem dL_ahead_97 : decode cL_ahead 97 = .ok (.iload 5, 2) := by decide +kernel
theorem dL_ahead_99 : decode cL_ahead 99 = .ok (.if_icmp .ne 31, 3) := by decide +kernel
theorem dL_ahead_102 : decode cL_ahead 102 = .ok (.iload 5, 2) := by decide +kernel
theorem dL_ahead_104 : decode cL_ahead 104 = .ok (.iconst 2, 1) := by decide +kernel
theorem dL_ahead_105 : decode cL_ahead 105 = .ok (.irem, 1) := by decide +kernel
theorem dL_ahead_106 : decode cL_ahead 106 = .ok (.ifCond .ne 24, 3) := by decide +kernel
theorem dL_ahead_109 : decode cL_ahead 109 = .ok (.iload 5, 2) := by decide +kernel
theorem dL_ahead_111 : decode cL_ahead 111 = .ok (.sipush 512, 3) := by decide +kernel
theorem dL_ahead_114 : decode cL_ahead 114 = .ok (.if_icmp .ge 16, 3) := by decide +kernel
theorem dL_ahead_117 : decode cL_ahead 117 = .ok (.aload_n 0, 1) := by decide +kernel
theorem dL_ahead_118 : decode cL_ahead 118 = .ok (.invokestatic 131, 3) := by decide +kernel
theorem dL_ahead_121 : decode cL_ahead 121 = .ok (.lload_n 1, 1) := by decide +kernel
theorem dL_ahead_122 : decode cL_ahead 122 = .ok (.lcmp, 1) := by decide +kernel
theorem dL_ahead_123 : decode cL_ahead 123 = .ok (.ifCond .ne 7, 3) := by decide +kernel
theorem dL_ahead_126 : decode cL_ahead 126 = .ok (.iconst 1, 1) := by decide +kernel
theorem dL_ahead_127 : decode cL_ahead 127 = .ok (.goto 4, 3) := by decide +kernel
theorem dL_ahead_130 : decode cL_ahead 130 = .ok (.iconst 0, 1) := by decide +kernel
theorem dL_ahead_131 : decode cL_ahead 131 = .ok (.istore 6, 2) := by decide +kernel
theorem dL_ahead_133 : decode cL_ahead 133 = .ok (.iload 6, 2) := by decide +kernel
theorem dL_ahead_135 : decode cL_ahead 135 = .ok (.ifCond .eq 60, 3) := by decide +kernel
theorem dL_ahead_138 : decode cL_ahead 138 = .ok (.aload_n 0, 1) := by decide +kernel
theorem dL_ahead_139 : decode cL_ahead 139 = .ok (.bipush 6, 2) := by decide +kernel
theorem dL_ahead_141 : decode cL_ahead 141 = .ok (.bipush 7, 2) := by decide +kernel
theorem dL_ahead_143 : decode cL_ahead 143 = .ok (.iconst 1, 1) := by decide +kernel
theorem dL_ahead_144 : decode cL_ahead 144 = .ok (.invokestatic 127, 3) := by decide +kernel
theorem dL_ahead_147 : decode cL_ahead 147 = .ok (.bipush (-102), 2) := by decide +kernel
theorem dL_ahead_149 : decode cL_ahead 149 = .ok (.if_icmp .ne 46, 3) := by decide +kernel
theorem dL_ahead_152 : decode cL_ahead 152 = .ok (.aload_n 0, 1) := by decide +kernel
theorem dL_ahead_153 : decode cL_ahead 153 = .ok (.bipush 6, 2) := by decide +kernel
theorem dL_ahead_155 : decode cL_ahead 155 = .ok (.iconst 0, 1) := by decide +kernel
theorem dL_ahead_156 : decode cL_ahead 156 = .ok (.iconst 0, 1) := by decide +kernel
theorem dL_ahead_157 : decode cL_ahead 157 = .ok (.invokestatic 127, 3) := by decide +kernel
theorem dL_ahead_160 : decode cL_ahead 160 = .ok (.bipush (-102), 2) := by decide +kernel
theorem dL_ahead_162 : decode cL_ahead 162 = .ok (.if_icmp .ne 33, 3) := by decide +kernel
theorem dL_ahead_165 : decode cL_ahead 165 = .ok (.aload_n 0, 1) := by decide +kernel
theorem dL_ahead_166 : decode cL_ahead 166 = .ok (.bipush 7, 2) := by decide +kernel
theorem dL_ahead_168 : decode cL_ahead 168 = .ok (.iconst 4, 1) := by decide +kernel
theorem dL_ahead_169 : decode cL_ahead 169 = .ok (.iconst 0, 1) := by decide +kernel
theorem dL_ahead_170 : decode cL_ahead 170 = .ok (.invokestatic 127, 3) := by decide +kernel
theorem dL_ahead_173 : decode cL_ahead 173 = .ok (.bipush (-102), 2) := by decide +kernel
theorem dL_ahead_175 : decode cL_ahead 175 = .ok (.if_icmp .ne 20, 3) := by decide +kernel
theorem dL_ahead_178 : decode cL_ahead 178 = .ok (.aload_n 0, 1) := by decide +kernel
theorem dL_ahead_179 : decode cL_ahead 179 = .ok (.bipush 7, 2) := by decide +kernel
theorem dL_ahead_181 : decode cL_ahead 181 = .ok (.iconst 0, 1) := by decide +kernel
theorem dL_ahead_182 : decode cL_ahead 182 = .ok (.iconst 0, 1) := by decide +kernel
theorem dL_ahead_183 : decode cL_ahead 183 = .ok (.invokestatic 127, 3) := by decide +kernel
theorem dL_ahead_186 : decode cL_ahead 186 = .ok (.bipush (-102), 2) := by decide +kernel
theorem dL_ahead_188 : decode cL_ahead 188 = .ok (.if_icmp .ne 7, 3) := by decide +kernel
theorem dL_ahead_191 : decode cL_ahead 191 = .ok (.iconst 1, 1) := by decide +kernel
theorem dL_ahead_192 : decode cL_ahead 192 = .ok (.goto 4, 3) := by decide +kernel
theorem dL_ahead_195 : decode cL_ahead 195 = .ok (.iconst 0, 1) := by decide +kernel
theorem dL_ahead_196 : decode cL_ahead 196 = .ok (.ireturn, 1) := by decide +kernel
theorem dL_law_0 : decode cL_law 0 = .ok (.new 9, 3) := by decide +kernel
theorem dL_law_3 : decode cL_law 3 = .ok (.dup, 1) := by decide +kernel
theorem dL_law_4 : decode cL_law 4 = .ok (.invokespecial 142, 3) := by decide +kernel
theorem dL_law_7 : decode cL_law 7 = .ok (.astore_n 1, 1) := by decide +kernel
theorem dL_law_8 : decode cL_law 8 = .ok (.new 9, 3) := by decide +kernel
theorem dL_law_11 : decode cL_law 11 = .ok (.dup, 1) := by decide +kernel
theorem dL_law_12 : decode cL_law 12 = .ok (.invokespecial 142, 3) := by decide +kernel
theorem dL_law_15 : decode cL_law 15 = .ok (.astore_n 2, 1) := by decide +kernel
theorem dL_law_16 : decode cL_law 16 = .ok (.aload_n 1, 1) := by decide +kernel
theorem dL_law_17 : decode cL_law 17 = .ok (.invokestatic 131, 3) := by decide +kernel
theorem dL_law_20 : decode cL_law 20 = .ok (.aload_n 2, 1) := by decide +kernel
theorem dL_law_21 : decode cL_law 21 = .ok (.invokestatic 131, 3) := by decide +kernel
theorem dL_law_24 : decode cL_law 24 = .ok (.lcmp, 1) := by decide +kernel
theorem dL_law_25 : decode cL_law 25 = .ok (.ifCond .ne 44, 3) := by decide +kernel
theorem dL_law_28 : decode cL_law 28 = .ok (.aload_n 1, 1) := by decide +kernel
theorem dL_law_29 : decode cL_law 29 = .ok (.invokestatic 143, 3) := by decide +kernel
theorem dL_law_32 : decode cL_law 32 = .ok (.ifCond .eq 37, 3) := by decide +kernel
theorem dL_law_35 : decode cL_law 35 = .ok (.aload_n 1, 1) := by decide +kernel
theorem dL_law_36 : decode cL_law 36 = .ok (.iconst 2, 1) := by decide +kernel
theorem dL_law_37 : decode cL_law 37 = .ok (.bipush 40, 2) := by decide +kernel
theorem dL_law_39 : decode cL_law 39 = .ok (.bipush 40, 2) := by decide +kernel
theorem dL_law_41 : decode cL_law 41 = .ok (.bipush 10, 2) := by decide +kernel
theorem dL_law_43 : decode cL_law 43 = .ok (.iconst 0, 1) := by decide +kernel
theorem dL_law_44 : decode cL_law 44 = .ok (.invokestatic 139, 3) := by decide +kernel
theorem dL_law_47 : decode cL_law 47 = .ok (.ifCond .ne 22, 3) := by decide +kernel
theorem dL_law_50 : decode cL_law 50 = .ok (.aload_n 2, 1) := by decide +kernel
theorem dL_law_51 : decode cL_law 51 = .ok (.iconst 2, 1) := by decide +kernel
theorem dL_law_52 : decode cL_law 52 = .ok (.bipush 40, 2) := by decide +kernel
theorem dL_law_54 : decode cL_law 54 = .ok (.bipush 40, 2) := by decide +kernel
theorem dL_law_56 : decode cL_law 56 = .ok (.bipush 10, 2) := by decide +kernel
theorem dL_law_58 : decode cL_law 58 = .ok (.iconst 0, 1) := by decide +kernel
theorem dL_law_59 : decode cL_law 59 = .ok (.invokestatic 139, 3) := by decide +kernel
theorem dL_law_62 : decode cL_law 62 = .ok (.ifCond .ne 7, 3) := by decide +kernel
theorem dL_law_65 : decode cL_law 65 = .ok (.iconst 1, 1) := by decide +kernel
theorem dL_law_66 : decode cL_law 66 = .ok (.goto 4, 3) := by decide +kernel
theorem dL_law_69 : decode cL_law 69 = .ok (.iconst 0, 1) := by decide +kernel
theorem dL_law_70 : decode cL_law 70 = .ok (.istore_n 3, 1) := by decide +kernel
theorem dL_law_71 : decode cL_law 71 = .ok (.iconst 0, 1) := by decide +kernel
theorem dL_law_72 : decode cL_law 72 = .ok (.istore 4, 2) := by decide +kernel
theorem dL_law_74 : decode cL_law 74 = .ok (.iload 4, 2) := by decide +kernel
theorem dL_law_76 : decode cL_law 76 = .ok (.bipush 70, 2) := by decide +kernel
theorem dL_law_78 : decode cL_law 78 = .ok (.if_icmp .ge 168, 3) := by decide +kernel
theorem dL_law_81 : decode cL_law 81 = .ok (.iload_n 3, 1) := by decide +kernel
theorem dL_law_82 : decode cL_law 82 = .ok (.ifCond .eq 164, 3) := by decide +kernel
theorem dL_law_85 : decode cL_law 85 = .ok (.aload_n 0, 1) := by decide +kernel
theorem dL_law_86 : decode cL_law 86 = .ok (.iconst 2, 1) := by decide +kernel
theorem dL_law_87 : decode cL_law 87 = .ok (.iload 4, 2) := by decide +kernel
theorem dL_law_89 : decode cL_law 89 = .ok (.imul, 1) := by decide +kernel
theorem dL_law_90 : decode cL_law 90 = .ok (.invokestatic 147, 3) := by decide +kernel
theorem dL_law_93 : decode cL_law 93 = .ok (.istore 5, 2) := by decide +kernel
theorem dL_law_95 : decode cL_law 95 = .ok (.aload_n 0, 1) := by decide +kernel
theorem dL_law_96 : decode cL_law 96 = .ok (.iconst 2, 1) := by decide +kernel
theorem dL_law_97 : decode cL_law 97 = .ok (.iload 4, 2) := by decide +kernel
theorem dL_law_99 : decode cL_law 99 = .ok (.imul, 1) := by decide +kernel
theorem dL_law_100 : decode cL_law 100 = .ok (.iconst 1, 1) := by decide +kernel
theorem dL_law_101 : decode cL_law 101 = .ok (.iadd, 1) := by decide +kernel
theorem dL_law_102 : decode cL_law 102 = .ok (.invokestatic 147, 3) := by decide +kernel
theorem dL_law_105 : decode cL_law 105 = .ok (.istore 6, 2) := by decide +kernel
theorem dL_law_107 : decode cL_law 107 = .ok (.iload 5, 2) := by decide +kernel
theorem dL_law_109 : decode cL_law 109 = .ok (.bipush 9, 2) := by decide +kernel
theorem dL_law_111 : decode cL_law 111 = .ok (.ishr, 1) := by decide +kernel
theorem dL_law_112 : decode cL_law 112 = .ok (.bipush 10, 2) := by decide +kernel
theorem dL_law_114 : decode cL_law 114 = .ok (.invokestatic 135, 3) := by decide +kernel
theorem dL_law_117 : decode cL_law 117 = .ok (.ifCond .ne 7, 3) := by decide +kernel
theorem dL_law_120 : decode cL_law 120 = .ok (.iconst 1, 1) := by decide +kernel
theorem dL_law_121 : decode cL_law 121 = .ok (.goto 4, 3) := by decide +kernel
theorem dL_law_124 : decode cL_law 124 = .ok (.iconst 0, 1) := by decide +kernel
theorem dL_law_125 : decode cL_law 125 = .ok (.istore 7, 2) := by decide +kernel
theorem dL_law_127 : decode cL_law 127 = .ok (.iload 5, 2) := by decide +kernel
theorem dL_law_129 : decode cL_law 129 = .ok (.bipush 16, 2) := by decide +kernel
theorem dL_law_131 : decode cL_law 131 = .ok (.invokestatic 135, 3) := by decide +kernel
theorem dL_law_134 : decode cL_law 134 = .ok (.istore 8, 2) := by decide +kernel
theorem dL_law_136 : decode cL_law 136 = .ok (.iload 8, 2) := by decide +kernel
theorem dL_law_138 : decode cL_law 138 = .ok (.iconst 4, 1) := by decide +kernel
theorem dL_law_139 : decode cL_law 139 = .ok (.if_icmp .ge 15, 3) := by decide +kernel
theorem dL_law_142 : decode cL_law 142 = .ok (.aload_n 1, 1) := by decide +kernel
theorem dL_law_143 : decode cL_law 143 = .ok (.aload_n 2, 1) := by decide +kernel
theorem dL_law_144 : decode cL_law 144 = .ok (.iload 6, 2) := by decide +kernel
theorem dL_law_146 : decode cL_law 146 = .ok (.iload 7, 2) := by decide +kernel
theorem dL_law_148 : decode cL_law 148 = .ok (.invokestatic 151, 3) := by decide +kernel
theorem dL_law_151 : decode cL_law 151 = .ok (.goto 41, 3) := by decide +kernel
theorem dL_law_154 : decode cL_law 154 = .ok (.iload 8, 2) := by decide +kernel
theorem dL_law_156 : decode cL_law 156 = .ok (.bipush 13, 2) := by decide +kernel
theorem dL_law_158 : decode cL_law 158 = .ok (.if_icmp .ge 15, 3) := by decide +kernel
theorem dL_law_161 : decode cL_law 161 = .ok (.aload_n 1, 1) := by decide +kernel
theorem dL_law_162 : decode cL_law 162 = .ok (.aload_n 2, 1) := by decide +kernel
theorem dL_law_163 : decode cL_law 163 = .ok (.iload 6, 2) := by decide +kernel
theorem dL_law_165 : decode cL_law 165 = .ok (.iload 7, 2) := by decide +kernel
theorem dL_law_167 : decode cL_law 167 = .ok (.invokestatic 155, 3) := by decide +kernel
theorem dL_law_170 : decode cL_law 170 = .ok (.goto 22, 3) := by decide +kernel
theorem dL_law_173 : decode cL_law 173 = .ok (.iload 8, 2) := by decide +kernel
theorem dL_law_175 : decode cL_law 175 = .ok (.bipush 15, 2) := by decide +kernel
theorem dL_law_177 : decode cL_law 177 = .ok (.if_icmp .ge 11, 3) := by decide +kernel
theorem dL_law_180 : decode cL_law 180 = .ok (.aload_n 1, 1) := by decide +kernel
theorem dL_law_181 : decode cL_law 181 = .ok (.aload_n 2, 1) := by decide +kernel
theorem dL_law_182 : decode cL_law 182 = .ok (.invokestatic 158, 3) := by decide +kernel
theorem dL_law_185 : decode cL_law 185 = .ok (.goto 7, 3) := by decide +kernel
theorem dL_law_188 : decode cL_law 188 = .ok (.aload_n 1, 1) := by decide +kernel
theorem dL_law_189 : decode cL_law 189 = .ok (.invokestatic 162, 3) := by decide +kernel
theorem dL_law_192 : decode cL_law 192 = .ok (.istore_n 3, 1) := by decide +kernel
theorem dL_law_193 : decode cL_law 193 = .ok (.iload_n 3, 1) := by decide +kernel
theorem dL_law_194 : decode cL_law 194 = .ok (.ifCond .eq 44, 3) := by decide +kernel
theorem dL_law_197 : decode cL_law 197 = .ok (.aload_n 1, 1) := by decide +kernel
theorem dL_law_198 : decode cL_law 198 = .ok (.invokestatic 143, 3) := by decide +kernel
theorem dL_law_201 : decode cL_law 201 = .ok (.ifCond .eq 37, 3) := by decide +kernel
theorem dL_law_204 : decode cL_law 204 = .ok (.iload 4, 2) := by decide +kernel
theorem dL_law_206 : decode cL_law 206 = .ok (.bipush 9, 2) := by decide +kernel
theorem dL_law_208 : decode cL_law 208 = .ok (.irem, 1) := by decide +kernel
theorem dL_law_209 : decode cL_law 209 = .ok (.ifCond .gt 10, 3) := by decide +kernel
theorem dL_law_212 : decode cL_law 212 = .ok (.aload_n 1, 1) := by decide +kernel
theorem dL_law_213 : decode cL_law 213 = .ok (.invokestatic 162, 3) := by decide +kernel
theorem dL_law_216 : decode cL_law 216 = .ok (.ifCond .eq 22, 3) := by decide +kernel
theorem dL_law_219 : decode cL_law 219 = .ok (.iload 4, 2) := by decide +kernel
theorem dL_law_221 : decode cL_law 221 = .ok (.iconst 4, 1) := by decide +kernel
theorem dL_law_222 : decode cL_law 222 = .ok (.irem, 1) := by decide +kernel
theorem dL_law_223 : decode cL_law 223 = .ok (.ifCond .gt 11, 3) := by decide +kernel
theorem dL_law_226 : decode cL_law 226 = .ok (.aload_n 1, 1) := by decide +kernel
theorem dL_law_227 : decode cL_law 227 = .ok (.aload_n 2, 1) := by decide +kernel
theorem dL_law_228 : decode cL_law 228 = .ok (.invokestatic 158, 3) := by decide +kernel
theorem dL_law_231 : decode cL_law 231 = .ok (.ifCond .eq 7, 3) := by decide +kernel
theorem dL_law_234 : decode cL_law 234 = .ok (.iconst 1, 1) := by decide +kernel
theorem dL_law_235 : decode cL_law 235 = .ok (.goto 4, 3) := by decide +kernel
theorem dL_law_238 : decode cL_law 238 = .ok (.iconst 0, 1) := by decide +kernel
theorem dL_law_239 : decode cL_law 239 = .ok (.istore_n 3, 1) := by decide +kernel
theorem dL_law_240 : decode cL_law 240 = .ok (.iinc 4 1, 3) := by decide +kernel
theorem dL_law_243 : decode cL_law 243 = .ok (.goto (-169), 3) := by decide +kernel
theorem dL_law_246 : decode cL_law 246 = .ok (.iload_n 3, 1) := by decide +kernel
theorem dL_law_247 : decode cL_law 247 = .ok (.ifCond .eq 19, 3) := by decide +kernel
theorem dL_law_250 : decode cL_law 250 = .ok (.aload_n 1, 1) := by decide +kernel
theorem dL_law_251 : decode cL_law 251 = .ok (.invokestatic 131, 3) := by decide +kernel
theorem dL_law_254 : decode cL_law 254 = .ok (.aload_n 2, 1) := by decide +kernel
theorem dL_law_255 : decode cL_law 255 = .ok (.invokestatic 131, 3) := by decide +kernel
theorem dL_law_258 : decode cL_law 258 = .ok (.lcmp, 1) := by decide +kernel
theorem dL_law_259 : decode cL_law 259 = .ok (.ifCond .ne 7, 3) := by decide +kernel
theorem dL_law_262 : decode cL_law 262 = .ok (.iconst 1, 1) := by decide +kernel
theorem dL_law_263 : decode cL_law 263 = .ok (.goto 4, 3) := by decide +kernel
theorem dL_law_266 : decode cL_law 266 = .ok (.iconst 0, 1) := by decide +kernel
theorem dL_law_267 : decode cL_law 267 = .ok (.ireturn, 1) := by decide +kernel
