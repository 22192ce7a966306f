theorem dX9_bars_16 : decode cX9_bars 16 = .ok (.iconst 1, 1) := by decide +kernel
theorem dX9_bars_17 : decode cX9_bars 17 = .ok (.goto 4, 3) := by decide +kernel
theorem dX9_bars_20 : decode cX9_bars 20 = .ok (.iconst 0, 1) := by decide +kernel
theorem dX9_bars_21 : decode cX9_bars 21 = .ok (.istore 5, 2) := by decide +kernel
theorem dX9_bars_23 : decode cX9_bars 23 = .ok (.aload_n 0, 1) := by decide +kernel
theorem dX9_bars_24 : decode cX9_bars 24 = .ok (.iload 4, 2) := by decide +kernel
theorem dX9_bars_26 : decode cX9_bars 26 = .ok (.invokevirtual 92, 3) := by decide +kernel
theorem dX9_bars_29 : decode cX9_bars 29 = .ok (.ifCond .eq 39, 3) := by decide +kernel
theorem dX9_bars_32 : decode cX9_bars 32 = .ok (.aload_n 0, 1) := by decide +kernel
theorem dX9_bars_33 : decode cX9_bars 33 = .ok (.iload_n 2, 1) := by decide +kernel
theorem dX9_bars_34 : decode cX9_bars 34 = .ok (.aload_n 0, 1) := by decide +kernel
theorem dX9_bars_35 : decode cX9_bars 35 = .ok (.iload 4, 2) := by decide +kernel
theorem dX9_bars_37 : decode cX9_bars 37 = .ok (.iconst 2, 1) := by decide +kernel
theorem dX9_bars_38 : decode cX9_bars 38 = .ok (.invokevirtual 73, 3) := by decide +kernel
theorem dX9_bars_41 : decode cX9_bars 41 = .ok (.invokevirtual 86, 3) := by decide +kernel
theorem dX9_bars_44 : decode cX9_bars 44 = .ok (.ifCond .eq 24, 3) := by decide +kernel
theorem dX9_bars_47 : decode cX9_bars 47 = .ok (.iload 5, 2) := by decide +kernel
theorem dX9_bars_49 : decode cX9_bars 49 = .ok (.ifCond .ne 19, 3) := by decide +kernel
theorem dX9_bars_52 : decode cX9_bars 52 = .ok (.aload_n 0, 1) := by decide +kernel
theorem dX9_bars_53 : decode cX9_bars 53 = .ok (.iload_n 1, 1) := by decide +kernel
theorem dX9_bars_54 : decode cX9_bars 54 = .ok (.iload_n 2, 1) := by decide +kernel
theorem dX9_bars_55 : decode cX9_bars 55 = .ok (.iload_n 3, 1) := by decide +kernel
theorem dX9_bars_56 : decode cX9_bars 56 = .ok (.iload 4, 2) := by decide +kernel
theorem dX9_bars_58 : decode cX9_bars 58 = .ok (.invokevirtual 95, 3) := by decide +kernel
theorem dX9_bars_61 : decode cX9_bars 61 = .ok (.ifCond .ne 7, 3) := by decide +kernel
theorem dX9_bars_64 : decode cX9_bars 64 = .ok (.iconst 1, 1) := by decide +kernel
theorem dX9_bars_65 : decode cX9_bars 65 = .ok (.goto 4, 3) := by decide +kernel
theorem dX9_bars_68 : decode cX9_bars 68 = .ok (.iconst 0, 1) := by decide +kernel
theorem dX9_bars_69 : decode cX9_bars 69 = .ok (.ireturn, 1) := by decide +kernel
theorem dX9_canGrant_0 : decode cX9_canGrant 0 = .ok (.iconst 1, 1) := by decide +kernel
theorem dX9_canGrant_1 : decode cX9_canGrant 1 = .ok (.istore 4, 2) := by decide +kernel
theorem dX9_canGrant_3 : decode cX9_canGrant 3 = .ok (.iconst 0, 1) := by decide +kernel
theorem dX9_canGrant_4 : decode cX9_canGrant 4 = .ok (.istore 5, 2) := by decide +kernel
theorem dX9_canGrant_6 : decode cX9_canGrant 6 = .ok (.iconst 0, 1) := by decide +kernel
theorem dX9_canGrant_7 : decode cX9_canGrant 7 = .ok (.istore 6, 2) := by decide +kernel
theorem dX9_canGrant_9 : decode cX9_canGrant 9 = .ok (.iload 6, 2) := by decide +kernel
theorem dX9_canGrant_11 : decode cX9_canGrant 11 = .ok (.bipush 10, 2) := by decide +kernel
theorem dX9_canGrant_13 : decode cX9_canGrant 13 = .ok (.if_icmp .ge 64, 3) := by decide +kernel
theorem dX9_canGrant_16 : decode cX9_canGrant 16 = .ok (.iload 4, 2) := by decide +kernel
theorem dX9_canGrant_18 : decode cX9_canGrant 18 = .ok (.ifCond .eq 19, 3) := by decide +kernel
theorem dX9_canGrant_21 : decode cX9_canGrant 21 = .ok (.aload_n 0, 1) := by decide +kernel
theorem dX9_canGrant_22 : decode cX9_canGrant 22 = .ok (.iload_n 1, 1) := by decide +kernel
theorem dX9_canGrant_23 : decode cX9_canGrant 23 = .ok (.iload_n 2, 1) := by decide +kernel
theorem dX9_canGrant_24 : decode cX9_canGrant 24 = .ok (.iload_n 3, 1) := by decide +kernel
theorem dX9_canGrant_25 : decode cX9_canGrant 25 = .ok (.iload 6, 2) := by decide +kernel
theorem dX9_canGrant_27 : decode cX9_canGrant 27 = .ok (.invokevirtual 99, 3) := by decide +kernel
theorem dX9_canGrant_30 : decode cX9_canGrant 30 = .ok (.ifCond .ne 7, 3) := by decide +kernel
theorem dX9_canGrant_33 : decode cX9_canGrant 33 = .ok (.iconst 1, 1) := by decide +kernel
theorem dX9_canGrant_34 : decode cX9_canGrant 34 = .ok (.goto 4, 3) := by decide +kernel
theorem dX9_canGrant_37 : decode cX9_canGrant 37 = .ok (.iconst 0, 1) := by decide +kernel
theorem dX9_canGrant_38 : decode cX9_canGrant 38 = .ok (.istore 4, 2) := by decide +kernel
theorem dX9_canGrant_40 : decode cX9_canGrant 40 = .ok (.iload 5, 2) := by decide +kernel
theorem dX9_canGrant_42 : decode cX9_canGrant 42 = .ok (.aload_n 0, 1) := by decide +kernel
theorem dX9_canGrant_43 : decode cX9_canGrant 43 = .ok (.iload 6, 2) := by decide +kernel
theorem dX9_canGrant_45 : decode cX9_canGrant 45 = .ok (.invokevirtual 76, 3) := by decide +kernel
theorem dX9_canGrant_48 : decode cX9_canGrant 48 = .ok (.ifCond .eq 19, 3) := by decide +kernel
theorem dX9_canGrant_51 : decode cX9_canGrant 51 = .ok (.aload_n 0, 1) := by decide +kernel
theorem dX9_canGrant_52 : decode cX9_canGrant 52 = .ok (.iload_n 1, 1) := by decide +kernel
theorem dX9_canGrant_53 : decode cX9_canGrant 53 = .ok (.iload_n 2, 1) := by decide +kernel
theorem dX9_canGrant_54 : decode cX9_canGrant 54 = .ok (.iload_n 3, 1) := by decide +kernel
theorem dX9_canGrant_55 : decode cX9_canGrant 55 = .ok (.iload 6, 2) := by decide +kernel
theorem dX9_canGrant_57 : decode cX9_canGrant 57 = .ok (.invokevirtual 95, 3) := by decide +kernel
theorem dX9_canGrant_60 : decode cX9_canGrant 60 = .ok (.ifCond .ne 7, 3) := by decide +kernel
theorem dX9_canGrant_63 : decode cX9_canGrant 63 = .ok (.iconst 1, 1) := by decide +kernel
theorem dX9_canGrant_64 : decode cX9_canGrant 64 = .ok (.goto 4, 3) := by decide +kernel
theorem dX9_canGrant_67 : decode cX9_canGrant 67 = .ok (.iconst 0, 1) := by decide +kernel
theorem dX9_canGrant_68 : decode cX9_canGrant 68 = .ok (.iadd, 1) := by decide +kernel
theorem dX9_canGrant_69 : decode cX9_canGrant 69 = .ok (.istore 5, 2) := by decide +kernel
theorem dX9_canGrant_71 : decode cX9_canGrant 71 = .ok (.iinc 6 1, 3) := by decide +kernel
theorem dX9_canGrant_74 : decode cX9_canGrant 74 = .ok (.goto (-65), 3) := by decide +kernel
theorem dX9_canGrant_77 : decode cX9_canGrant 77 = .ok (.iload 4, 2) := by decide +kernel
theorem dX9_canGrant_79 : decode cX9_canGrant 79 = .ok (.ifCond .eq 14, 3) := by decide +kernel
theorem dX9_canGrant_82 : decode cX9_canGrant 82 = .ok (.iload 5, 2) := by decide +kernel
theorem dX9_canGrant_84 : decode cX9_canGrant 84 = .ok (.bipush 10, 2) := by decide +kernel
theorem dX9_canGrant_86 : decode cX9_canGrant 86 = .ok (.if_icmp .ge 7, 3) := by decide +kernel
theorem dX9_canGrant_89 : decode cX9_canGrant 89 = .ok (.iconst 1, 1) := by decide +kernel
theorem dX9_canGrant_90 : decode cX9_canGrant 90 = .ok (.goto 4, 3) := by decide +kernel
theorem dX9_canGrant_93 : decode cX9_canGrant 93 = .ok (.iconst 0, 1) := by decide +kernel
theorem dX9_canGrant_94 : decode cX9_canGrant 94 = .ok (.ireturn, 1) := by decide +kernel
theorem dX9_takesOver_0 : decode cX9_takesOver 0 = .ok (.iconst 0, 1) := by decide +kernel
theorem dX9_takesOver_1 : decode cX9_takesOver 1 = .ok (.istore_n 2, 1) := by decide +kernel
theorem dX9_takesOver_2 : decode cX9_takesOver 2 = .ok (.iload_n 2, 1) := by decide +kernel
theorem dX9_takesOver_3 : decode cX9_takesOver 3 = .ok (.bipush 20, 2) := by decide +kernel
theorem dX9_takesOver_5 : decode cX9_takesOver 5 = .ok (.if_icmp .ge 69, 3) := by decide +kernel
theorem dX9_takesOver_8 : decode cX9_takesOver 8 = .ok (.iconst 0, 1) := by decide +kernel
theorem dX9_takesOver_9 : decode cX9_takesOver 9 = .ok (.istore_n 3, 1) := by decide +kernel
theorem dX9_takesOver_10 : decode cX9_takesOver 10 = .ok (.iload_n 3, 1) := by decide +kernel
theorem dX9_takesOver_11 : decode cX9_takesOver 11 = .ok (.bipush 12, 2) := by decide +kernel
theorem dX9_takesOver_13 : decode cX9_takesOver 13 = .ok (.if_icmp .ge 55, 3) := by decide +kernel
theorem dX9_takesOver_16 : decode cX9_takesOver 16 = .ok (.aload_n 0, 1) := by decide +kernel
theorem dX9_takesOver_17 : decode cX9_takesOver 17 = .ok (.iload_n 2, 1) := by decide +kernel
theorem dX9_takesOver_18 : decode cX9_takesOver 18 = .ok (.invokevirtual 102, 3) := by decide +kernel
theorem dX9_takesOver_21 : decode cX9_takesOver 21 = .ok (.ifCond .eq 47, 3) := by decide +kernel
theorem dX9_takesOver_24 : decode cX9_takesOver 24 = .ok (.aload_n 0, 1) := by decide +kernel
theorem dX9_takesOver_25 : decode cX9_takesOver 25 = .ok (.iload_n 2, 1) := by decide +kernel
theorem dX9_takesOver_26 : decode cX9_takesOver 26 = .ok (.aload_n 0, 1) := by decide +kernel
theorem dX9_takesOver_27 : decode cX9_takesOver 27 = .ok (.iload_n 1, 1) := by decide +kernel
theorem dX9_takesOver_28 : decode cX9_takesOver 28 = .ok (.iconst 2, 1) := by decide +kernel
theorem dX9_takesOver_29 : decode cX9_takesOver 29 = .ok (.invokevirtual 73, 3) := by decide +kernel
theorem dX9_takesOver_32 : decode cX9_takesOver 32 = .ok (.invokevirtual 62, 3) := by decide +kernel
theorem dX9_takesOver_35 : decode cX9_takesOver 35 = .ok (.ifCond .eq 33, 3) := by decide +kernel
theorem dX9_takesOver_38 : decode cX9_takesOver 38 = .ok (.aload_n 0, 1) := by decide +kernel
theorem dX9_takesOver_39 : decode cX9_takesOver 39 = .ok (.getfield 22, 3) := by decide +kernel
theorem dX9_takesOver_42 : decode cX9_takesOver 42 = .ok (.bipush 12, 2) := by decide +kernel
theorem dX9_takesOver_44 : decode cX9_takesOver 44 = .ok (.iload_n 2, 1) := by decide +kernel
theorem dX9_takesOver_45 : decode cX9_takesOver 45 = .ok (.imul, 1) := by decide +kernel
theorem dX9_takesOver_46 : decode cX9_takesOver 46 = .ok (.iload_n 3, 1) := by decide +kernel
theorem dX9_takesOver_47 : decode cX9_takesOver 47 = .ok (.iadd, 1) := by decide +kernel
theorem dX9_takesOver_48 : decode cX9_takesOver 48 = .ok (.aload_n 0, 1) := by decide +kernel
theorem dX9_takesOver_49 : decode cX9_takesOver 49 = .ok (.getfield 7, 3) := by decide +kernel
theorem dX9_takesOver_52 : decode cX9_takesOver 52 = .ok (.iload_n 1, 1) := by decide +kernel
theorem dX9_takesOver_53 : decode cX9_takesOver 53 = .ok (.iload_n 2, 1) := by decide +kernel
theorem dX9_takesOver_54 : decode cX9_takesOver 54 = .ok (.iconst 0, 1) := by decide +kernel
theorem dX9_takesOver_55 : decode cX9_takesOver 55 = .ok (.invokestatic 105, 3) := by decide +kernel
theorem dX9_takesOver_58 : decode cX9_takesOver 58 = .ok (.iload_n 3, 1) := by decide +kernel
theorem dX9_takesOver_59 : decode cX9_takesOver 59 = .ok (.iadd, 1) := by decide +kernel
theorem dX9_takesOver_60 : decode cX9_takesOver 60 = .ok (.iaload, 1) := by decide +kernel
theorem dX9_takesOver_61 : decode cX9_takesOver 61 = .ok (.iastore, 1) := by decide +kernel
theorem dX9_takesOver_62 : decode cX9_takesOver 62 = .ok (.iinc 3 1, 3) := by decide +kernel
theorem dX9_takesOver_65 : decode cX9_takesOver 65 = .ok (.goto (-55), 3) := by decide +kernel
theorem dX9_takesOver_68 : decode cX9_takesOver 68 = .ok (.iinc 2 1, 3) := by decide +kernel
theorem dX9_takesOver_71 : decode cX9_takesOver 71 = .ok (.goto (-69), 3) := by decide +kernel
theorem dX9_takesOver_74 : decode cX9_takesOver 74 = .ok (.return_, 1) := by decide +kernel
theorem dX9_grants_0 : decode cX9_grants 0 = .ok (.iconst 0, 1) := by decide +kernel
theorem dX9_grants_1 : decode cX9_grants 1 = .ok (.istore 5, 2) := by decide +kernel
theorem dX9_grants_3 : decode cX9_grants 3 = .ok (.iload 5, 2) := by decide +kernel
theorem dX9_grants_5 : decode cX9_grants 5 = .ok (.sipush 240, 3) := by decide +kernel
theorem dX9_grants_8 : decode cX9_grants 8 = .ok (.if_icmp .ge 28, 3) := by decide +kernel
theorem dX9_grants_11 : decode cX9_grants 11 = .ok (.aload_n 0, 1) := by decide +kernel
theorem dX9_grants_12 : decode cX9_grants 12 = .ok (.getfield 22, 3) := by decide +kernel
theorem dX9_grants_15 : decode cX9_grants 15 = .ok (.iload 5, 2) := by decide +kernel
theorem dX9_grants_17 : decode cX9_grants 17 = .ok (.aload_n 0, 1) := by decide +kernel
theorem dX9_grants_18 : decode cX9_grants 18 = .ok (.getfield 7, 3) := by decide +kernel
theorem dX9_grants_21 : decode cX9_grants 21 = .ok (.bipush 82, 2) := by decide +kernel
theorem dX9_grants_23 : decode cX9_grants 23 = .ok (.iload 5, 2) := by decide +kernel
theorem dX9_grants_25 : decode cX9_grants 25 = .ok (.iconst 2, 1) := by decide +kernel
theorem dX9_grants_26 : decode cX9_grants 26 = .ok (.idiv, 1) := by decide +kernel
theorem dX9_grants_27 : decode cX9_grants 27 = .ok (.iadd, 1) := by decide +kernel
theorem dX9_grants_28 : decode cX9_grants 28 = .ok (.iaload, 1) := by decide +kernel
theorem dX9_grants_29 : decode cX9_grants 29 = .ok (.iastore, 1) := by decide +kernel
theorem dX9_grants_30 : decode cX9_grants 30 = .ok (.iinc 5 1, 3) := by decide +kernel
theorem dX9_grants_33 : decode cX9_grants 33 = .ok (.goto (-30), 3) := by decide +kernel
theorem dX9_grants_36 : decode cX9_grants 36 = .ok (.iconst 0, 1) := by decide +kernel
theorem dX9_grants_37 : decode cX9_grants 37 = .ok (.istore 5, 2) := by decide +kernel
theorem dX9_grants_39 : decode cX9_grants 39 = .ok (.iload 5, 2) := by decide +kernel
theorem dX9_grants_41 : decode cX9_grants 41 = .ok (.bipush 10, 2) := by decide +kernel
theorem dX9_grants_43 : decode cX9_grants 43 = .ok (.if_icmp .ge 50, 3) := by decide +kernel
theorem dX9_grants_46 : decode cX9_grants 46 = .ok (.aload_n 0, 1) := by decide +kernel
theorem dX9_grants_47 : decode cX9_grants 47 = .ok (.iload_n 1, 1) := by decide +kernel
theorem dX9_grants_48 : decode cX9_grants 48 = .ok (.iload_n 2, 1) := by decide +kernel
theorem dX9_grants_49 : decode cX9_grants 49 = .ok (.iload 4, 2) := by decide +kernel
theorem dX9_grants_51 : decode cX9_grants 51 = .ok (.iload 5, 2) := by decide +kernel
theorem dX9_grants_53 : decode cX9_grants 53 = .ok (.invokevirtual 95, 3) := by decide +kernel
theorem dX9_grants_56 : decode cX9_grants 56 = .ok (.ifCond .eq 31, 3) := by decide +kernel
theorem dX9_grants_59 : decode cX9_grants 59 = .ok (.aload_n 0, 1) := by decide +kernel
theorem dX9_grants_60 : decode cX9_grants 60 = .ok (.iload 5, 2) := by decide +kernel
theorem dX9_grants_62 : decode cX9_grants 62 = .ok (.iconst 5, 1) := by decide +kernel
theorem dX9_grants_63 : decode cX9_grants 63 = .ok (.invokevirtual 73, 3) := by decide +kernel
theorem dX9_grants_66 : decode cX9_grants 66 = .ok (.ifCond .ne 9, 3) := by decide +kernel
theorem dX9_grants_69 : decode cX9_grants 69 = .ok (.aload_n 0, 1) := by decide +kernel
theorem dX9_grants_70 : decode cX9_grants 70 = .ok (.iload 5, 2) := by decide +kernel
theorem dX9_grants_72 : decode cX9_grants 72 = .ok (.invokevirtual 109, 3) := by decide +kernel
theorem dX9_grants_75 : decode cX9_grants 75 = .ok (.aload_n 0, 1) := by decide +kernel
theorem dX9_grants_76 : decode cX9_grants 76 = .ok (.getfield 7, 3) := by decide +kernel
theorem dX9_grants_79 : decode cX9_grants 79 = .ok (.iload 5, 2) := by decide +kernel
theorem dX9_grants_81 : decode cX9_grants 81 = .ok (.iconst 0, 1) := by decide +kernel
theorem dX9_grants_82 : decode cX9_grants 82 = .ok (.invokestatic 69, 3) := by decide +kernel
theorem dX9_grants_85 : decode cX9_grants 85 = .ok (.iconst 0, 1) := by decide +kernel
theorem dX9_grants_86 : decode cX9_grants 86 = .ok (.iastore, 1) := by decide +kernel
theorem dX9_grants_87 : decode cX9_grants 87 = .ok (.iinc 5 1, 3) := by decide +kernel
theorem dX9_grants_90 : decode cX9_grants 90 = .ok (.goto (-51), 3) := by decide +kernel
theorem dX9_grants_93 : decode cX9_grants 93 = .ok (.iconst 0, 1) := by decide +kernel
theorem dX9_grants_94 : decode cX9_grants 94 = .ok (.istore 5, 2) := by decide +kernel
theorem dX9_grants_96 : decode cX9_grants 96 = .ok (.aload_n 0, 1) := by decide +kernel
theorem dX9_grants_97 : decode cX9_grants 97 = .ok (.iload 5, 2) := by decide +kernel
theorem dX9_grants_99 : decode cX9_grants 99 = .ok (.invokevirtual 76, 3) := by decide +kernel
theorem dX9_grants_102 : decode cX9_grants 102 = .ok (.ifCond .eq 9, 3) := by decide +kernel
theorem dX9_grants_105 : decode cX9_grants 105 = .ok (.iinc 5 1, 3) := by decide +kernel
theorem dX9_grants_108 : decode cX9_grants 108 = .ok (.goto (-12), 3) := by decide +kernel
theorem dX9_grants_111 : decode cX9_grants 111 = .ok (.aload_n 0, 1) := by decide +kernel
theorem dX9_grants_112 : decode cX9_grants 112 = .ok (.getfield 7, 3) := by decide +kernel
theorem dX9_grants_115 : decode cX9_grants 115 = .ok (.iload 5, 2) := by decide +kernel
theorem dX9_grants_117 : decode cX9_grants 117 = .ok (.iconst 0, 1) := by decide +kernel
theorem dX9_grants_118 : decode cX9_grants 118 = .ok (.invokestatic 69, 3) := by decide +kernel
theorem dX9_grants_121 : decode cX9_grants 121 = .ok (.iconst 1, 1) := by decide +kernel
theorem dX9_grants_122 : decode cX9_grants 122 = .ok (.iastore, 1) := by decide +kernel
theorem dX9_grants_123 : decode cX9_grants 123 = .ok (.aload_n 0, 1) := by decide +kernel
theorem dX9_grants_124 : decode cX9_grants 124 = .ok (.getfield 7, 3) := by decide +kernel
theorem dX9_grants_127 : decode cX9_grants 127 = .ok (.iload 5, 2) := by decide +kernel
theorem dX9_grants_129 : decode cX9_grants 129 = .ok (.iconst 1, 1) := by decide +kernel
theorem dX9_grants_130 : decode cX9_grants 130 = .ok (.invokestatic 69, 3) := by decide +kernel
theorem dX9_grants_133 : decode cX9_grants 133 = .ok (.iload_n 1, 1) := by decide +kernel
theorem dX9_grants_134 : decode cX9_grants 134 = .ok (.iastore, 1) := by decide +kernel
theorem dX9_grants_135 : decode cX9_grants 135 = .ok (.aload_n 0, 1) := by decide +kernel
theorem dX9_grants_136 : decode cX9_grants 136 = .ok (.getfield 7, 3) := by decide +kernel
theorem dX9_grants_139 : decode cX9_grants 139 = .ok (.iload 5, 2) := by decide +kernel
theorem dX9_grants_141 : decode cX9_grants 141 = .ok (.iconst 2, 1) := by decide +kernel
theorem dX9_grants_142 : decode cX9_grants 142 = .ok (.invokestatic 69, 3) := by decide +kernel
theorem dX9_grants_145 : decode cX9_grants 145 = .ok (.iload_n 2, 1) := by decide +kernel
theorem dX9_grants_146 : decode cX9_grants 146 = .ok (.iastore, 1) := by decide +kernel
theorem dX9_grants_147 : decode cX9_grants 147 = .ok (.aload_n 0, 1) := by decide +kernel
theorem dX9_grants_148 : decode cX9_grants 148 = .ok (.getfield 7, 3) := by decide +kernel
theorem dX9_grants_151 : decode cX9_grants 151 = .ok (.iload 5, 2) := by decide +kernel
theorem dX9_grants_153 : decode cX9_grants 153 = .ok (.iconst 3, 1) := by decide +kernel
theorem dX9_grants_154 : decode cX9_grants 154 = .ok (.invokestatic 69, 3) := by decide +kernel
theorem dX9_grants_157 : decode cX9_grants 157 = .ok (.aload_n 0, 1) := by decide +kernel
theorem dX9_grants_158 : decode cX9_grants 158 = .ok (.getfield 7, 3) := by decide +kernel
theorem dX9_grants_161 : decode cX9_grants 161 = .ok (.iconst 0, 1) := by decide +kernel
theorem dX9_grants_162 : decode cX9_grants 162 = .ok (.iaload, 1) := by decide +kernel
theorem dX9_grants_163 : decode cX9_grants 163 = .ok (.iload_n 3, 1) := by decide +kernel
theorem dX9_grants_164 : decode cX9_grants 164 = .ok (.iadd, 1) := by decide +kernel
theorem dX9_grants_165 : decode cX9_grants 165 = .ok (.iastore, 1) := by decide +kernel
theorem dX9_grants_166 : decode cX9_grants 166 = .ok (.aload_n 0, 1) := by decide +kernel
theorem dX9_grants_167 : decode cX9_grants 167 = .ok (.getfield 7, 3) := by decide +kernel
theorem dX9_grants_170 : decode cX9_grants 170 = .ok (.iload 5, 2) := by decide +kernel
theorem dX9_grants_172 : decode cX9_grants 172 = .ok (.iconst 4, 1) := by decide +kernel
theorem dX9_grants_173 : decode cX9_grants 173 = .ok (.invokestatic 69, 3) := by decide +kernel
theorem dX9_grants_176 : decode cX9_grants 176 = .ok (.iconst 1, 1) := by decide +kernel
theorem dX9_grants_177 : decode cX9_grants 177 = .ok (.iastore, 1) := by decide +kernel
theorem dX9_grants_178 : decode cX9_grants 178 = .ok (.aload_n 0, 1) := by decide +kernel
theorem dX9_grants_179 : decode cX9_grants 179 = .ok (.getfield 7, 3) := by decide +kernel
theorem dX9_grants_182 : decode cX9_grants 182 = .ok (.iload 5, 2) := by decide +kernel
theorem dX9_grants_184 : decode cX9_grants 184 = .ok (.iconst 5, 1) := by decide +kernel
theorem dX9_grants_185 : decode cX9_grants 185 = .ok (.invokestatic 69, 3) := by decide +kernel
theorem dX9_grants_188 : decode cX9_grants 188 = .ok (.iload 4, 2) := by decide +kernel
theorem dX9_grants_190 : decode cX9_grants 190 = .ok (.iastore, 1) := by decide +kernel
theorem dX9_grants_191 : decode cX9_grants 191 = .ok (.iconst 0, 1) := by decide +kernel
theorem dX9_grants_192 : decode cX9_grants 192 = .ok (.istore 6, 2) := by decide +kernel
theorem dX9_grants_194 : decode cX9_grants 194 = .ok (.iload 6, 2) := by decide +kernel
theorem dX9_grants_196 : decode cX9_grants 196 = .ok (.sipush 240, 3) := by decide +kernel
theorem dX9_grants_199 : decode cX9_grants 199 = .ok (.if_icmp .ge 31, 3) := by decide +kernel
theorem dX9_grants_202 : decode cX9_grants 202 = .ok (.aload_n 0, 1) := by decide +kernel
theorem dX9_grants_203 : decode cX9_grants 203 = .ok (.getfield 7, 3) := by decide +kernel
theorem dX9_grants_206 : decode cX9_grants 206 = .ok (.iload 5, 2) := by decide +kernel
theorem dX9_grants_208 : decode cX9_grants 208 = .ok (.iconst 0, 1) := by decide +kernel
theorem dX9_grants_209 : decode cX9_grants 209 = .ok (.iconst 0, 1) := by decide +kernel
theorem dX9_grants_210 : decode cX9_grants 210 = .ok (.invokestatic 105, 3) := by decide +kernel
theorem dX9_grants_213 : decode cX9_grants 213 = .ok (.iload 6, 2) := by decide +kernel
theorem dX9_grants_215 : decode cX9_grants 215 = .ok (.iadd, 1) := by decide +kernel
theorem dX9_grants_216 : decode cX9_grants 216 = .ok (.aload_n 0, 1) := by decide +kernel
theorem dX9_grants_217 : decode cX9_grants 217 = .ok (.getfield 22, 3) := by decide +kernel
theorem dX9_grants_220 : decode cX9_grants 220 = .ok (.iload 6, 2) := by decide +kernel
theorem dX9_grants_222 : decode cX9_grants 222 = .ok (.iaload, 1) := by decide +kernel
theorem dX9_grants_223 : decode cX9_grants 223 = .ok (.iastore, 1) := by decide +kernel
theorem dX9_grants_224 : decode cX9_grants 224 = .ok (.iinc 6 1, 3) := by decide +kernel
theorem dX9_grants_227 : decode cX9_grants 227 = .ok (.goto (-33), 3) := by decide +kernel
theorem dX9_grants_230 : decode cX9_grants 230 = .ok (.iload 5, 2) := by decide +kernel
theorem dX9_grants_232 : decode cX9_grants 232 = .ok (.ireturn, 1) := by decide +kernel
theorem dX9_isBlocked_0 : decode cX9_isBlocked 0 = .ok (.aload_n 0, 1) := by decide +kernel
theorem dX9_isBlocked_1 : decode cX9_isBlocked 1 = .ok (.aload_n 0, 1) := by decide +kernel
theorem dX9_isBlocked_2 : decode cX9_isBlocked 2 = .ok (.getfield 7, 3) := by decide +kernel
theorem dX9_isBlocked_5 : decode cX9_isBlocked 5 = .ok (.iload_n 1, 1) := by decide +kernel
theorem dX9_isBlocked_6 : decode cX9_isBlocked 6 = .ok (.iconst 1, 1) := by decide +kernel
theorem dX9_isBlocked_7 : decode cX9_isBlocked 7 = .ok (.invokestatic 83, 3) := by decide +kernel
theorem dX9_isBlocked_10 : decode cX9_isBlocked 10 = .ok (.iaload, 1) := by decide +kernel
theorem dX9_isBlocked_11 : decode cX9_isBlocked 11 = .ok (.iload_n 2, 1) := by decide +kernel
theorem dX9_isBlocked_12 : decode cX9_isBlocked 12 = .ok (.invokevirtual 86, 3) := by decide +kernel
theorem dX9_isBlocked_15 : decode cX9_isBlocked 15 = .ok (.ifCond .eq 26, 3) := by decide +kernel
theorem dX9_isBlocked_18 : decode cX9_isBlocked 18 = .ok (.aload_n 0, 1) := by decide +kernel
theorem dX9_isBlocked_19 : decode cX9_isBlocked 19 = .ok (.getfield 7, 3) := by decide +kernel
theorem dX9_isBlocked_22 : decode cX9_isBlocked 22 = .ok (.iload_n 1, 1) := by decide +kernel
theorem dX9_isBlocked_23 : decode cX9_isBlocked 23 = .ok (.iconst 3, 1) := by decide +kernel
theorem dX9_isBlocked_24 : decode cX9_isBlocked 24 = .ok (.invokestatic 83, 3) := by decide +kernel
theorem dX9_isBlocked_27 : decode cX9_isBlocked 27 = .ok (.iaload, 1) := by decide +kernel
theorem dX9_isBlocked_28 : decode cX9_isBlocked 28 = .ok (.iconst 1, 1) := by decide +kernel
theorem dX9_isBlocked_29 : decode cX9_isBlocked 29 = .ok (.if_icmp .ne 8, 3) := by decide +kernel
theorem dX9_isBlocked_32 : decode cX9_isBlocked 32 = .ok (.iload_n 3, 1) := by decide +kernel
theorem dX9_isBlocked_33 : decode cX9_isBlocked 33 = .ok (.iconst 1, 1) := by decide +kernel
theorem dX9_isBlocked_34 : decode cX9_isBlocked 34 = .ok (.if_icmp .eq 7, 3) := by decide +kernel
theorem dX9_isBlocked_37 : decode cX9_isBlocked 37 = .ok (.iconst 1, 1) := by decide +kernel
theorem dX9_isBlocked_38 : decode cX9_isBlocked 38 = .ok (.goto 4, 3) := by decide +kernel
theorem dX9_isBlocked_41 : decode cX9_isBlocked 41 = .ok (.iconst 0, 1) := by decide +kernel
theorem dX9_isBlocked_42 : decode cX9_isBlocked 42 = .ok (.ireturn, 1) := by decide +kernel
theorem dX9_isBlockedAhead_0 : decode cX9_isBlockedAhead 0 = .ok (.iconst 0, 1) := by decide +kernel
theorem dX9_isBlockedAhead_1 : decode cX9_isBlockedAhead 1 = .ok (.istore 4, 2) := by decide +kernel
theorem dX9_isBlockedAhead_3 : decode cX9_isBlockedAhead 3 = .ok (.iconst 0, 1) := by decide +kernel
theorem dX9_isBlockedAhead_4 : decode cX9_isBlockedAhead 4 = .ok (.istore 5, 2) := by decide +kernel
theorem dX9_isBlockedAhead_6 : decode cX9_isBlockedAhead 6 = .ok (.iload 5, 2) := by decide +kernel
theorem dX9_isBlockedAhead_8 : decode cX9_isBlockedAhead 8 = .ok (.iload_n 1, 1) := by decide +kernel
theorem dX9_isBlockedAhead_9 : decode cX9_isBlockedAhead 9 = .ok (.if_icmp .ge 32, 3) := by decide +kernel
theorem dX9_isBlockedAhead_12 : decode cX9_isBlockedAhead 12 = .ok (.iload 4, 2) := by decide +kernel
theorem dX9_isBlockedAhead_14 : decode cX9_isBlockedAhead 14 = .ok (.ifCond .ne 14, 3) := by decide +kernel
theorem dX9_isBlockedAhead_17 : decode cX9_isBlockedAhead 17 = .ok (.aload_n 0, 1) := by decide +kernel
theorem dX9_isBlockedAhead_18 : decode cX9_isBlockedAhead 18 = .ok (.iload 5, 2) := by decide +kernel
theorem dX9_isBlockedAhead_20 : decode cX9_isBlockedAhead 20 = .ok (.iload_n 2, 1) := by decide +kernel
theorem dX9_isBlockedAhead_21 : decode cX9_isBlockedAhead 21 = .ok (.iload_n 3, 1) := by decide +kernel
theorem dX9_isBlockedAhead_22 : decode cX9_isBlockedAhead 22 = .ok (.invokevirtual 113, 3) := by decide +kernel
theorem dX9_isBlockedAhead_25 : decode cX9_isBlockedAhead 25 = .ok (.ifCond .eq 7, 3) := by decide +kernel
theorem dX9_isBlockedAhead_28 : decode cX9_isBlockedAhead 28 = .ok (.iconst 1, 1) := by decide +kernel
theorem dX9_isBlockedAhead_29 : decode cX9_isBlockedAhead 29 = .ok (.goto 4, 3) := by decide +kernel
theorem dX9_isBlockedAhead_32 : decode cX9_isBlockedAhead 32 = .ok (.iconst 0, 1) := by decide +kernel
theorem dX9_isBlockedAhead_33 : decode cX9_isBlockedAhead 33 = .ok (.istore 4, 2) := by decide +kernel
theorem dX9_isBlockedAhead_35 : decode cX9_isBlockedAhead 35 = .ok (.iinc 5 1, 3) := by decide +kernel
theorem dX9_isBlockedAhead_38 : decode cX9_isBlockedAhead 38 = .ok (.goto (-32), 3) := by decide +kernel
theorem dX9_isBlockedAhead_41 : decode cX9_isBlockedAhead 41 = .ok (.iload 4, 2) := by decide +kernel
theorem dX9_isBlockedAhead_43 : decode cX9_isBlockedAhead 43 = .ok (.ireturn, 1) := by decide +kernel
theorem dX9_leavesLine_0 : decode cX9_leavesLine 0 = .ok (.aload_n 0, 1) := by decide +kernel
theorem dX9_leavesLine_1 : decode cX9_leavesLine 1 = .ok (.getfield 7, 3) := by decide +kernel
theorem dX9_leavesLine_4 : decode cX9_leavesLine 4 = .ok (.sipush 2662, 3) := by decide +kernel
theorem dX9_leavesLine_7 : decode cX9_leavesLine 7 = .ok (.dup2, 1) := by decide +kernel
theorem dX9_leavesLine_8 : decode cX9_leavesLine 8 = .ok (.iaload, 1) := by decide +kernel
theorem dX9_leavesLine_9 : decode cX9_leavesLine 9 = .ok (.iconst 1, 1) := by decide +kernel
theorem dX9_leavesLine_10 : decode cX9_leavesLine 10 = .ok (.isub, 1) := by decide +kernel
theorem dX9_leavesLine_11 : decode cX9_leavesLine 11 = .ok (.iastore, 1) := by decide +kernel
theorem dX9_leavesLine_12 : decode cX9_leavesLine 12 = .ok (.iconst 4, 1) := by decide +kernel
theorem dX9_leavesLine_13 : decode cX9_leavesLine 13 = .ok (.iload_n 1, 1) := by decide +kernel
theorem dX9_leavesLine_14 : decode cX9_leavesLine 14 = .ok (.imul, 1) := by decide +kernel
theorem dX9_leavesLine_15 : decode cX9_leavesLine 15 = .ok (.istore_n 2, 1) := by decide +kernel
theorem dX9_leavesLine_16 : decode cX9_leavesLine 16 = .ok (.iload_n 2, 1) := by decide +kernel
theorem dX9_leavesLine_17 : decode cX9_leavesLine 17 = .ok (.iconst 4, 1) := by decide +kernel
theorem dX9_leavesLine_18 : decode cX9_leavesLine 18 = .ok (.aload_n 0, 1) := by decide +kernel
theorem dX9_leavesLine_19 : decode cX9_leavesLine 19 = .ok (.invokevirtual 79, 3) := by decide +kernel
theorem dX9_leavesLine_22 : decode cX9_leavesLine 22 = .ok (.imul, 1) := by decide +kernel
theorem dX9_leavesLine_23 : decode cX9_leavesLine 23 = .ok (.if_icmp .ge 31, 3) := by decide +kernel
theorem dX9_leavesLine_26 : decode cX9_leavesLine 26 = .ok (.aload_n 0, 1) := by decide +kernel
theorem dX9_leavesLine_27 : decode cX9_leavesLine 27 = .ok (.getfield 7, 3) := by decide +kernel
theorem dX9_leavesLine_30 : decode cX9_leavesLine 30 = .ok (.sipush 2663, 3) := by decide +kernel
theorem dX9_leavesLine_33 : decode cX9_leavesLine 33 = .ok (.iload_n 2, 1) := by decide +kernel
theorem dX9_leavesLine_34 : decode cX9_leavesLine 34 = .ok (.iadd, 1) := by decide +kernel
theorem dX9_leavesLine_35 : decode cX9_leavesLine 35 = .ok (.aload_n 0, 1) := by decide +kernel
theorem dX9_leavesLine_36 : decode cX9_leavesLine 36 = .ok (.getfield 7, 3) := by decide +kernel
theorem dX9_leavesLine_39 : decode cX9_leavesLine 39 = .ok (.sipush 2663, 3) := by decide +kernel
theorem dX9_leavesLine_42 : decode cX9_leavesLine 42 = .ok (.iload_n 2, 1) := by decide +kernel
theorem dX9_leavesLine_43 : decode cX9_leavesLine 43 = .ok (.iadd, 1) := by decide +kernel
theorem dX9_leavesLine_44 : decode cX9_leavesLine 44 = .ok (.iconst 4, 1) := by decide +kernel
theorem dX9_leavesLine_45 : decode cX9_leavesLine 45 = .ok (.iadd, 1) := by decide +kernel
theorem dX9_leavesLine_46 : decode cX9_leavesLine 46 = .ok (.iaload, 1) := by decide +kernel
theorem dX9_leavesLine_47 : decode cX9_leavesLine 47 = .ok (.iastore, 1) := by decide +kernel
theorem dX9_leavesLine_48 : decode cX9_leavesLine 48 = .ok (.iinc 2 1, 3) := by decide +kernel
theorem dX9_leavesLine_51 : decode cX9_leavesLine 51 = .ok (.goto (-35), 3) := by decide +kernel
theorem dX9_leavesLine_54 : decode cX9_leavesLine 54 = .ok (.return_, 1) := by decide +kernel
theorem dX9_serves_0 : decode cX9_serves 0 = .ok (.iconst 0, 1) := by decide +kernel
theorem dX9_serves_1 : decode cX9_serves 1 = .ok (.istore_n 1, 1) := by decide +kernel
theorem dX9_serves_2 : decode cX9_serves 2 = .ok (.iload_n 1, 1) := by decide +kernel
theorem dX9_serves_3 : decode cX9_serves 3 = .ok (.aload_n 0, 1) := by decide +kernel
theorem dX9_serves_4 : decode cX9_serves 4 = .ok (.invokevirtual 79, 3) := by decide +kernel
theorem dX9_serves_7 : decode cX9_serves 7 = .ok (.if_icmp .ge 96, 3) := by decide +kernel
theorem dX9_serves_10 : decode cX9_serves 10 = .ok (.aload_n 0, 1) := by decide +kernel
theorem dX9_serves_11 : decode cX9_serves 11 = .ok (.getfield 7, 3) := by decide +kernel
theorem dX9_serves_14 : decode cX9_serves 14 = .ok (.iload_n 1, 1) := by decide +kernel
theorem dX9_serves_15 : decode cX9_serves 15 = .ok (.iconst 0, 1) := by decide +kernel
theorem dX9_serves_16 : decode cX9_serves 16 = .ok (.invokestatic 83, 3) := by decide +kernel
theorem dX9_serves_19 : decode cX9_serves 19 = .ok (.iaload, 1) := by decide +kernel
theorem dX9_serves_20 : decode cX9_serves 20 = .ok (.istore_n 2, 1) := by decide +kernel
theorem dX9_serves_21 : decode cX9_serves 21 = .ok (.aload_n 0, 1) := by decide +kernel
theorem dX9_serves_22 : decode cX9_serves 22 = .ok (.getfield 7, 3) := by decide +kernel
theorem dX9_serves_25 : decode cX9_serves 25 = .ok (.iload_n 1, 1) := by decide +kernel
theorem dX9_serves_26 : decode cX9_serves 26 = .ok (.iconst 1, 1) := by decide +kernel
theorem dX9_serves_27 : decode cX9_serves 27 = .ok (.invokestatic 83, 3) := by decide +kernel
theorem dX9_serves_30 : decode cX9_serves 30 = .ok (.iaload, 1) := by decide +kernel
theorem dX9_serves_31 : decode cX9_serves 31 = .ok (.istore_n 3, 1) := by decide +kernel
theorem dX9_serves_32 : decode cX9_serves 32 = .ok (.aload_n 0, 1) := by decide +kernel
theorem dX9_serves_33 : decode cX9_serves 33 = .ok (.getfield 7, 3) := by decide +kernel
theorem dX9_serves_36 : decode cX9_serves 36 = .ok (.iload_n 1, 1) := by decide +kernel
theorem dX9_serves_37 : decode cX9_serves 37 = .ok (.iconst 2, 1) := by decide +kernel
theorem dX9_serves_38 : decode cX9_serves 38 = .ok (.invokestatic 83, 3) := by decide +kernel
theorem dX9_serves_41 : decode cX9_serves 41 = .ok (.iaload, 1) := by decide +kernel
theorem dX9_serves_42 : decode cX9_serves 42 = .ok (.istore 4, 2) := by decide +kernel
theorem dX9_serves_44 : decode cX9_serves 44 = .ok (.aload_n 0, 1) := by decide +kernel
theorem dX9_serves_45 : decode cX9_serves 45 = .ok (.getfield 7, 3) := by decide +kernel
theorem dX9_serves_48 : decode cX9_serves 48 = .ok (.iload_n 1, 1) := by decide +kernel
theorem dX9_serves_49 : decode cX9_serves 49 = .ok (.iconst 3, 1) := by decide +kernel
theorem dX9_serves_50 : decode cX9_serves 50 = .ok (.invokestatic 83, 3) := by decide +kernel
theorem dX9_serves_53 : decode cX9_serves 53 = .ok (.iaload, 1) := by decide +kernel
theorem dX9_serves_54 : decode cX9_serves 54 = .ok (.istore 5, 2) := by decide +kernel
theorem dX9_serves_56 : decode cX9_serves 56 = .ok (.aload_n 0, 1) := by decide +kernel
theorem dX9_serves_57 : decode cX9_serves 57 = .ok (.iload_n 2, 1) := by decide +kernel
theorem dX9_serves_58 : decode cX9_serves 58 = .ok (.iload_n 3, 1) := by decide +kernel
theorem dX9_serves_59 : decode cX9_serves 59 = .ok (.iload 5, 2) := by decide +kernel
theorem dX9_serves_61 : decode cX9_serves 61 = .ok (.invokevirtual 116, 3) := by decide +kernel
theorem dX9_serves_64 : decode cX9_serves 64 = .ok (.ifCond .eq 33, 3) := by decide +kernel
theorem dX9_serves_67 : decode cX9_serves 67 = .ok (.aload_n 0, 1) := by decide +kernel
theorem dX9_serves_68 : decode cX9_serves 68 = .ok (.iload_n 1, 1) := by decide +kernel
theorem dX9_serves_69 : decode cX9_serves 69 = .ok (.iload_n 3, 1) := by decide +kernel
theorem dX9_serves_70 : decode cX9_serves 70 = .ok (.iload 5, 2) := by decide +kernel
theorem dX9_serves_72 : decode cX9_serves 72 = .ok (.invokevirtual 119, 3) := by decide +kernel
theorem dX9_serves_75 : decode cX9_serves 75 = .ok (.ifCond .ne 22, 3) := by decide +kernel
theorem dX9_serves_78 : decode cX9_serves 78 = .ok (.aload_n 0, 1) := by decide +kernel
theorem dX9_serves_79 : decode cX9_serves 79 = .ok (.iload_n 1, 1) := by decide +kernel
theorem dX9_serves_80 : decode cX9_serves 80 = .ok (.invokevirtual 122, 3) := by decide +kernel
theorem dX9_serves_83 : decode cX9_serves 83 = .ok (.aload_n 0, 1) := by decide +kernel
theorem dX9_serves_84 : decode cX9_serves 84 = .ok (.iload_n 2, 1) := by decide +kernel
theorem dX9_serves_85 : decode cX9_serves 85 = .ok (.iload_n 3, 1) := by decide +kernel
theorem dX9_serves_86 : decode cX9_serves 86 = .ok (.iload 4, 2) := by decide +kernel
theorem dX9_serves_88 : decode cX9_serves 88 = .ok (.iload 5, 2) := by decide +kernel
theorem dX9_serves_90 : decode cX9_serves 90 = .ok (.invokevirtual 125, 3) := by decide +kernel
theorem dX9_serves_93 : decode cX9_serves 93 = .ok (.pop, 1) := by decide +kernel
theorem dX9_serves_94 : decode cX9_serves 94 = .ok (.goto 6, 3) := by decide +kernel
theorem dX9_serves_97 : decode cX9_serves 97 = .ok (.iinc 1 1, 3) := by decide +kernel
theorem dX9_serves_100 : decode cX9_serves 100 = .ok (.goto (-98), 3) := by decide +kernel
theorem dX9_serves_103 : decode cX9_serves 103 = .ok (.return_, 1) := by decide +kernel
theorem dX9_loses_0 : decode cX9_loses 0 = .ok (.aload_n 0, 1) := by decide +kernel
theorem dX9_loses_1 : decode cX9_loses 1 = .ok (.getfield 7, 3) := by decide +kernel
theorem dX9_loses_4 : decode cX9_loses 4 = .ok (.iload_n 1, 1) := by decide +kernel
theorem dX9_loses_5 : decode cX9_loses 5 = .ok (.aload_n 0, 1) := by decide +kernel
theorem dX9_loses_6 : decode cX9_loses 6 = .ok (.iload_n 1, 1) := by decide +kernel
theorem dX9_loses_7 : decode cX9_loses 7 = .ok (.iconst 5, 1) := by decide +kernel
theorem dX9_loses_8 : decode cX9_loses 8 = .ok (.invokevirtual 73, 3) := by decide +kernel
theorem dX9_loses_11 : decode cX9_loses 11 = .ok (.iconst 1, 1) := by decide +kernel
theorem dX9_loses_12 : decode cX9_loses 12 = .ok (.if_icmp .ne 7, 3) := by decide +kernel
theorem dX9_loses_15 : decode cX9_loses 15 = .ok (.iconst 0, 1) := by decide +kernel
theorem dX9_loses_16 : decode cX9_loses 16 = .ok (.goto 4, 3) := by decide +kernel
theorem dX9_loses_19 : decode cX9_loses 19 = .ok (.iconst 4, 1) := by decide +kernel
theorem dX9_loses_20 : decode cX9_loses 20 = .ok (.invokestatic 69, 3) := by decide +kernel
theorem dX9_loses_23 : decode cX9_loses 23 = .ok (.iconst 0, 1) := by decide +kernel
theorem dX9_loses_24 : decode cX9_loses 24 = .ok (.iastore, 1) := by decide +kernel
theorem dX9_loses_25 : decode cX9_loses 25 = .ok (.return_, 1) := by decide +kernel
theorem dX9_tickOn_0 : decode cX9_tickOn 0 = .ok (.aload_n 0, 1) := by decide +kernel
theorem dX9_tickOn_1 : decode cX9_tickOn 1 = .ok (.getfield 7, 3) := by decide +kernel
theorem dX9_tickOn_4 : decode cX9_tickOn 4 = .ok (.iconst 0, 1) := by decide +kernel
theorem dX9_tickOn_5 : decode cX9_tickOn 5 = .ok (.dup2, 1) := by decide +kernel
theorem dX9_tickOn_6 : decode cX9_tickOn 6 = .ok (.iaload, 1) := by decide +kernel
theorem dX9_tickOn_7 : decode cX9_tickOn 7 = .ok (.iconst 1, 1) := by decide +kernel
theorem dX9_tickOn_8 : decode cX9_tickOn 8 = .ok (.iadd, 1) := by decide +kernel
theorem dX9_tickOn_9 : decode cX9_tickOn 9 = .ok (.iastore, 1) := by decide +kernel
theorem dX9_tickOn_10 : decode cX9_tickOn 10 = .ok (.iconst 0, 1) := by decide +kernel
theorem dX9_tickOn_11 : decode cX9_tickOn 11 = .ok (.istore_n 1, 1) := by decide +kernel
theorem dX9_tickOn_12 : decode cX9_tickOn 12 = .ok (.iload_n 1, 1) := by decide +kernel
theorem dX9_tickOn_13 : decode cX9_tickOn 13 = .ok (.bipush 10, 2) := by decide +kernel
theorem dX9_tickOn_15 : decode cX9_tickOn 15 = .ok (.if_icmp .ge 37, 3) := by decide +kernel
theorem dX9_tickOn_18 : decode cX9_tickOn 18 = .ok (.aload_n 0, 1) := by decide +kernel
theorem dX9_tickOn_19 : decode cX9_tickOn 19 = .ok (.iload_n 1, 1) := by decide +kernel
theorem dX9_tickOn_20 : decode cX9_tickOn 20 = .ok (.invokevirtual 92, 3) := by decide +kernel
theorem dX9_tickOn_23 : decode cX9_tickOn 23 = .ok (.ifCond .eq 23, 3) := by decide +kernel
theorem dX9_tickOn_26 : decode cX9_tickOn 26 = .ok (.aload_n 0, 1) := by decide +kernel
theorem dX9_tickOn_27 : decode cX9_tickOn 27 = .ok (.iload_n 1, 1) := by decide +kernel
theorem dX9_tickOn_28 : decode cX9_tickOn 28 = .ok (.iconst 3, 1) := by decide +kernel
theorem dX9_tickOn_29 : decode cX9_tickOn 29 = .ok (.invokevirtual 73, 3) := by decide +kernel
theorem dX9_tickOn_32 : decode cX9_tickOn 32 = .ok (.aload_n 0, 1) := by decide +kernel
theorem dX9_tickOn_33 : decode cX9_tickOn 33 = .ok (.getfield 7, 3) := by decide +kernel
theorem dX9_tickOn_36 : decode cX9_tickOn 36 = .ok (.iconst 0, 1) := by decide +kernel
theorem dX9_tickOn_37 : decode cX9_tickOn 37 = .ok (.iaload, 1) := by decide +kernel
theorem dX9_tickOn_38 : decode cX9_tickOn 38 = .ok (.if_icmp .ne 8, 3) := by decide +kernel
theorem dX9_tickOn_41 : decode cX9_tickOn 41 = .ok (.aload_n 0, 1) := by decide +kernel
theorem dX9_tickOn_42 : decode cX9_tickOn 42 = .ok (.iload_n 1, 1) := by decide +kernel
theorem dX9_tickOn_43 : decode cX9_tickOn 43 = .ok (.invokevirtual 129, 3) := by decide +kernel
theorem dX9_tickOn_46 : decode cX9_tickOn 46 = .ok (.iinc 1 1, 3) := by decide +kernel
theorem dX9_tickOn_49 : decode cX9_tickOn 49 = .ok (.goto (-37), 3) := by decide +kernel
theorem dX9_tickOn_52 : decode cX9_tickOn 52 = .ok (.aload_n 0, 1) := by decide +kernel
theorem dX9_tickOn_53 : decode cX9_tickOn 53 = .ok (.invokevirtual 132, 3) := by decide +kernel
theorem dX9_tickOn_56 : decode cX9_tickOn 56 = .ok (.iconst 0, 1) := by decide +kernel
theorem dX9_tickOn_57 : decode cX9_tickOn 57 = .ok (.istore_n 1, 1) := by decide +kernel
theorem dX9_tickOn_58 : decode cX9_tickOn 58 = .ok (.iload_n 1, 1) := by decide +kernel
theorem dX9_tickOn_59 : decode cX9_tickOn 59 = .ok (.bipush 10, 2) := by decide +kernel
theorem dX9_tickOn_61 : decode cX9_tickOn 61 = .ok (.if_icmp .ge 40, 3) := by decide +kernel
theorem dX9_tickOn_64 : decode cX9_tickOn 64 = .ok (.aload_n 0, 1) := by decide +kernel
theorem dX9_tickOn_65 : decode cX9_tickOn 65 = .ok (.getfield 7, 3) := by decide +kernel
theorem dX9_tickOn_68 : decode cX9_tickOn 68 = .ok (.sipush 2695, 3) := by decide +kernel
theorem dX9_tickOn_71 : decode cX9_tickOn 71 = .ok (.aload_n 0, 1) := by decide +kernel
theorem dX9_tickOn_72 : decode cX9_tickOn 72 = .ok (.iload_n 1, 1) := by decide +kernel
theorem dX9_tickOn_73 : decode cX9_tickOn 73 = .ok (.iconst 1, 1) := by decide +kernel
theorem dX9_tickOn_74 : decode cX9_tickOn 74 = .ok (.invokevirtual 73, 3) := by decide +kernel
theorem dX9_tickOn_77 : decode cX9_tickOn 77 = .ok (.iadd, 1) := by decide +kernel
theorem dX9_tickOn_78 : decode cX9_tickOn 78 = .ok (.dup2, 1) := by decide +kernel
theorem dX9_tickOn_79 : decode cX9_tickOn 79 = .ok (.iaload, 1) := by decide +kernel
theorem dX9_tickOn_80 : decode cX9_tickOn 80 = .ok (.aload_n 0, 1) := by decide +kernel
theorem dX9_tickOn_81 : decode cX9_tickOn 81 = .ok (.iload_n 1, 1) := by decide +kernel
theorem dX9_tickOn_82 : decode cX9_tickOn 82 = .ok (.invokevirtual 92, 3) := by decide +kernel
theorem dX9_tickOn_85 : decode cX9_tickOn 85 = .ok (.ifCond .eq 7, 3) := by decide +kernel
theorem dX9_tickOn_88 : decode cX9_tickOn 88 = .ok (.iconst 1, 1) := by decide +kernel
theorem dX9_tickOn_89 : decode cX9_tickOn 89 = .ok (.goto 4, 3) := by decide +kernel
theorem dX9_tickOn_92 : decode cX9_tickOn 92 = .ok (.iconst 0, 1) := by decide +kernel
theorem dX9_tickOn_93 : decode cX9_tickOn 93 = .ok (.iadd, 1) := by decide +kernel
theorem dX9_tickOn_94 : decode cX9_tickOn 94 = .ok (.iastore, 1) := by decide +kernel
theorem dX9_tickOn_95 : decode cX9_tickOn 95 = .ok (.iinc 1 1, 3) := by decide +kernel
theorem dX9_tickOn_98 : decode cX9_tickOn 98 = .ok (.goto (-40), 3) := by decide +kernel
theorem dX9_tickOn_101 : decode cX9_tickOn 101 = .ok (.return_, 1) := by decide +kernel
theorem dX9_enters_0 : decode cX9_enters 0 = .ok (.aload_n 0, 1) := by decide +kernel
theorem dX9_enters_1 : decode cX9_enters 1 = .ok (.getfield 7, 3) := by decide +kernel
theorem dX9_enters_4 : decode cX9_enters 4 = .ok (.sipush 2701, 3) := by decide +kernel
theorem dX9_enters_7 : decode cX9_enters 7 = .ok (.iaload, 1) := by decide +kernel
theorem dX9_enters_8 : decode cX9_enters 8 = .ok (.sipush 150, 3) := by decide +kernel
theorem dX9_enters_11 : decode cX9_enters 11 = .ok (.if_icmp .ne 57, 3) := by decide +kernel
theorem dX9_enters_14 : decode cX9_enters 14 = .ok (.iconst 0, 1) := by decide +kernel
theorem dX9_enters_15 : decode cX9_enters 15 = .ok (.istore 6, 2) := by decide +kernel
theorem dX9_enters_17 : decode cX9_enters 17 = .ok (.iload 6, 2) := by decide +kernel
theorem dX9_enters_19 : decode cX9_enters 19 = .ok (.sipush 894, 3) := by decide +kernel
theorem dX9_enters_22 : decode cX9_enters 22 = .ok (.if_icmp .ge 34, 3) := by decide +kernel
theorem dX9_enters_25 : decode cX9_enters 25 = .ok (.aload_n 0, 1) := by decide +kernel
theorem dX9_enters_26 : decode cX9_enters 26 = .ok (.getfield 7, 3) := by decide +kernel
theorem dX9_enters_29 : decode cX9_enters 29 = .ok (.sipush 2702, 3) := by decide +kernel
theorem dX9_enters_32 : decode cX9_enters 32 = .ok (.iload 6, 2) := by decide +kernel
theorem dX9_enters_34 : decode cX9_enters 34 = .ok (.iadd, 1) := by decide +kernel
theorem dX9_enters_35 : decode cX9_enters 35 = .ok (.aload_n 0, 1) := by decide +kernel
theorem dX9_enters_36 : decode cX9_enters 36 = .ok (.getfield 7, 3) := by decide +kernel
theorem dX9_enters_39 : decode cX9_enters 39 = .ok (.sipush 2702, 3) := by decide +kernel
theorem dX9_enters_42 : decode cX9_enters 42 = .ok (.iload 6, 2) := by decide +kernel
theorem dX9_enters_44 : decode cX9_enters 44 = .ok (.iadd, 1) := by decide +kernel
theorem dX9_enters_45 : decode cX9_enters 45 = .ok (.bipush 6, 2) := by decide +kernel
theorem dX9_enters_47 : decode cX9_enters 47 = .ok (.iadd, 1) := by decide +kernel
theorem dX9_enters_48 : decode cX9_enters 48 = .ok (.iaload, 1) := by decide +kernel
theorem dX9_enters_49 : decode cX9_enters 49 = .ok (.iastore, 1) := by decide +kernel
theorem dX9_enters_50 : decode cX9_enters 50 = .ok (.iinc 6 1, 3) := by decide +kernel
theorem dX9_enters_53 : decode cX9_enters 53 = .ok (.goto (-36), 3) := by decide +kernel
theorem dX9_enters_56 : decode cX9_enters 56 = .ok (.aload_n 0, 1) := by decide +kernel
theorem dX9_enters_57 : decode cX9_enters 57 = .ok (.getfield 7, 3) := by decide +kernel
theorem dX9_enters_60 : decode cX9_enters 60 = .ok (.sipush 2701, 3) := by decide +kernel
theorem dX9_enters_63 : decode cX9_enters 63 = .ok (.dup2, 1) := by decide +kernel
theorem dX9_enters_64 : decode cX9_enters 64 = .ok (.iaload, 1) := by decide +kernel
theorem dX9_enters_65 : decode cX9_enters 65 = .ok (.iconst 1, 1) := by decide +kernel
theorem dX9_enters_66 : decode cX9_enters 66 = .ok (.isub, 1) := by decide +kernel
theorem dX9_enters_67 : decode cX9_enters 67 = .ok (.iastore, 1) := by decide +kernel
theorem dX9_enters_68 : decode cX9_enters 68 = .ok (.sipush 2702, 3) := by decide +kernel
theorem dX9_enters_71 : decode cX9_enters 71 = .ok (.bipush 6, 2) := by decide +kernel
theorem dX9_enters_73 : decode cX9_enters 73 = .ok (.aload_n 0, 1) := by decide +kernel
theorem dX9_enters_74 : decode cX9_enters 74 = .ok (.getfield 7, 3) := by decide +kernel
theorem dX9_enters_77 : decode cX9_enters 77 = .ok (.sipush 2701, 3) := by decide +kernel
theorem dX9_enters_80 : decode cX9_enters 80 = .ok (.iaload, 1) := by decide +kernel
theorem dX9_enters_81 : decode cX9_enters 81 = .ok (.imul, 1) := by decide +kernel
theorem dX9_enters_82 : decode cX9_enters 82 = .ok (.iadd, 1) := by decide +kernel
theorem dX9_enters_83 : decode cX9_enters 83 = .ok (.istore 6, 2) := by decide +kernel
theorem dX9_enters_85 : decode cX9_enters 85 = .ok (.aload_n 0, 1) := by decide +kernel
theorem dX9_enters_86 : decode cX9_enters 86 = .ok (.getfield 7, 3) := by decide +kernel
theorem dX9_enters_89 : decode cX9_enters 89 = .ok (.iload 6, 2) := by decide +kernel
theorem dX9_enters_91 : decode cX9_enters 91 = .ok (.aload_n 0, 1) := by decide +kernel
theorem dX9_enters_92 : decode cX9_enters 92 = .ok (.getfield 7, 3) := by decide +kernel
theorem dX9_enters_95 : decode cX9_enters 95 = .ok (.iconst 0, 1) := by decide +kernel
theorem dX9_enters_96 : decode cX9_enters 96 = .ok (.iaload, 1) := by decide +kernel
theorem dX9_enters_97 : decode cX9_enters 97 = .ok (.iastore, 1) := by decide +kernel
theorem dX9_enters_98 : decode cX9_enters 98 = .ok (.aload_n 0, 1) := by decide +kernel
theorem dX9_enters_99 : decode cX9_enters 99 = .ok (.getfield 7, 3) := by decide +kernel
theorem dX9_enters_102 : decode cX9_enters 102 = .ok (.iload 6, 2) := by decide +kernel
theorem dX9_enters_104 : decode cX9_enters 104 = .ok (.iconst 1, 1) := by decide +kernel
theorem dX9_enters_105 : decode cX9_enters 105 = .ok (.iadd, 1) := by decide +kernel
theorem dX9_enters_106 : decode cX9_enters 106 = .ok (.iload_n 1, 1) := by decide +kernel
theorem dX9_enters_107 : decode cX9_enters 107 = .ok (.iastore, 1) := by decide +kernel
theorem dX9_enters_108 : decode cX9_enters 108 = .ok (.aload_n 0, 1) := by decide +kernel
theorem dX9_enters_109 : decode cX9_enters 109 = .ok (.getfield 7, 3) := by decide +kernel
theorem dX9_enters_112 : decode cX9_enters 112 = .ok (.iload 6, 2) := by decide +kernel
theorem dX9_enters_114 : decode cX9_enters 114 = .ok (.iconst 2, 1) := by decide +kernel
theorem dX9_enters_115 : decode cX9_enters 115 = .ok (.iadd, 1) := by decide +kernel
theorem dX9_enters_116 : decode cX9_enters 116 = .ok (.iload_n 2, 1) := by decide +kernel
theorem dX9_enters_117 : decode cX9_enters 117 = .ok (.iastore, 1) := by decide +kernel
theorem dX9_enters_118 : decode cX9_enters 118 = .ok (.aload_n 0, 1) := by decide +kernel
theorem dX9_enters_119 : decode cX9_enters 119 = .ok (.getfield 7, 3) := by decide +kernel
theorem dX9_enters_122 : decode cX9_enters 122 = .ok (.iload 6, 2) := by decide +kernel
theorem dX9_enters_124 : decode cX9_enters 124 = .ok (.iconst 3, 1) := by decide +kernel
theorem dX9_enters_125 : decode cX9_enters 125 = .ok (.iadd, 1) := by decide +kernel
theorem dX9_enters_126 : decode cX9_enters 126 = .ok (.iload_n 3, 1) := by decide +kernel
theorem dX9_enters_127 : decode cX9_enters 127 = .ok (.iastore, 1) := by decide +kernel
theorem dX9_enters_128 : decode cX9_enters 128 = .ok (.aload_n 0, 1) := by decide +kernel
theorem dX9_enters_129 : decode cX9_enters 129 = .ok (.getfield 7, 3) := by decide +kernel
theorem dX9_enters_132 : decode cX9_enters 132 = .ok (.iload 6, 2) := by decide +kernel
theorem dX9_enters_134 : decode cX9_enters 134 = .ok (.iconst 4, 1) := by decide +kernel
theorem dX9_enters_135 : decode cX9_enters 135 = .ok (.iadd, 1) := by decide +kernel
theorem dX9_enters_136 : decode cX9_enters 136 = .ok (.iload 4, 2) := by decide +kernel
theorem dX9_enters_138 : decode cX9_enters 138 = .ok (.iastore, 1) := by decide +kernel
theorem dX9_enters_139 : decode cX9_enters 139 = .ok (.aload_n 0, 1) := by decide +kernel
theorem dX9_enters_140 : decode cX9_enters 140 = .ok (.getfield 7, 3) := by decide +kernel
theorem dX9_enters_143 : decode cX9_enters 143 = .ok (.iload 6, 2) := by decide +kernel
theorem dX9_enters_145 : decode cX9_enters 145 = .ok (.iconst 5, 1) := by decide +kernel
theorem dX9_enters_146 : decode cX9_enters 146 = .ok (.iadd, 1) := by decide +kernel
theorem dX9_enters_147 : decode cX9_enters 147 = .ok (.iload 5, 2) := by decide +kernel
theorem dX9_enters_149 : decode cX9_enters 149 = .ok (.iastore, 1) := by decide +kernel
theorem dX9_enters_150 : decode cX9_enters 150 = .ok (.aload_n 0, 1) := by decide +kernel
theorem dX9_enters_151 : decode cX9_enters 151 = .ok (.getfield 7, 3) := by decide +kernel
theorem dX9_enters_154 : decode cX9_enters 154 = .ok (.sipush 2701, 3) := by decide +kernel
theorem dX9_enters_157 : decode cX9_enters 157 = .ok (.dup2, 1) := by decide +kernel
theorem dX9_enters_158 : decode cX9_enters 158 = .ok (.iaload, 1) := by decide +kernel
theorem dX9_enters_159 : decode cX9_enters 159 = .ok (.iconst 1, 1) := by decide +kernel
theorem dX9_enters_160 : decode cX9_enters 160 = .ok (.iadd, 1) := by decide +kernel
theorem dX9_enters_161 : decode cX9_enters 161 = .ok (.iastore, 1) := by decide +kernel
theorem dX9_enters_162 : decode cX9_enters 162 = .ok (.return_, 1) := by decide +kernel
theorem dX9_laysThen_0 : decode cX9_laysThen 0 = .ok (.iconst 0, 1) := by decide +kernel
theorem dX9_laysThen_1 : decode cX9_laysThen 1 = .ok (.istore_n 1, 1) := by decide +kernel
theorem dX9_laysThen_2 : decode cX9_laysThen 2 = .ok (.iload_n 1, 1) := by decide +kernel
theorem dX9_laysThen_3 : decode cX9_laysThen 3 = .ok (.bipush 120, 2) := by decide +kernel
theorem dX9_laysThen_5 : decode cX9_laysThen 5 = .ok (.if_icmp .ge 24, 3) := by decide +kernel
theorem dX9_laysThen_8 : decode cX9_laysThen 8 = .ok (.aload_n 0, 1) := by decide +kernel
theorem dX9_laysThen_9 : decode cX9_laysThen 9 = .ok (.getfield 25, 3) := by decide +kernel
theorem dX9_laysThen_12 : decode cX9_laysThen 12 = .ok (.iload_n 1, 1) := by decide +kernel
theorem dX9_laysThen_13 : decode cX9_laysThen 13 = .ok (.aload_n 0, 1) := by decide +kernel
theorem dX9_laysThen_14 : decode cX9_laysThen 14 = .ok (.getfield 7, 3) := by decide +kernel
theorem dX9_laysThen_17 : decode cX9_laysThen 17 = .ok (.bipush 82, 2) := by decide +kernel
theorem dX9_laysThen_19 : decode cX9_laysThen 19 = .ok (.iload_n 1, 1) := by decide +kernel
theorem dX9_laysThen_20 : decode cX9_laysThen 20 = .ok (.iadd, 1) := by decide +kernel
theorem dX9_laysThen_21 : decode cX9_laysThen 21 = .ok (.iaload, 1) := by decide +kernel
theorem dX9_laysThen_22 : decode cX9_laysThen 22 = .ok (.iastore, 1) := by decide +kernel
theorem dX9_laysThen_23 : decode cX9_laysThen 23 = .ok (.iinc 1 1, 3) := by decide +kernel
theorem dX9_laysThen_26 : decode cX9_laysThen 26 = .ok (.goto (-24), 3) := by decide +kernel
theorem dX9_laysThen_29 : decode cX9_laysThen 29 = .ok (.return_, 1) := by decide +kernel
theorem dX9_becomes_0 : decode cX9_becomes 0 = .ok (.iconst 0, 1) := by decide +kernel
theorem dX9_becomes_1 : decode cX9_becomes 1 = .ok (.istore_n 2, 1) := by decide +kernel
theorem dX9_becomes_2 : decode cX9_becomes 2 = .ok (.iconst 0, 1) := by decide +kernel
theorem dX9_becomes_3 : decode cX9_becomes 3 = .ok (.istore_n 3, 1) := by decide +kernel
theorem dX9_becomes_4 : decode cX9_becomes 4 = .ok (.iload_n 3, 1) := by decide +kernel
theorem dX9_becomes_5 : decode cX9_becomes 5 = .ok (.bipush 20, 2) := by decide +kernel
theorem dX9_becomes_7 : decode cX9_becomes 7 = .ok (.if_icmp .ge 134, 3) := by decide +kernel
theorem dX9_becomes_10 : decode cX9_becomes 10 = .ok (.iload_n 2, 1) := by decide +kernel
theorem dX9_becomes_11 : decode cX9_becomes 11 = .ok (.istore 4, 2) := by decide +kernel
theorem dX9_becomes_13 : decode cX9_becomes 13 = .ok (.iconst 0, 1) := by decide +kernel
theorem dX9_becomes_14 : decode cX9_becomes 14 = .ok (.istore 5, 2) := by decide +kernel
theorem dX9_becomes_16 : decode cX9_becomes 16 = .ok (.iload 5, 2) := by decide +kernel
theorem dX9_becomes_18 : decode cX9_becomes 18 = .ok (.bipush 6, 2) := by decide +kernel
theorem dX9_becomes_20 : decode cX9_becomes 20 = .ok (.if_icmp .ge 92, 3) := by decide +kernel
theorem dX9_becomes_23 : decode cX9_becomes 23 = .ok (.bipush 82, 2) := by decide +kernel
theorem dX9_becomes_25 : decode cX9_becomes 25 = .ok (.bipush 6, 2) := by decide +kernel
theorem dX9_becomes_27 : decode cX9_becomes 27 = .ok (.iload_n 3, 1) := by decide +kernel
theorem dX9_becomes_28 : decode cX9_becomes 28 = .ok (.imul, 1) := by decide +kernel
theorem dX9_becomes_29 : decode cX9_becomes 29 = .ok (.iadd, 1) := by decide +kernel
theorem dX9_becomes_30 : decode cX9_becomes 30 = .ok (.iload 5, 2) := by decide +kernel
theorem dX9_becomes_32 : decode cX9_becomes 32 = .ok (.iadd, 1) := by decide +kernel
theorem dX9_becomes_33 : decode cX9_becomes 33 = .ok (.istore 6, 2) := by decide +kernel
theorem dX9_becomes_35 : decode cX9_becomes 35 = .ok (.aload_n 0, 1) := by decide +kernel
theorem dX9_becomes_36 : decode cX9_becomes 36 = .ok (.getfield 7, 3) := by decide +kernel
theorem dX9_becomes_39 : decode cX9_becomes 39 = .ok (.iload 6, 2) := by decide +kernel
theorem dX9_becomes_41 : decode cX9_becomes 41 = .ok (.iaload, 1) := by decide +kernel
theorem dX9_becomes_42 : decode cX9_becomes 42 = .ok (.aload_n 0, 1) := by decide +kernel
theorem dX9_becomes_43 : decode cX9_becomes 43 = .ok (.getfield 25, 3) := by decide +kernel
theorem dX9_becomes_46 : decode cX9_becomes 46 = .ok (.bipush 6, 2) := by decide +kernel
theorem dX9_becomes_48 : decode cX9_becomes 48 = .ok (.iload_n 3, 1) := by decide +kernel
theorem dX9_becomes_49 : decode cX9_becomes 49 = .ok (.imul, 1) := by decide +kernel
theorem dX9_becomes_50 : decode cX9_becomes 50 = .ok (.iload 5, 2) := by decide +kernel
theorem dX9_becomes_52 : decode cX9_becomes 52 = .ok (.iadd, 1) := by decide +kernel
theorem dX9_becomes_53 : decode cX9_becomes 53 = .ok (.iaload, 1) := by decide +kernel
theorem dX9_becomes_54 : decode cX9_becomes 54 = .ok (.if_icmp .eq 52, 3) := by decide +kernel
theorem dX9_becomes_57 : decode cX9_becomes 57 = .ok (.aload_n 0, 1) := by decide +kernel
theorem dX9_becomes_58 : decode cX9_becomes 58 = .ok (.iload_n 3, 1) := by decide +kernel
theorem dX9_becomes_59 : decode cX9_becomes 59 = .ok (.iload 5, 2) := by decide +kernel
theorem dX9_becomes_61 : decode cX9_becomes 61 = .ok (.aload_n 0, 1) := by decide +kernel
theorem dX9_becomes_62 : decode cX9_becomes 62 = .ok (.getfield 7, 3) := by decide +kernel
theorem dX9_becomes_65 : decode cX9_becomes 65 = .ok (.iload 6, 2) := by decide +kernel
theorem dX9_becomes_67 : decode cX9_becomes 67 = .ok (.iaload, 1) := by decide +kernel
theorem dX9_becomes_68 : decode cX9_becomes 68 = .ok (.aload_n 0, 1) := by decide +kernel
theorem dX9_becomes_69 : decode cX9_becomes 69 = .ok (.getfield 25, 3) := by decide +kernel
theorem dX9_becomes_72 : decode cX9_becomes 72 = .ok (.bipush 6, 2) := by decide +kernel
theorem dX9_becomes_74 : decode cX9_becomes 74 = .ok (.iload_n 3, 1) := by decide +kernel
theorem dX9_becomes_75 : decode cX9_becomes 75 = .ok (.imul, 1) := by decide +kernel
theorem dX9_becomes_76 : decode cX9_becomes 76 = .ok (.iload 5, 2) := by decide +kernel
theorem dX9_becomes_78 : decode cX9_becomes 78 = .ok (.iadd, 1) := by decide +kernel
theorem dX9_becomes_79 : decode cX9_becomes 79 = .ok (.iaload, 1) := by decide +kernel
theorem dX9_becomes_80 : decode cX9_becomes 80 = .ok (.iload_n 1, 1) := by decide +kernel
theorem dX9_becomes_81 : decode cX9_becomes 81 = .ok (.invokevirtual 135, 3) := by decide +kernel
theorem dX9_becomes_84 : decode cX9_becomes 84 = .ok (.aload_n 0, 1) := by decide +kernel
theorem dX9_becomes_85 : decode cX9_becomes 85 = .ok (.getfield 7, 3) := by decide +kernel
theorem dX9_becomes_88 : decode cX9_becomes 88 = .ok (.iload 6, 2) := by decide +kernel
theorem dX9_becomes_90 : decode cX9_becomes 90 = .ok (.aload_n 0, 1) := by decide +kernel
theorem dX9_becomes_91 : decode cX9_becomes 91 = .ok (.getfield 25, 3) := by decide +kernel
theorem dX9_becomes_94 : decode cX9_becomes 94 = .ok (.bipush 6, 2) := by decide +kernel
theorem dX9_becomes_96 : decode cX9_becomes 96 = .ok (.iload_n 3, 1) := by decide +kernel
theorem dX9_becomes_97 : decode cX9_becomes 97 = .ok (.imul, 1) := by decide +kernel
theorem dX9_becomes_98 : decode cX9_becomes 98 = .ok (.iload 5, 2) := by decide +kernel
theorem dX9_becomes_100 : decode cX9_becomes 100 = .ok (.iadd, 1) := by decide +kernel
theorem dX9_becomes_101 : decode cX9_becomes 101 = .ok (.iaload, 1) := by decide +kernel
theorem dX9_becomes_102 : decode cX9_becomes 102 = .ok (.iastore, 1) := by decide +kernel
theorem dX9_becomes_103 : decode cX9_becomes 103 = .ok (.iinc 2 1, 3) := by decide +kernel
theorem dX9_becomes_106 : decode cX9_becomes 106 = .ok (.iinc 5 1, 3) := by decide +kernel
theorem dX9_becomes_109 : decode cX9_becomes 109 = .ok (.goto (-93), 3) := by decide +kernel
theorem dX9_becomes_112 : decode cX9_becomes 112 = .ok (.aload_n 0, 1) := by decide +kernel
theorem dX9_becomes_113 : decode cX9_becomes 113 = .ok (.getfield 7, 3) := by decide +kernel
theorem dX9_becomes_116 : decode cX9_becomes 116 = .ok (.bipush 62, 2) := by decide +kernel
theorem dX9_becomes_118 : decode cX9_becomes 118 = .ok (.iload_n 3, 1) := by decide +kernel
theorem dX9_becomes_119 : decode cX9_becomes 119 = .ok (.iadd, 1) := by decide +kernel
theorem dX9_becomes_120 : decode cX9_becomes 120 = .ok (.dup2, 1) := by decide +kernel
theorem dX9_becomes_121 : decode cX9_becomes 121 = .ok (.iaload, 1) := by decide +kernel
theorem dX9_becomes_122 : decode cX9_becomes 122 = .ok (.iload_n 2, 1) := by decide +kernel
theorem dX9_becomes_123 : decode cX9_becomes 123 = .ok (.iload 4, 2) := by decide +kernel
theorem dX9_becomes_125 : decode cX9_becomes 125 = .ok (.if_icmp .le 7, 3) := by decide +kernel
theorem dX9_becomes_128 : decode cX9_becomes 128 = .ok (.iconst 1, 1) := by decide +kernel
theorem dX9_becomes_129 : decode cX9_becomes 129 = .ok (.goto 4, 3) := by decide +kernel
theorem dX9_becomes_132 : decode cX9_becomes 132 = .ok (.iconst 0, 1) := by decide +kernel
theorem dX9_becomes_133 : decode cX9_becomes 133 = .ok (.iadd, 1) := by decide +kernel
theorem dX9_becomes_134 : decode cX9_becomes 134 = .ok (.iastore, 1) := by decide +kernel
theorem dX9_becomes_135 : decode cX9_becomes 135 = .ok (.iinc 3 1, 3) := by decide +kernel
theorem dX9_becomes_138 : decode cX9_becomes 138 = .ok (.goto (-134), 3) := by decide +kernel
theorem dX9_becomes_141 : decode cX9_becomes 141 = .ok (.iload_n 2, 1) := by decide +kernel
theorem dX9_becomes_142 : decode cX9_becomes 142 = .ok (.ireturn, 1) := by decide +kernel
theorem dX9_was_0 : decode cX9_was 0 = .ok (.iconst 0, 1) := by decide +kernel
theorem dX9_was_1 : decode cX9_was 1 = .ok (.istore 4, 2) := by decide +kernel
theorem dX9_was_3 : decode cX9_was 3 = .ok (.iload 4, 2) := by decide +kernel
theorem dX9_was_5 : decode cX9_was 5 = .ok (.aload_n 0, 1) := by decide +kernel
theorem dX9_was_6 : decode cX9_was 6 = .ok (.getfield 7, 3) := by decide +kernel
theorem dX9_was_9 : decode cX9_was 9 = .ok (.sipush 2701, 3) := by decide +kernel
theorem dX9_was_12 : decode cX9_was 12 = .ok (.iaload, 1) := by decide +kernel
theorem dX9_was_13 : decode cX9_was 13 = .ok (.if_icmp .ge 67, 3) := by decide +kernel
theorem dX9_was_16 : decode cX9_was 16 = .ok (.sipush 2702, 3) := by decide +kernel
theorem dX9_was_19 : decode cX9_was 19 = .ok (.bipush 6, 2) := by decide +kernel
theorem dX9_was_21 : decode cX9_was 21 = .ok (.iload 4, 2) := by decide +kernel
theorem dX9_was_23 : decode cX9_was 23 = .ok (.imul, 1) := by decide +kernel
theorem dX9_was_24 : decode cX9_was 24 = .ok (.iadd, 1) := by decide +kernel
theorem dX9_was_25 : decode cX9_was 25 = .ok (.istore 5, 2) := by decide +kernel
theorem dX9_was_27 : decode cX9_was 27 = .ok (.aload_n 0, 1) := by decide +kernel
theorem dX9_was_28 : decode cX9_was 28 = .ok (.getfield 7, 3) := by decide +kernel
theorem dX9_was_31 : decode cX9_was 31 = .ok (.iload 5, 2) := by decide +kernel
theorem dX9_was_33 : decode cX9_was 33 = .ok (.iaload, 1) := by decide +kernel
theorem dX9_was_34 : decode cX9_was 34 = .ok (.iload_n 3, 1) := by decide +kernel
theorem dX9_was_35 : decode cX9_was 35 = .ok (.if_icmp .le 39, 3) := by decide +kernel
theorem dX9_was_38 : decode cX9_was 38 = .ok (.aload_n 0, 1) := by decide +kernel
theorem dX9_was_39 : decode cX9_was 39 = .ok (.getfield 7, 3) := by decide +kernel
theorem dX9_was_42 : decode cX9_was 42 = .ok (.iload 5, 2) := by decide +kernel
theorem dX9_was_44 : decode cX9_was 44 = .ok (.iconst 1, 1) := by decide +kernel
theorem dX9_was_45 : decode cX9_was 45 = .ok (.iadd, 1) := by decide +kernel
theorem dX9_was_46 : decode cX9_was 46 = .ok (.iaload, 1) := by decide +kernel
theorem dX9_was_47 : decode cX9_was 47 = .ok (.iload_n 1, 1) := by decide +kernel
theorem dX9_was_48 : decode cX9_was 48 = .ok (.if_icmp .ne 26, 3) := by decide +kernel
theorem dX9_was_51 : decode cX9_was 51 = .ok (.aload_n 0, 1) := by decide +kernel
theorem dX9_was_52 : decode cX9_was 52 = .ok (.getfield 7, 3) := by decide +kernel
theorem dX9_was_55 : decode cX9_was 55 = .ok (.iload 5, 2) := by decide +kernel
theorem dX9_was_57 : decode cX9_was 57 = .ok (.iconst 2, 1) := by decide +kernel
theorem dX9_was_58 : decode cX9_was 58 = .ok (.iadd, 1) := by decide +kernel
theorem dX9_was_59 : decode cX9_was 59 = .ok (.iaload, 1) := by decide +kernel
theorem dX9_was_60 : decode cX9_was 60 = .ok (.iload_n 2, 1) := by decide +kernel
theorem dX9_was_61 : decode cX9_was 61 = .ok (.if_icmp .ne 13, 3) := by decide +kernel
theorem dX9_was_64 : decode cX9_was 64 = .ok (.aload_n 0, 1) := by decide +kernel
theorem dX9_was_65 : decode cX9_was 65 = .ok (.getfield 7, 3) := by decide +kernel
theorem dX9_was_68 : decode cX9_was 68 = .ok (.iload 5, 2) := by decide +kernel
theorem dX9_was_70 : decode cX9_was 70 = .ok (.iconst 3, 1) := by decide +kernel
theorem dX9_was_71 : decode cX9_was 71 = .ok (.iadd, 1) := by decide +kernel
theorem dX9_was_72 : decode cX9_was 72 = .ok (.iaload, 1) := by decide +kernel
theorem dX9_was_73 : decode cX9_was 73 = .ok (.ireturn, 1) := by decide +kernel
theorem dX9_was_74 : decode cX9_was 74 = .ok (.iinc 4 1, 3) := by decide +kernel
theorem dX9_was_77 : decode cX9_was 77 = .ok (.goto (-74), 3) := by decide +kernel
theorem dX9_was_80 : decode cX9_was 80 = .ok (.aload_n 0, 1) := by decide +kernel
theorem dX9_was_81 : decode cX9_was 81 = .ok (.getfield 7, 3) := by decide +kernel
theorem dX9_was_84 : decode cX9_was 84 = .ok (.bipush 82, 2) := by decide +kernel
theorem dX9_was_86 : decode cX9_was 86 = .ok (.bipush 6, 2) := by decide +kernel
theorem dX9_was_88 : decode cX9_was 88 = .ok (.iload_n 1, 1) := by decide +kernel
theorem dX9_was_89 : decode cX9_was 89 = .ok (.imul, 1) := by decide +kernel
theorem dX9_was_90 : decode cX9_was 90 = .ok (.iadd, 1) := by decide +kernel
theorem dX9_was_91 : decode cX9_was 91 = .ok (.iload_n 2, 1) := by decide +kernel
theorem dX9_was_92 : decode cX9_was 92 = .ok (.iadd, 1) := by decide +kernel
theorem dX9_was_93 : decode cX9_was 93 = .ok (.iaload, 1) := by decide +kernel
theorem dX9_was_94 : decode cX9_was 94 = .ok (.ireturn, 1) := by decide +kernel
theorem dX9_addSection_0 : decode cX9_addSection 0 = .ok (.aload_n 0, 1) := by decide +kernel
theorem dX9_addSection_1 : decode cX9_addSection 1 = .ok (.aload_n 0, 1) := by decide +kernel
theorem dX9_addSection_2 : decode cX9_addSection 2 = .ok (.iload_n 1, 1) := by decide +kernel
theorem dX9_addSection_3 : decode cX9_addSection 3 = .ok (.invokevirtual 102, 3) := by decide +kernel
theorem dX9_addSection_6 : decode cX9_addSection 6 = .ok (.ifCond .ne 7, 3) := by decide +kernel
theorem dX9_addSection_9 : decode cX9_addSection 9 = .ok (.iconst 1, 1) := by decide +kernel
theorem dX9_addSection_10 : decode cX9_addSection 10 = .ok (.goto 25, 3) := by decide +kernel
theorem dX9_addSection_13 : decode cX9_addSection 13 = .ok (.aload_n 0, 1) := by decide +kernel
theorem dX9_addSection_14 : decode cX9_addSection 14 = .ok (.invokevirtual 139, 3) := by decide +kernel
theorem dX9_addSection_17 : decode cX9_addSection 17 = .ok (.bipush 20, 2) := by decide +kernel
theorem dX9_addSection_19 : decode cX9_addSection 19 = .ok (.if_icmp .eq 11, 3) := by decide +kernel
theorem dX9_addSection_22 : decode cX9_addSection 22 = .ok (.aload_n 0, 1) := by decide +kernel
theorem dX9_addSection_23 : decode cX9_addSection 23 = .ok (.iload_n 1, 1) := by decide +kernel
theorem dX9_addSection_24 : decode cX9_addSection 24 = .ok (.invokevirtual 142, 3) := by decide +kernel
theorem dX9_addSection_27 : decode cX9_addSection 27 = .ok (.ifCond .eq 7, 3) := by decide +kernel
theorem dX9_addSection_30 : decode cX9_addSection 30 = .ok (.iconst 2, 1) := by decide +kernel
theorem dX9_addSection_31 : decode cX9_addSection 31 = .ok (.goto 4, 3) := by decide +kernel
theorem dX9_addSection_34 : decode cX9_addSection 34 = .ok (.iconst 0, 1) := by decide +kernel
theorem dX9_addSection_35 : decode cX9_addSection 35 = .ok (.invokevirtual 54, 3) := by decide +kernel
theorem dX9_addSection_38 : decode cX9_addSection 38 = .ok (.ifCond .eq 5, 3) := by decide +kernel
theorem dX9_addSection_41 : decode cX9_addSection 41 = .ok (.iconst 0, 1) := by decide +kernel
theorem dX9_addSection_42 : decode cX9_addSection 42 = .ok (.ireturn, 1) := by decide +kernel
theorem dX9_addSection_43 : decode cX9_addSection 43 = .ok (.aload_n 0, 1) := by decide +kernel
theorem dX9_addSection_44 : decode cX9_addSection 44 = .ok (.invokevirtual 145, 3) := by decide +kernel
theorem dX9_addSection_47 : decode cX9_addSection 47 = .ok (.iconst 0, 1) := by decide +kernel
theorem dX9_addSection_48 : decode cX9_addSection 48 = .ok (.istore_n 2, 1) := by decide +kernel
theorem dX9_addSection_49 : decode cX9_addSection 49 = .ok (.aload_n 0, 1) := by decide +kernel
theorem dX9_addSection_50 : decode cX9_addSection 50 = .ok (.getfield 7, 3) := by decide +kernel
theorem dX9_addSection_53 : decode cX9_addSection 53 = .ok (.iconst 2, 1) := by decide +kernel
theorem dX9_addSection_54 : decode cX9_addSection 54 = .ok (.iload_n 2, 1) := by decide +kernel
theorem dX9_addSection_55 : decode cX9_addSection 55 = .ok (.iadd, 1) := by decide +kernel
theorem dX9_addSection_56 : decode cX9_addSection 56 = .ok (.iaload, 1) := by decide +kernel
theorem dX9_addSection_57 : decode cX9_addSection 57 = .ok (.iconst 1, 1) := by decide +kernel
theorem dX9_addSection_58 : decode cX9_addSection 58 = .ok (.if_icmp .ne 9, 3) := by decide +kernel
theorem dX9_addSection_61 : decode cX9_addSection 61 = .ok (.iinc 2 1, 3) := by decide +kernel
theorem dX9_addSection_64 : decode cX9_addSection 64 = .ok (.goto (-15), 3) := by decide +kernel
theorem dX9_addSection_67 : decode cX9_addSection 67 = .ok (.aload_n 0, 1) := by decide +kernel
theorem dX9_addSection_68 : decode cX9_addSection 68 = .ok (.getfield 7, 3) := by decide +kernel
theorem dX9_addSection_71 : decode cX9_addSection 71 = .ok (.iconst 2, 1) := by decide +kernel
theorem dX9_addSection_72 : decode cX9_addSection 72 = .ok (.iload_n 2, 1) := by decide +kernel
theorem dX9_addSection_73 : decode cX9_addSection 73 = .ok (.iadd, 1) := by decide +kernel
theorem dX9_addSection_74 : decode cX9_addSection 74 = .ok (.iconst 1, 1) := by decide +kernel
theorem dX9_addSection_75 : decode cX9_addSection 75 = .ok (.iastore, 1) := by decide +kernel
theorem dX9_addSection_76 : decode cX9_addSection 76 = .ok (.aload_n 0, 1) := by decide +kernel
theorem dX9_addSection_77 : decode cX9_addSection 77 = .ok (.getfield 7, 3) := by decide +kernel
theorem dX9_addSection_80 : decode cX9_addSection 80 = .ok (.bipush 22, 2) := by decide +kernel
theorem dX9_addSection_82 : decode cX9_addSection 82 = .ok (.iload_n 2, 1) := by decide +kernel
theorem dX9_addSection_83 : decode cX9_addSection 83 = .ok (.iadd, 1) := by decide +kernel
theorem dX9_addSection_84 : decode cX9_addSection 84 = .ok (.iload_n 1, 1) := by decide +kernel
theorem dX9_addSection_85 : decode cX9_addSection 85 = .ok (.iastore, 1) := by decide +kernel
theorem dX9_addSection_86 : decode cX9_addSection 86 = .ok (.aload_n 0, 1) := by decide +kernel
theorem dX9_addSection_87 : decode cX9_addSection 87 = .ok (.getfield 7, 3) := by decide +kernel
theorem dX9_addSection_90 : decode cX9_addSection 90 = .ok (.bipush 42, 2) := by decide +kernel
theorem dX9_addSection_92 : decode cX9_addSection 92 = .ok (.iload_n 2, 1) := by decide +kernel
theorem dX9_addSection_93 : decode cX9_addSection 93 = .ok (.iadd, 1) := by decide +kernel
theorem dX9_addSection_94 : decode cX9_addSection 94 = .ok (.aload_n 0, 1) := by decide +kernel
theorem dX9_addSection_95 : decode cX9_addSection 95 = .ok (.getfield 7, 3) := by decide +kernel
theorem dX9_addSection_98 : decode cX9_addSection 98 = .ok (.iconst 1, 1) := by decide +kernel
theorem dX9_addSection_99 : decode cX9_addSection 99 = .ok (.iaload, 1) := by decide +kernel
theorem dX9_addSection_100 : decode cX9_addSection 100 = .ok (.iastore, 1) := by decide +kernel
theorem dX9_addSection_101 : decode cX9_addSection 101 = .ok (.aload_n 0, 1) := by decide +kernel
theorem dX9_addSection_102 : decode cX9_addSection 102 = .ok (.getfield 7, 3) := by decide +kernel
theorem dX9_addSection_105 : decode cX9_addSection 105 = .ok (.iconst 1, 1) := by decide +kernel
theorem dX9_addSection_106 : decode cX9_addSection 106 = .ok (.dup2, 1) := by decide +kernel
theorem dX9_addSection_107 : decode cX9_addSection 107 = .ok (.iaload, 1) := by decide +kernel
theorem dX9_addSection_108 : decode cX9_addSection 108 = .ok (.iconst 1, 1) := by decide +kernel
theorem dX9_addSection_109 : decode cX9_addSection 109 = .ok (.iadd, 1) := by decide +kernel
theorem dX9_addSection_110 : decode cX9_addSection 110 = .ok (.iastore, 1) := by decide +kernel
theorem dX9_addSection_111 : decode cX9_addSection 111 = .ok (.aload_n 0, 1) := by decide +kernel
theorem dX9_addSection_112 : decode cX9_addSection 112 = .ok (.getfield 7, 3) := by decide +kernel
theorem dX9_addSection_115 : decode cX9_addSection 115 = .ok (.bipush 62, 2) := by decide +kernel
theorem dX9_addSection_117 : decode cX9_addSection 117 = .ok (.iload_n 2, 1) := by decide +kernel
theorem dX9_addSection_118 : decode cX9_addSection 118 = .ok (.iadd, 1) := by decide +kernel
theorem dX9_addSection_119 : decode cX9_addSection 119 = .ok (.iconst 0, 1) := by decide +kernel
theorem dX9_addSection_120 : decode cX9_addSection 120 = .ok (.iastore, 1) := by decide +kernel
theorem dX9_addSection_121 : decode cX9_addSection 121 = .ok (.iconst 0, 1) := by decide +kernel
theorem dX9_addSection_122 : decode cX9_addSection 122 = .ok (.istore_n 3, 1) := by decide +kernel
theorem dX9_addSection_123 : decode cX9_addSection 123 = .ok (.iload_n 3, 1) := by decide +kernel
theorem dX9_addSection_124 : decode cX9_addSection 124 = .ok (.bipush 6, 2) := by decide +kernel
theorem dX9_addSection_126 : decode cX9_addSection 126 = .ok (.if_icmp .ge 24, 3) := by decide +kernel
theorem dX9_addSection_129 : decode cX9_addSection 129 = .ok (.aload_n 0, 1) := by decide +kernel
theorem dX9_addSection_130 : decode cX9_addSection 130 = .ok (.getfield 7, 3) := by decide +kernel
theorem dX9_addSection_133 : decode cX9_addSection 133 = .ok (.bipush 82, 2) := by decide +kernel
theorem dX9_addSection_135 : decode cX9_addSection 135 = .ok (.bipush 6, 2) := by decide +kernel
theorem dX9_addSection_137 : decode cX9_addSection 137 = .ok (.iload_n 2, 1) := by decide +kernel
theorem dX9_addSection_138 : decode cX9_addSection 138 = .ok (.imul, 1) := by decide +kernel
theorem dX9_addSection_139 : decode cX9_addSection 139 = .ok (.iadd, 1) := by decide +kernel
theorem dX9_addSection_140 : decode cX9_addSection 140 = .ok (.iload_n 3, 1) := by decide +kernel
theorem dX9_addSection_141 : decode cX9_addSection 141 = .ok (.iadd, 1) := by decide +kernel
theorem dX9_addSection_142 : decode cX9_addSection 142 = .ok (.iconst 0, 1) := by decide +kernel
theorem dX9_addSection_143 : decode cX9_addSection 143 = .ok (.iastore, 1) := by decide +kernel
theorem dX9_addSection_144 : decode cX9_addSection 144 = .ok (.iinc 3 1, 3) := by decide +kernel
theorem dX9_addSection_147 : decode cX9_addSection 147 = .ok (.goto (-24), 3) := by decide +kernel
theorem dX9_addSection_150 : decode cX9_addSection 150 = .ok (.iload_n 2, 1) := by decide +kernel
theorem dX9_addSection_151 : decode cX9_addSection 151 = .ok (.ireturn, 1) := by decide +kernel
theorem dX9_removeSection_0 : decode cX9_removeSection 0 = .ok (.aload_n 0, 1) := by decide +kernel
theorem dX9_removeSection_1 : decode cX9_removeSection 1 = .ok (.aload_n 0, 1) := by decide +kernel
theorem dX9_removeSection_2 : decode cX9_removeSection 2 = .ok (.iload_n 1, 1) := by decide +kernel
theorem dX9_removeSection_3 : decode cX9_removeSection 3 = .ok (.invokevirtual 102, 3) := by decide +kernel
theorem dX9_removeSection_6 : decode cX9_removeSection 6 = .ok (.ifCond .ne 7, 3) := by decide +kernel
theorem dX9_removeSection_9 : decode cX9_removeSection 9 = .ok (.iconst 1, 1) := by decide +kernel
theorem dX9_removeSection_10 : decode cX9_removeSection 10 = .ok (.goto 24, 3) := by decide +kernel
theorem dX9_removeSection_13 : decode cX9_removeSection 13 = .ok (.iload_n 1, 1) := by decide +kernel
theorem dX9_removeSection_14 : decode cX9_removeSection 14 = .ok (.ifCond .ne 7, 3) := by decide +kernel
theorem dX9_removeSection_17 : decode cX9_removeSection 17 = .ok (.iconst 2, 1) := by decide +kernel
theorem dX9_removeSection_18 : decode cX9_removeSection 18 = .ok (.goto 16, 3) := by decide +kernel
theorem dX9_removeSection_21 : decode cX9_removeSection 21 = .ok (.aload_n 0, 1) := by decide +kernel
theorem dX9_removeSection_22 : decode cX9_removeSection 22 = .ok (.iload_n 1, 1) := by decide +kernel
theorem dX9_removeSection_23 : decode cX9_removeSection 23 = .ok (.invokevirtual 148, 3) := by decide +kernel
theorem dX9_removeSection_26 : decode cX9_removeSection 26 = .ok (.ifCond .eq 7, 3) := by decide +kernel
theorem dX9_removeSection_29 : decode cX9_removeSection 29 = .ok (.iconst 3, 1) := by decide +kernel
theorem dX9_removeSection_30 : decode cX9_removeSection 30 = .ok (.goto 4, 3) := by decide +kernel
theorem dX9_removeSection_33 : decode cX9_removeSection 33 = .ok (.iconst 0, 1) := by decide +kernel
theorem dX9_removeSection_34 : decode cX9_removeSection 34 = .ok (.invokevirtual 54, 3) := by decide +kernel
theorem dX9_removeSection_37 : decode cX9_removeSection 37 = .ok (.ifCond .eq 5, 3) := by decide +kernel
theorem dX9_removeSection_40 : decode cX9_removeSection 40 = .ok (.iconst 0, 1) := by decide +kernel
theorem dX9_removeSection_41 : decode cX9_removeSection 41 = .ok (.ireturn, 1) := by decide +kernel
theorem dX9_removeSection_42 : decode cX9_removeSection 42 = .ok (.aload_n 0, 1) := by decide +kernel
theorem dX9_removeSection_43 : decode cX9_removeSection 43 = .ok (.invokevirtual 145, 3) := by decide +kernel
theorem dX9_removeSection_46 : decode cX9_removeSection 46 = .ok (.iconst 1, 1) := by decide +kernel
theorem dX9_removeSection_47 : decode cX9_removeSection 47 = .ok (.aload_n 0, 1) := by decide +kernel
theorem dX9_removeSection_48 : decode cX9_removeSection 48 = .ok (.iload_n 1, 1) := by decide +kernel
theorem dX9_removeSection_49 : decode cX9_removeSection 49 = .ok (.invokevirtual 151, 3) := by decide +kernel
theorem dX9_removeSection_52 : decode cX9_removeSection 52 = .ok (.iadd, 1) := by decide +kernel
theorem dX9_removeSection_53 : decode cX9_removeSection 53 = .ok (.istore_n 2, 1) := by decide +kernel
theorem dX9_removeSection_54 : decode cX9_removeSection 54 = .ok (.iconst 0, 1) := by decide +kernel
theorem dX9_removeSection_55 : decode cX9_removeSection 55 = .ok (.istore_n 3, 1) := by decide +kernel
theorem dX9_removeSection_56 : decode cX9_removeSection 56 = .ok (.iload_n 3, 1) := by decide +kernel
theorem dX9_removeSection_57 : decode cX9_removeSection 57 = .ok (.bipush 20, 2) := by decide +kernel
theorem dX9_removeSection_59 : decode cX9_removeSection 59 = .ok (.if_icmp .ge 37, 3) := by decide +kernel
theorem dX9_removeSection_62 : decode cX9_removeSection 62 = .ok (.aload_n 0, 1) := by decide +kernel
theorem dX9_removeSection_63 : decode cX9_removeSection 63 = .ok (.getfield 28, 3) := by decide +kernel
theorem dX9_removeSection_66 : decode cX9_removeSection 66 = .ok (.iload_n 3, 1) := by decide +kernel
theorem dX9_removeSection_67 : decode cX9_removeSection 67 = .ok (.aload_n 0, 1) := by decide +kernel
theorem dX9_removeSection_68 : decode cX9_removeSection 68 = .ok (.iload_n 3, 1) := by decide +kernel
theorem dX9_removeSection_69 : decode cX9_removeSection 69 = .ok (.invokevirtual 102, 3) := by decide +kernel
theorem dX9_removeSection_72 : decode cX9_removeSection 72 = .ok (.ifCond .eq 16, 3) := by decide +kernel
theorem dX9_removeSection_75 : decode cX9_removeSection 75 = .ok (.aload_n 0, 1) := by decide +kernel
theorem dX9_removeSection_76 : decode cX9_removeSection 76 = .ok (.iload_n 3, 1) := by decide +kernel
theorem dX9_removeSection_77 : decode cX9_removeSection 77 = .ok (.iload_n 1, 1) := by decide +kernel
theorem dX9_removeSection_78 : decode cX9_removeSection 78 = .ok (.invokevirtual 62, 3) := by decide +kernel
theorem dX9_removeSection_81 : decode cX9_removeSection 81 = .ok (.ifCond .eq 7, 3) := by decide +kernel
theorem dX9_removeSection_84 : decode cX9_removeSection 84 = .ok (.iconst 1, 1) := by decide +kernel
theorem dX9_removeSection_85 : decode cX9_removeSection 85 = .ok (.goto 4, 3) := by decide +kernel
theorem dX9_removeSection_88 : decode cX9_removeSection 88 = .ok (.iconst 0, 1) := by decide +kernel
theorem dX9_removeSection_89 : decode cX9_removeSection 89 = .ok (.bastore, 1) := by decide +kernel
theorem dX9_removeSection_90 : decode cX9_removeSection 90 = .ok (.iinc 3 1, 3) := by decide +kernel
theorem dX9_removeSection_93 : decode cX9_removeSection 93 = .ok (.goto (-37), 3) := by decide +kernel
theorem dX9_removeSection_96 : decode cX9_removeSection 96 = .ok (.iconst 0, 1) := by decide +kernel
theorem dX9_removeSection_97 : decode cX9_removeSection 97 = .ok (.istore_n 3, 1) := by decide +kernel
theorem dX9_removeSection_98 : decode cX9_removeSection 98 = .ok (.iconst 0, 1) := by decide +kernel
theorem dX9_removeSection_99 : decode cX9_removeSection 99 = .ok (.istore 4, 2) := by decide +kernel
theorem dX9_removeSection_101 : decode cX9_removeSection 101 = .ok (.iload 4, 2) := by decide +kernel
theorem dX9_removeSection_103 : decode cX9_removeSection 103 = .ok (.aload_n 0, 1) := by decide +kernel
theorem dX9_removeSection_104 : decode cX9_removeSection 104 = .ok (.getfield 7, 3) := by decide +kernel
theorem dX9_removeSection_107 : decode cX9_removeSection 107 = .ok (.sipush 2701, 3) := by decide +kernel
theorem dX9_removeSection_110 : decode cX9_removeSection 110 = .ok (.iaload, 1) := by decide +kernel
theorem dX9_removeSection_111 : decode cX9_removeSection 111 = .ok (.if_icmp .ge 85, 3) := by decide +kernel
theorem dX9_removeSection_114 : decode cX9_removeSection 114 = .ok (.aload_n 0, 1) := by decide +kernel
theorem dX9_removeSection_115 : decode cX9_removeSection 115 = .ok (.getfield 28, 3) := by decide +kernel
theorem dX9_removeSection_118 : decode cX9_removeSection 118 = .ok (.aload_n 0, 1) := by decide +kernel
theorem dX9_removeSection_119 : decode cX9_removeSection 119 = .ok (.getfield 7, 3) := by decide +kernel
theorem dX9_removeSection_122 : decode cX9_removeSection 122 = .ok (.sipush 2702, 3) := by decide +kernel
theorem dX9_removeSection_125 : decode cX9_removeSection 125 = .ok (.bipush 6, 2) := by decide +kernel
theorem dX9_removeSection_127 : decode cX9_removeSection 127 = .ok (.iload 4, 2) := by decide +kernel
theorem dX9_removeSection_129 : decode cX9_removeSection 129 = .ok (.imul, 1) := by decide +kernel
theorem dX9_removeSection_130 : decode cX9_removeSection 130 = .ok (.iadd, 1) := by decide +kernel
theorem dX9_removeSection_131 : decode cX9_removeSection 131 = .ok (.iconst 1, 1) := by decide +kernel
theorem dX9_removeSection_132 : decode cX9_removeSection 132 = .ok (.iadd, 1) := by decide +kernel
theorem dX9_removeSection_133 : decode cX9_removeSection 133 = .ok (.iaload, 1) := by decide +kernel
theorem dX9_removeSection_134 : decode cX9_removeSection 134 = .ok (.baload, 1) := by decide +kernel
theorem dX9_removeSection_135 : decode cX9_removeSection 135 = .ok (.ifCond .ne 55, 3) := by decide +kernel
theorem dX9_removeSection_138 : decode cX9_removeSection 138 = .ok (.iconst 0, 1) := by decide +kernel
theorem dX9_removeSection_139 : decode cX9_removeSection 139 = .ok (.istore 5, 2) := by decide +kernel
theorem dX9_removeSection_141 : decode cX9_removeSection 141 = .ok (.iload 5, 2) := by decide +kernel
theorem dX9_removeSection_143 : decode cX9_removeSection 143 = .ok (.bipush 6, 2) := by decide +kernel
theorem dX9_removeSection_145 : decode cX9_removeSection 145 = .ok (.if_icmp .ge 42, 3) := by decide +kernel
theorem dX9_removeSection_148 : decode cX9_removeSection 148 = .ok (.aload_n 0, 1) := by decide +kernel
theorem dX9_removeSection_149 : decode cX9_removeSection 149 = .ok (.getfield 7, 3) := by decide +kernel
theorem dX9_removeSection_152 : decode cX9_removeSection 152 = .ok (.sipush 2702, 3) := by decide +kernel
theorem dX9_removeSection_155 : decode cX9_removeSection 155 = .ok (.bipush 6, 2) := by decide +kernel
theorem dX9_removeSection_157 : decode cX9_removeSection 157 = .ok (.iload_n 3, 1) := by decide +kernel
theorem dX9_removeSection_158 : decode cX9_removeSection 158 = .ok (.imul, 1) := by decide +kernel
theorem dX9_removeSection_159 : decode cX9_removeSection 159 = .ok (.iadd, 1) := by decide +kernel
theorem dX9_removeSection_160 : decode cX9_removeSection 160 = .ok (.iload 5, 2) := by decide +kernel
theorem dX9_removeSection_162 : decode cX9_removeSection 162 = .ok (.iadd, 1) := by decide +kernel
theorem dX9_removeSection_163 : decode cX9_removeSection 163 = .ok (.aload_n 0, 1) := by decide +kernel
theorem dX9_removeSection_164 : decode cX9_removeSection 164 = .ok (.getfield 7, 3) := by decide +kernel
theorem dX9_removeSection_167 : decode cX9_removeSection 167 = .ok (.sipush 2702, 3) := by decide +kernel
theorem dX9_removeSection_170 : decode cX9_removeSection 170 = .ok (.bipush 6, 2) := by decide +kernel
theorem dX9_removeSection_172 : decode cX9_removeSection 172 = .ok (.iload 4, 2) := by decide +kernel
theorem dX9_removeSection_174 : decode cX9_removeSection 174 = .ok (.imul, 1) := by decide +kernel
theorem dX9_removeSection_175 : decode cX9_removeSection 175 = .ok (.iadd, 1) := by decide +kernel
theorem dX9_removeSection_176 : decode cX9_removeSection 176 = .ok (.iload 5, 2) := by decide +kernel
theorem dX9_removeSection_178 : decode cX9_removeSection 178 = .ok (.iadd, 1) := by decide +kernel
theorem dX9_removeSection_179 : decode cX9_removeSection 179 = .ok (.iaload, 1) := by decide +kernel
theorem dX9_removeSection_180 : decode cX9_removeSection 180 = .ok (.iastore, 1) := by decide +kernel
theorem dX9_removeSection_181 : decode cX9_removeSection 181 = .ok (.iinc 5 1, 3) := by decide +kernel
theorem dX9_removeSection_184 : decode cX9_removeSection 184 = .ok (.goto (-43), 3) := by decide +kernel
theorem dX9_removeSection_187 : decode cX9_removeSection 187 = .ok (.iinc 3 1, 3) := by decide +kernel
theorem dX9_removeSection_190 : decode cX9_removeSection 190 = .ok (.iinc 4 1, 3) := by decide +kernel
theorem dX9_removeSection_193 : decode cX9_removeSection 193 = .ok (.goto (-92), 3) := by decide +kernel
theorem dX9_removeSection_196 : decode cX9_removeSection 196 = .ok (.aload_n 0, 1) := by decide +kernel
theorem dX9_removeSection_197 : decode cX9_removeSection 197 = .ok (.getfield 7, 3) := by decide +kernel
theorem dX9_removeSection_200 : decode cX9_removeSection 200 = .ok (.sipush 2701, 3) := by decide +kernel
theorem dX9_removeSection_203 : decode cX9_removeSection 203 = .ok (.iload_n 3, 1) := by decide +kernel
theorem dX9_removeSection_204 : decode cX9_removeSection 204 = .ok (.iastore, 1) := by decide +kernel
theorem dX9_removeSection_205 : decode cX9_removeSection 205 = .ok (.iconst 0, 1) := by decide +kernel
theorem dX9_removeSection_206 : decode cX9_removeSection 206 = .ok (.istore 4, 2) := by decide +kernel
theorem dX9_removeSection_208 : decode cX9_removeSection 208 = .ok (.iload 4, 2) := by decide +kernel
theorem dX9_removeSection_210 : decode cX9_removeSection 210 = .ok (.bipush 20, 2) := by decide +kernel
theorem dX9_removeSection_212 : decode cX9_removeSection 212 = .ok (.if_icmp .ge 41, 3) := by decide +kernel
theorem dX9_removeSection_215 : decode cX9_removeSection 215 = .ok (.aload_n 0, 1) := by decide +kernel
theorem dX9_removeSection_216 : decode cX9_removeSection 216 = .ok (.getfield 7, 3) := by decide +kernel
theorem dX9_removeSection_219 : decode cX9_removeSection 219 = .ok (.iconst 2, 1) := by decide +kernel
theorem dX9_removeSection_220 : decode cX9_removeSection 220 = .ok (.iload 4, 2) := by decide +kernel
theorem dX9_removeSection_222 : decode cX9_removeSection 222 = .ok (.iadd, 1) := by decide +kernel
theorem dX9_removeSection_223 : decode cX9_removeSection 223 = .ok (.aload_n 0, 1) := by decide +kernel
theorem dX9_removeSection_224 : decode cX9_removeSection 224 = .ok (.getfield 28, 3) := by decide +kernel
theorem dX9_removeSection_227 : decode cX9_removeSection 227 = .ok (.iload 4, 2) := by decide +kernel
theorem dX9_removeSection_229 : decode cX9_removeSection 229 = .ok (.baload, 1) := by decide +kernel
theorem dX9_removeSection_230 : decode cX9_removeSection 230 = .ok (.ifCond .eq 7, 3) := by decide +kernel
theorem dX9_removeSection_233 : decode cX9_removeSection 233 = .ok (.iconst 0, 1) := by decide +kernel
theorem dX9_removeSection_234 : decode cX9_removeSection 234 = .ok (.goto 12, 3) := by decide +kernel
theorem dX9_removeSection_237 : decode cX9_removeSection 237 = .ok (.aload_n 0, 1) := by decide +kernel
theorem dX9_removeSection_238 : decode cX9_removeSection 238 = .ok (.getfield 7, 3) := by decide +kernel
theorem dX9_removeSection_241 : decode cX9_removeSection 241 = .ok (.iconst 2, 1) := by decide +kernel
theorem dX9_removeSection_242 : decode cX9_removeSection 242 = .ok (.iload 4, 2) := by decide +kernel
theorem dX9_removeSection_244 : decode cX9_removeSection 244 = .ok (.iadd, 1) := by decide +kernel
theorem dX9_removeSection_245 : decode cX9_removeSection 245 = .ok (.iaload, 1) := by decide +kernel
theorem dX9_removeSection_246 : decode cX9_removeSection 246 = .ok (.iastore, 1) := by decide +kernel
theorem dX9_removeSection_247 : decode cX9_removeSection 247 = .ok (.iinc 4 1, 3) := by decide +kernel
theorem dX9_removeSection_250 : decode cX9_removeSection 250 = .ok (.goto (-42), 3) := by decide +kernel
theorem dX9_removeSection_253 : decode cX9_removeSection 253 = .ok (.iload_n 2, 1) := by decide +kernel
theorem dX9_removeSection_254 : decode cX9_removeSection 254 = .ok (.ireturn, 1) := by decide +kernel
theorem dX9_moveSection_0 : decode cX9_moveSection 0 = .ok (.aload_n 0, 1) := by decide +kernel
theorem dX9_moveSection_1 : decode cX9_moveSection 1 = .ok (.aload_n 0, 1) := by decide +kernel
theorem dX9_moveSection_2 : decode cX9_moveSection 2 = .ok (.iload_n 1, 1) := by decide +kernel
theorem dX9_moveSection_3 : decode cX9_moveSection 3 = .ok (.invokevirtual 102, 3) := by decide +kernel
theorem dX9_moveSection_6 : decode cX9_moveSection 6 = .ok (.ifCond .eq 11, 3) := by decide +kernel
theorem dX9_moveSection_9 : decode cX9_moveSection 9 = .ok (.aload_n 0, 1) := by decide +kernel
theorem dX9_moveSection_10 : decode cX9_moveSection 10 = .ok (.iload_n 2, 1) := by decide +kernel
theorem dX9_moveSection_11 : decode cX9_moveSection 11 = .ok (.invokevirtual 102, 3) := by decide +kernel
theorem dX9_moveSection_14 : decode cX9_moveSection 14 = .ok (.ifCond .ne 7, 3) := by decide +kernel
theorem dX9_moveSection_17 : decode cX9_moveSection 17 = .ok (.iconst 1, 1) := by decide +kernel
theorem dX9_moveSection_18 : decode cX9_moveSection 18 = .ok (.goto 41, 3) := by decide +kernel
theorem dX9_moveSection_21 : decode cX9_moveSection 21 = .ok (.iload_n 1, 1) := by decide +kernel
theorem dX9_moveSection_22 : decode cX9_moveSection 22 = .ok (.ifCond .eq 12, 3) := by decide +kernel
theorem dX9_moveSection_25 : decode cX9_moveSection 25 = .ok (.aload_n 0, 1) := by decide +kernel
theorem dX9_moveSection_26 : decode cX9_moveSection 26 = .ok (.iload_n 2, 1) := by decide +kernel
theorem dX9_moveSection_27 : decode cX9_moveSection 27 = .ok (.iload_n 1, 1) := by decide +kernel
theorem dX9_moveSection_28 : decode cX9_moveSection 28 = .ok (.invokevirtual 62, 3) := by decide +kernel
theorem dX9_moveSection_31 : decode cX9_moveSection 31 = .ok (.ifCond .eq 7, 3) := by decide +kernel
theorem dX9_moveSection_34 : decode cX9_moveSection 34 = .ok (.iconst 2, 1) := by decide +kernel
theorem dX9_moveSection_35 : decode cX9_moveSection 35 = .ok (.goto 24, 3) := by decide +kernel
theorem dX9_moveSection_38 : decode cX9_moveSection 38 = .ok (.aload_n 0, 1) := by decide +kernel
theorem dX9_moveSection_39 : decode cX9_moveSection 39 = .ok (.iload_n 1, 1) := by decide +kernel
theorem dX9_moveSection_40 : decode cX9_moveSection 40 = .ok (.invokevirtual 148, 3) := by decide +kernel
theorem dX9_moveSection_43 : decode cX9_moveSection 43 = .ok (.ifCond .ne 11, 3) := by decide +kernel
theorem dX9_moveSection_46 : decode cX9_moveSection 46 = .ok (.aload_n 0, 1) := by decide +kernel
theorem dX9_moveSection_47 : decode cX9_moveSection 47 = .ok (.iload_n 2, 1) := by decide +kernel
theorem dX9_moveSection_48 : decode cX9_moveSection 48 = .ok (.invokevirtual 142, 3) := by decide +kernel
theorem dX9_moveSection_51 : decode cX9_moveSection 51 = .ok (.ifCond .eq 7, 3) := by decide +kernel
theorem dX9_moveSection_54 : decode cX9_moveSection 54 = .ok (.iconst 3, 1) := by decide +kernel
theorem dX9_moveSection_55 : decode cX9_moveSection 55 = .ok (.goto 4, 3) := by decide +kernel
theorem dX9_moveSection_58 : decode cX9_moveSection 58 = .ok (.iconst 0, 1) := by decide +kernel
theorem dX9_moveSection_59 : decode cX9_moveSection 59 = .ok (.invokevirtual 54, 3) := by decide +kernel
theorem dX9_moveSection_62 : decode cX9_moveSection 62 = .ok (.ifCond .eq 5, 3) := by decide +kernel
theorem dX9_moveSection_65 : decode cX9_moveSection 65 = .ok (.iconst 0, 1) := by decide +kernel
theorem dX9_moveSection_66 : decode cX9_moveSection 66 = .ok (.ireturn, 1) := by decide +kernel
theorem dX9_moveSection_67 : decode cX9_moveSection 67 = .ok (.aload_n 0, 1) := by decide +kernel
theorem dX9_moveSection_68 : decode cX9_moveSection 68 = .ok (.invokevirtual 145, 3) := by decide +kernel
theorem dX9_moveSection_71 : decode cX9_moveSection 71 = .ok (.aload_n 0, 1) := by decide +kernel
theorem dX9_moveSection_72 : decode cX9_moveSection 72 = .ok (.getfield 7, 3) := by decide +kernel
theorem dX9_moveSection_75 : decode cX9_moveSection 75 = .ok (.bipush 22, 2) := by decide +kernel
theorem dX9_moveSection_77 : decode cX9_moveSection 77 = .ok (.iload_n 1, 1) := by decide +kernel
theorem dX9_moveSection_78 : decode cX9_moveSection 78 = .ok (.iadd, 1) := by decide +kernel
theorem dX9_moveSection_79 : decode cX9_moveSection 79 = .ok (.iload_n 2, 1) := by decide +kernel
theorem dX9_moveSection_80 : decode cX9_moveSection 80 = .ok (.iastore, 1) := by decide +kernel
theorem dX9_moveSection_81 : decode cX9_moveSection 81 = .ok (.aload_n 0, 1) := by decide +kernel
theorem dX9_moveSection_82 : decode cX9_moveSection 82 = .ok (.getfield 7, 3) := by decide +kernel
theorem dX9_moveSection_85 : decode cX9_moveSection 85 = .ok (.bipush 42, 2) := by decide +kernel
theorem dX9_moveSection_87 : decode cX9_moveSection 87 = .ok (.iload_n 1, 1) := by decide +kernel
theorem dX9_moveSection_88 : decode cX9_moveSection 88 = .ok (.iadd, 1) := by decide +kernel
theorem dX9_moveSection_89 : decode cX9_moveSection 89 = .ok (.aload_n 0, 1) := by decide +kernel
theorem dX9_moveSection_90 : decode cX9_moveSection 90 = .ok (.getfield 7, 3) := by decide +kernel
theorem dX9_moveSection_93 : decode cX9_moveSection 93 = .ok (.iconst 1, 1) := by decide +kernel
theorem dX9_moveSection_94 : decode cX9_moveSection 94 = .ok (.iaload, 1) := by decide +kernel
theorem dX9_moveSection_95 : decode cX9_moveSection 95 = .ok (.iastore, 1) := by decide +kernel
theorem dX9_moveSection_96 : decode cX9_moveSection 96 = .ok (.aload_n 0, 1) := by decide +kernel
theorem dX9_moveSection_97 : decode cX9_moveSection 97 = .ok (.getfield 7, 3) := by decide +kernel
theorem dX9_moveSection_100 : decode cX9_moveSection 100 = .ok (.iconst 1, 1) := by decide +kernel
theorem dX9_moveSection_101 : decode cX9_moveSection 101 = .ok (.dup2, 1) := by decide +kernel
theorem dX9_moveSection_102 : decode cX9_moveSection 102 = .ok (.iaload, 1) := by decide +kernel
theorem dX9_moveSection_103 : decode cX9_moveSection 103 = .ok (.iconst 1, 1) := by decide +kernel
theorem dX9_moveSection_104 : decode cX9_moveSection 104 = .ok (.iadd, 1) := by decide +kernel
theorem dX9_moveSection_105 : decode cX9_moveSection 105 = .ok (.iastore, 1) := by decide +kernel
theorem dX9_moveSection_106 : decode cX9_moveSection 106 = .ok (.aload_n 0, 1) := by decide +kernel
theorem dX9_moveSection_107 : decode cX9_moveSection 107 = .ok (.iload_n 1, 1) := by decide +kernel
theorem dX9_moveSection_108 : decode cX9_moveSection 108 = .ok (.invokevirtual 155, 3) := by decide +kernel
theorem dX9_moveSection_111 : decode cX9_moveSection 111 = .ok (.ireturn, 1) := by decide +kernel
theorem dX9_sections_0 : decode cX9_sections 0 = .ok (.aload_n 0, 1) := by decide +kernel
theorem dX9_sections_1 : decode cX9_sections 1 = .ok (.iconst 0, 1) := by decide +kernel
theorem dX9_sections_2 : decode cX9_sections 2 = .ok (.putfield 47, 3) := by decide +kernel
theorem dX9_sections_5 : decode cX9_sections 5 = .ok (.aload_n 0, 1) := by decide +kernel
theorem dX9_sections_6 : decode cX9_sections 6 = .ok (.invokevirtual 139, 3) := by decide +kernel
theorem dX9_sections_9 : decode cX9_sections 9 = .ok (.ireturn, 1) := by decide +kernel
theorem dX9_tellSection_0 : decode cX9_tellSection 0 = .ok (.iload_n 2, 1) := by decide +kernel
theorem dX9_tellSection_1 : decode cX9_tellSection 1 = .ok (.tableswitch 63 0 3 #[31, 41, 47, 53], 31) := by decide +kernel
theorem dX9_tellSection_32 : decode cX9_tellSection 32 = .ok (.aload_n 0, 1) := by decide +kernel
theorem dX9_tellSection_33 : decode cX9_tellSection 33 = .ok (.getfield 7, 3) := by decide +kernel
theorem dX9_tellSection_36 : decode cX9_tellSection 36 = .ok (.bipush 22, 2) := by decide +kernel
theorem dX9_tellSection_38 : decode cX9_tellSection 38 = .ok (.iload_n 1, 1) := by decide +kernel
theorem dX9_tellSection_39 : decode cX9_tellSection 39 = .ok (.iadd, 1) := by decide +kernel
theorem dX9_tellSection_40 : decode cX9_tellSection 40 = .ok (.iaload, 1) := by decide +kernel
theorem dX9_tellSection_41 : decode cX9_tellSection 41 = .ok (.ireturn, 1) := by decide +kernel
theorem dX9_tellSection_42 : decode cX9_tellSection 42 = .ok (.aload_n 0, 1) := by decide +kernel
theorem dX9_tellSection_43 : decode cX9_tellSection 43 = .ok (.iload_n 1, 1) := by decide +kernel
theorem dX9_tellSection_44 : decode cX9_tellSection 44 = .ok (.invokevirtual 158, 3) := by decide +kernel
theorem dX9_tellSection_47 : decode cX9_tellSection 47 = .ok (.ireturn, 1) := by decide +kernel
theorem dX9_tellSection_48 : decode cX9_tellSection 48 = .ok (.aload_n 0, 1) := by decide +kernel
theorem dX9_tellSection_49 : decode cX9_tellSection 49 = .ok (.iload_n 1, 1) := by decide +kernel
theorem dX9_tellSection_50 : decode cX9_tellSection 50 = .ok (.invokevirtual 155, 3) := by decide +kernel
theorem dX9_tellSection_53 : decode cX9_tellSection 53 = .ok (.ireturn, 1) := by decide +kernel
theorem dX9_tellSection_54 : decode cX9_tellSection 54 = .ok (.aload_n 0, 1) := by decide +kernel
theorem dX9_tellSection_55 : decode cX9_tellSection 55 = .ok (.getfield 7, 3) := by decide +kernel
theorem dX9_tellSection_58 : decode cX9_tellSection 58 = .ok (.bipush 62, 2) := by decide +kernel
theorem dX9_tellSection_60 : decode cX9_tellSection 60 = .ok (.iload_n 1, 1) := by decide +kernel
theorem dX9_tellSection_61 : decode cX9_tellSection 61 = .ok (.iadd, 1) := by decide +kernel
theorem dX9_tellSection_62 : decode cX9_tellSection 62 = .ok (.iaload, 1) := by decide +kernel
theorem dX9_tellSection_63 : decode cX9_tellSection 63 = .ok (.ireturn, 1) := by decide +kernel
theorem dX9_tellSection_64 : decode cX9_tellSection 64 = .ok (.aload_n 0, 1) := by decide +kernel
theorem dX9_tellSection_65 : decode cX9_tellSection 65 = .ok (.iload_n 1, 1) := by decide +kernel
theorem dX9_tellSection_66 : decode cX9_tellSection 66 = .ok (.invokevirtual 151, 3) := by decide +kernel
theorem dX9_tellSection_69 : decode cX9_tellSection 69 = .ok (.ireturn, 1) := by decide +kernel
theorem dX9_section_0 : decode cX9_section 0 = .ok (.aload_n 0, 1) := by decide +kernel
theorem dX9_section_1 : decode cX9_section 1 = .ok (.aload_n 0, 1) := by decide +kernel
theorem dX9_section_2 : decode cX9_section 2 = .ok (.iload_n 1, 1) := by decide +kernel
theorem dX9_section_3 : decode cX9_section 3 = .ok (.invokevirtual 102, 3) := by decide +kernel
theorem dX9_section_6 : decode cX9_section 6 = .ok (.ifCond .ne 7, 3) := by decide +kernel
theorem dX9_section_9 : decode cX9_section 9 = .ok (.iconst 1, 1) := by decide +kernel
theorem dX9_section_10 : decode cX9_section 10 = .ok (.goto 17, 3) := by decide +kernel
theorem dX9_section_13 : decode cX9_section 13 = .ok (.iload_n 2, 1) := by decide +kernel
theorem dX9_section_14 : decode cX9_section 14 = .ok (.iconst 0, 1) := by decide +kernel
theorem dX9_section_15 : decode cX9_section 15 = .ok (.iconst 4, 1) := by decide +kernel
theorem dX9_section_16 : decode cX9_section 16 = .ok (.invokestatic 58, 3) := by decide +kernel
theorem dX9_section_19 : decode cX9_section 19 = .ok (.ifCond .eq 7, 3) := by decide +kernel
theorem dX9_section_22 : decode cX9_section 22 = .ok (.iconst 0, 1) := by decide +kernel
theorem dX9_section_23 : decode cX9_section 23 = .ok (.goto 4, 3) := by decide +kernel
theorem dX9_section_26 : decode cX9_section 26 = .ok (.iconst 2, 1) := by decide +kernel
theorem dX9_section_27 : decode cX9_section 27 = .ok (.invokevirtual 54, 3) := by decide +kernel
theorem dX9_section_30 : decode cX9_section 30 = .ok (.ifCond .eq 7, 3) := by decide +kernel
theorem dX9_section_33 : decode cX9_section 33 = .ok (.iconst 0, 1) := by decide +kernel
theorem dX9_section_34 : decode cX9_section 34 = .ok (.goto 9, 3) := by decide +kernel
theorem dX9_section_37 : decode cX9_section 37 = .ok (.aload_n 0, 1) := by decide +kernel
theorem dX9_section_38 : decode cX9_section 38 = .ok (.iload_n 1, 1) := by decide +kernel
theorem dX9_section_39 : decode cX9_section 39 = .ok (.iload_n 2, 1) := by decide +kernel
theorem dX9_section_40 : decode cX9_section 40 = .ok (.invokevirtual 161, 3) := by decide +kernel
theorem dX9_section_43 : decode cX9_section 43 = .ok (.ireturn, 1) := by decide +kernel
theorem dX9_child_0 : decode cX9_child 0 = .ok (.aload_n 0, 1) := by decide +kernel
theorem dX9_child_1 : decode cX9_child 1 = .ok (.aload_n 0, 1) := by decide +kernel
theorem dX9_child_2 : decode cX9_child 2 = .ok (.iload_n 1, 1) := by decide +kernel
theorem dX9_child_3 : decode cX9_child 3 = .ok (.invokevirtual 102, 3) := by decide +kernel
theorem dX9_child_6 : decode cX9_child 6 = .ok (.ifCond .eq 22, 3) := by decide +kernel
theorem dX9_child_9 : decode cX9_child 9 = .ok (.iload_n 2, 1) := by decide +kernel
theorem dX9_child_10 : decode cX9_child 10 = .ok (.iconst 0, 1) := by decide +kernel
theorem dX9_child_11 : decode cX9_child 11 = .ok (.aload_n 0, 1) := by decide +kernel
theorem dX9_child_12 : decode cX9_child 12 = .ok (.iload_n 1, 1) := by decide +kernel
theorem dX9_child_13 : decode cX9_child 13 = .ok (.invokevirtual 158, 3) := by decide +kernel
theorem dX9_child_16 : decode cX9_child 16 = .ok (.iconst 1, 1) := by decide +kernel
theorem dX9_child_17 : decode cX9_child 17 = .ok (.isub, 1) := by decide +kernel
theorem dX9_child_18 : decode cX9_child 18 = .ok (.invokestatic 58, 3) := by decide +kernel
theorem dX9_child_21 : decode cX9_child 21 = .ok (.ifCond .eq 7, 3) := by decide +kernel
theorem dX9_child_24 : decode cX9_child 24 = .ok (.iconst 0, 1) := by decide +kernel
theorem dX9_child_25 : decode cX9_child 25 = .ok (.goto 4, 3) := by decide +kernel
theorem dX9_child_28 : decode cX9_child 28 = .ok (.iconst 1, 1) := by decide +kernel
theorem dX9_child_29 : decode cX9_child 29 = .ok (.invokevirtual 54, 3) := by decide +kernel
theorem dX9_child_32 : decode cX9_child 32 = .ok (.ifCond .eq 7, 3) := by decide +kernel
theorem dX9_child_35 : decode cX9_child 35 = .ok (.iconst 0, 1) := by decide +kernel
theorem dX9_child_36 : decode cX9_child 36 = .ok (.goto 9, 3) := by decide +kernel
theorem dX9_child_39 : decode cX9_child 39 = .ok (.aload_n 0, 1) := by decide +kernel
theorem dX9_child_40 : decode cX9_child 40 = .ok (.iload_n 1, 1) := by decide +kernel
theorem dX9_child_41 : decode cX9_child 41 = .ok (.iload_n 2, 1) := by decide +kernel
theorem dX9_child_42 : decode cX9_child 42 = .ok (.invokevirtual 164, 3) := by decide +kernel
theorem dX9_child_45 : decode cX9_child 45 = .ok (.ireturn, 1) := by decide +kernel
theorem dX9_isLine_0 : decode cX9_isLine 0 = .ok (.aload_n 0, 1) := by decide +kernel
theorem dX9_isLine_1 : decode cX9_isLine 1 = .ok (.iload_n 1, 1) := by decide +kernel
theorem dX9_isLine_2 : decode cX9_isLine 2 = .ok (.invokevirtual 102, 3) := by decide +kernel
theorem dX9_isLine_5 : decode cX9_isLine 5 = .ok (.ifCond .eq 16, 3) := by decide +kernel
theorem dX9_isLine_8 : decode cX9_isLine 8 = .ok (.iload_n 2, 1) := by decide +kernel
theorem dX9_isLine_9 : decode cX9_isLine 9 = .ok (.iconst 0, 1) := by decide +kernel
theorem dX9_isLine_10 : decode cX9_isLine 10 = .ok (.iconst 5, 1) := by decide +kernel
theorem dX9_isLine_11 : decode cX9_isLine 11 = .ok (.invokestatic 58, 3) := by decide +kernel
theorem dX9_isLine_14 : decode cX9_isLine 14 = .ok (.ifCond .eq 7, 3) := by decide +kernel
theorem dX9_isLine_17 : decode cX9_isLine 17 = .ok (.iconst 1, 1) := by decide +kernel
theorem dX9_isLine_18 : decode cX9_isLine 18 = .ok (.goto 4, 3) := by decide +kernel
theorem dX9_isLine_21 : decode cX9_isLine 21 = .ok (.iconst 0, 1) := by decide +kernel
theorem dX9_isLine_22 : decode cX9_isLine 22 = .ok (.ireturn, 1) := by decide +kernel
theorem dX9_line_0 : decode cX9_line 0 = .ok (.aload_n 0, 1) := by decide +kernel
theorem dX9_line_1 : decode cX9_line 1 = .ok (.aload_n 0, 1) := by decide +kernel
theorem dX9_line_2 : decode cX9_line 2 = .ok (.iload_n 1, 1) := by decide +kernel
theorem dX9_line_3 : decode cX9_line 3 = .ok (.iload_n 2, 1) := by decide +kernel
theorem dX9_line_4 : decode cX9_line 4 = .ok (.invokevirtual 167, 3) := by decide +kernel
theorem dX9_line_7 : decode cX9_line 7 = .ok (.ifCond .eq 7, 3) := by decide +kernel
theorem dX9_line_10 : decode cX9_line 10 = .ok (.iconst 0, 1) := by decide +kernel
theorem dX9_line_11 : decode cX9_line 11 = .ok (.goto 4, 3) := by decide +kernel
theorem dX9_line_14 : decode cX9_line 14 = .ok (.iconst 1, 1) := by decide +kernel
theorem dX9_line_15 : decode cX9_line 15 = .ok (.invokevirtual 54, 3) := by decide +kernel
theorem dX9_line_18 : decode cX9_line 18 = .ok (.ifCond .eq 7, 3) := by decide +kernel
theorem dX9_line_21 : decode cX9_line 21 = .ok (.iconst 0, 1) := by decide +kernel
theorem dX9_line_22 : decode cX9_line 22 = .ok (.goto 17, 3) := by decide +kernel
theorem dX9_line_25 : decode cX9_line 25 = .ok (.aload_n 0, 1) := by decide +kernel
theorem dX9_line_26 : decode cX9_line 26 = .ok (.getfield 7, 3) := by decide +kernel
theorem dX9_line_29 : decode cX9_line 29 = .ok (.bipush 82, 2) := by decide +kernel
theorem dX9_line_31 : decode cX9_line 31 = .ok (.bipush 6, 2) := by decide +kernel
theorem dX9_line_33 : decode cX9_line 33 = .ok (.iload_n 1, 1) := by decide +kernel
theorem dX9_line_34 : decode cX9_line 34 = .ok (.imul, 1) := by decide +kernel
theorem dX9_line_35 : decode cX9_line 35 = .ok (.iadd, 1) := by decide +kernel
theorem dX9_line_36 : decode cX9_line 36 = .ok (.iload_n 2, 1) := by decide +kernel
theorem dX9_line_37 : decode cX9_line 37 = .ok (.iadd, 1) := by decide +kernel
theorem dX9_line_38 : decode cX9_line 38 = .ok (.iaload, 1) := by decide +kernel
theorem dX9_line_39 : decode cX9_line 39 = .ok (.ireturn, 1) := by decide +kernel
theorem dX9_write_0 : decode cX9_write 0 = .ok (.aload_n 0, 1) := by decide +kernel
theorem dX9_write_1 : decode cX9_write 1 = .ok (.aload_n 0, 1) := by decide +kernel
theorem dX9_write_2 : decode cX9_write 2 = .ok (.iload_n 1, 1) := by decide +kernel
theorem dX9_write_3 : decode cX9_write 3 = .ok (.iload_n 2, 1) := by decide +kernel
theorem dX9_write_4 : decode cX9_write 4 = .ok (.invokevirtual 167, 3) := by decide +kernel
theorem dX9_write_7 : decode cX9_write 7 = .ok (.ifCond .ne 7, 3) := by decide +kernel
theorem dX9_write_10 : decode cX9_write 10 = .ok (.iconst 1, 1) := by decide +kernel
theorem dX9_write_11 : decode cX9_write 11 = .ok (.goto 31, 3) := by decide +kernel
theorem dX9_write_14 : decode cX9_write 14 = .ok (.iload_n 3, 1) := by decide +kernel
theorem dX9_write_15 : decode cX9_write 15 = .ok (.iconst 0, 1) := by decide +kernel
theorem dX9_write_16 : decode cX9_write 16 = .ok (.sipush 999, 3) := by decide +kernel
theorem dX9_write_19 : decode cX9_write 19 = .ok (.invokestatic 58, 3) := by decide +kernel
theorem dX9_write_22 : decode cX9_write 22 = .ok (.ifCond .ne 7, 3) := by decide +kernel
theorem dX9_write_25 : decode cX9_write 25 = .ok (.iconst 2, 1) := by decide +kernel
theorem dX9_write_26 : decode cX9_write 26 = .ok (.goto 16, 3) := by decide +kernel
theorem dX9_write_29 : decode cX9_write 29 = .ok (.aload_n 0, 1) := by decide +kernel
theorem dX9_write_30 : decode cX9_write 30 = .ok (.iload_n 1, 1) := by decide +kernel
theorem dX9_write_31 : decode cX9_write 31 = .ok (.invokevirtual 170, 3) := by decide +kernel
theorem dX9_write_34 : decode cX9_write 34 = .ok (.ifCond .eq 7, 3) := by decide +kernel
theorem dX9_write_37 : decode cX9_write 37 = .ok (.iconst 3, 1) := by decide +kernel
theorem dX9_write_38 : decode cX9_write 38 = .ok (.goto 4, 3) := by decide +kernel
theorem dX9_write_41 : decode cX9_write 41 = .ok (.iconst 0, 1) := by decide +kernel
theorem dX9_write_42 : decode cX9_write 42 = .ok (.invokevirtual 54, 3) := by decide +kernel
theorem dX9_write_45 : decode cX9_write 45 = .ok (.ifCond .eq 5, 3) := by decide +kernel
theorem dX9_write_48 : decode cX9_write 48 = .ok (.iconst 0, 1) := by decide +kernel
theorem dX9_write_49 : decode cX9_write 49 = .ok (.ireturn, 1) := by decide +kernel
theorem dX9_write_50 : decode cX9_write 50 = .ok (.aload_n 0, 1) := by decide +kernel
theorem dX9_write_51 : decode cX9_write 51 = .ok (.invokevirtual 145, 3) := by decide +kernel
theorem dX9_write_54 : decode cX9_write 54 = .ok (.aload_n 0, 1) := by decide +kernel
theorem dX9_write_55 : decode cX9_write 55 = .ok (.getfield 7, 3) := by decide +kernel
theorem dX9_write_58 : decode cX9_write 58 = .ok (.bipush 82, 2) := by decide +kernel
theorem dX9_write_60 : decode cX9_write 60 = .ok (.bipush 6, 2) := by decide +kernel
theorem dX9_write_62 : decode cX9_write 62 = .ok (.iload_n 1, 1) := by decide +kernel
theorem dX9_write_63 : decode cX9_write 63 = .ok (.imul, 1) := by decide +kernel
theorem dX9_write_64 : decode cX9_write 64 = .ok (.iadd, 1) := by decide +kernel
theorem dX9_write_65 : decode cX9_write 65 = .ok (.iload_n 2, 1) := by decide +kernel
theorem dX9_write_66 : decode cX9_write 66 = .ok (.iadd, 1) := by decide +kernel
theorem dX9_write_67 : decode cX9_write 67 = .ok (.iaload, 1) := by decide +kernel
theorem dX9_write_68 : decode cX9_write 68 = .ok (.istore 4, 2) := by decide +kernel
theorem dX9_write_70 : decode cX9_write 70 = .ok (.aload_n 0, 1) := by decide +kernel
theorem dX9_write_71 : decode cX9_write 71 = .ok (.invokevirtual 173, 3) := by decide +kernel
theorem dX9_write_74 : decode cX9_write 74 = .ok (.aload_n 0, 1) := by decide +kernel
theorem dX9_write_75 : decode cX9_write 75 = .ok (.getfield 25, 3) := by decide +kernel
theorem dX9_write_78 : decode cX9_write 78 = .ok (.bipush 6, 2) := by decide +kernel
theorem dX9_write_80 : decode cX9_write 80 = .ok (.iload_n 1, 1) := by decide +kernel
theorem dX9_write_81 : decode cX9_write 81 = .ok (.imul, 1) := by decide +kernel
theorem dX9_write_82 : decode cX9_write 82 = .ok (.iload_n 2, 1) := by decide +kernel
theorem dX9_write_83 : decode cX9_write 83 = .ok (.iadd, 1) := by decide +kernel
theorem dX9_write_84 : decode cX9_write 84 = .ok (.iload_n 3, 1) := by decide +kernel
theorem dX9_write_85 : decode cX9_write 85 = .ok (.iastore, 1) := by decide +kernel
theorem dX9_write_86 : decode cX9_write 86 = .ok (.aload_n 0, 1) := by decide +kernel
theorem dX9_write_87 : decode cX9_write 87 = .ok (.iconst (-1), 1) := by decide +kernel
theorem dX9_write_88 : decode cX9_write 88 = .ok (.invokevirtual 176, 3) := by decide +kernel
theorem dX9_write_91 : decode cX9_write 91 = .ok (.pop, 1) := by decide +kernel
theorem dX9_write_92 : decode cX9_write 92 = .ok (.iload 4, 2) := by decide +kernel
theorem dX9_write_94 : decode cX9_write 94 = .ok (.ireturn, 1) := by decide +kernel
theorem dX9_isUser_0 : decode cX9_isUser 0 = .ok (.iload_n 0, 1) := by decide +kernel
theorem dX9_isUser_1 : decode cX9_isUser 1 = .ok (.iconst 0, 1) := by decide +kernel
theorem dX9_isUser_2 : decode cX9_isUser 2 = .ok (.iconst 5, 1) := by decide +kernel
theorem dX9_isUser_3 : decode cX9_isUser 3 = .ok (.invokestatic 58, 3) := by decide +kernel
theorem dX9_isUser_6 : decode cX9_isUser 6 = .ok (.ireturn, 1) := by decide +kernel
theorem dX9_placeOf_0 : decode cX9_placeOf 0 = .ok (.iconst (-1), 1) := by decide +kernel
theorem dX9_placeOf_1 : decode cX9_placeOf 1 = .ok (.istore_n 2, 1) := by decide +kernel
theorem dX9_placeOf_2 : decode cX9_placeOf 2 = .ok (.iconst 0, 1) := by decide +kernel
theorem dX9_placeOf_3 : decode cX9_placeOf 3 = .ok (.istore_n 3, 1) := by decide +kernel
theorem dX9_placeOf_4 : decode cX9_placeOf 4 = .ok (.iload_n 3, 1) := by decide +kernel
theorem dX9_placeOf_5 : decode cX9_placeOf 5 = .ok (.aload_n 0, 1) := by decide +kernel
theorem dX9_placeOf_6 : decode cX9_placeOf 6 = .ok (.invokevirtual 79, 3) := by decide +kernel
theorem dX9_placeOf_9 : decode cX9_placeOf 9 = .ok (.if_icmp .ge 29, 3) := by decide +kernel
theorem dX9_placeOf_12 : decode cX9_placeOf 12 = .ok (.aload_n 0, 1) := by decide +kernel
theorem dX9_placeOf_13 : decode cX9_placeOf 13 = .ok (.getfield 7, 3) := by decide +kernel
theorem dX9_placeOf_16 : decode cX9_placeOf 16 = .ok (.iload_n 3, 1) := by decide +kernel
theorem dX9_placeOf_17 : decode cX9_placeOf 17 = .ok (.iconst 0, 1) := by decide +kernel
theorem dX9_placeOf_18 : decode cX9_placeOf 18 = .ok (.invokestatic 83, 3) := by decide +kernel
theorem dX9_placeOf_21 : decode cX9_placeOf 21 = .ok (.iaload, 1) := by decide +kernel
theorem dX9_placeOf_22 : decode cX9_placeOf 22 = .ok (.iload_n 1, 1) := by decide +kernel
theorem dX9_placeOf_23 : decode cX9_placeOf 23 = .ok (.if_icmp .ne 7, 3) := by decide +kernel
theorem dX9_placeOf_26 : decode cX9_placeOf 26 = .ok (.iload_n 3, 1) := by decide +kernel
theorem dX9_placeOf_27 : decode cX9_placeOf 27 = .ok (.goto 4, 3) := by decide +kernel
theorem dX9_placeOf_30 : decode cX9_placeOf 30 = .ok (.iload_n 2, 1) := by decide +kernel
theorem dX9_placeOf_31 : decode cX9_placeOf 31 = .ok (.istore_n 2, 1) := by decide +kernel
theorem dX9_placeOf_32 : decode cX9_placeOf 32 = .ok (.iinc 3 1, 3) := by decide +kernel
theorem dX9_placeOf_35 : decode cX9_placeOf 35 = .ok (.goto (-31), 3) := by decide +kernel
theorem dX9_placeOf_38 : decode cX9_placeOf 38 = .ok (.iload_n 2, 1) := by decide +kernel
theorem dX9_placeOf_39 : decode cX9_placeOf 39 = .ok (.ireturn, 1) := by decide +kernel
theorem dX9_barRequest_0 : decode cX9_barRequest 0 = .ok (.iload_n 1, 1) := by decide +kernel
theorem dX9_barRequest_1 : decode cX9_barRequest 1 = .ok (.invokestatic 179, 3) := by decide +kernel
theorem dX9_barRequest_4 : decode cX9_barRequest 4 = .ok (.ifCond .eq 11, 3) := by decide +kernel
theorem dX9_barRequest_7 : decode cX9_barRequest 7 = .ok (.aload_n 0, 1) := by decide +kernel
theorem dX9_barRequest_8 : decode cX9_barRequest 8 = .ok (.iload_n 2, 1) := by decide +kernel
theorem dX9_barRequest_9 : decode cX9_barRequest 9 = .ok (.invokevirtual 102, 3) := by decide +kernel
theorem dX9_barRequest_12 : decode cX9_barRequest 12 = .ok (.ifCond .ne 5, 3) := by decide +kernel
theorem dX9_barRequest_15 : decode cX9_barRequest 15 = .ok (.iconst 1, 1) := by decide +kernel
theorem dX9_barRequest_16 : decode cX9_barRequest 16 = .ok (.ireturn, 1) := by decide +kernel
theorem dX9_barRequest_17 : decode cX9_barRequest 17 = .ok (.iload_n 3, 1) := by decide +kernel
theorem dX9_barRequest_18 : decode cX9_barRequest 18 = .ok (.iconst 1, 1) := by decide +kernel
theorem dX9_barRequest_19 : decode cX9_barRequest 19 = .ok (.sipush 1000, 3) := by decide +kernel
theorem dX9_barRequest_22 : decode cX9_barRequest 22 = .ok (.invokestatic 58, 3) := by decide +kernel
theorem dX9_barRequest_25 : decode cX9_barRequest 25 = .ok (.ifCond .ne 5, 3) := by decide +kernel
theorem dX9_barRequest_28 : decode cX9_barRequest 28 = .ok (.iconst 2, 1) := by decide +kernel
theorem dX9_barRequest_29 : decode cX9_barRequest 29 = .ok (.ireturn, 1) := by decide +kernel
theorem dX9_barRequest_30 : decode cX9_barRequest 30 = .ok (.aload_n 0, 1) := by decide +kernel
theorem dX9_barRequest_31 : decode cX9_barRequest 31 = .ok (.iload_n 1, 1) := by decide +kernel
theorem dX9_barRequest_32 : decode cX9_barRequest 32 = .ok (.invokevirtual 182, 3) := by decide +kernel
theorem dX9_barRequest_35 : decode cX9_barRequest 35 = .ok (.iconst (-1), 1) := by decide +kernel
theorem dX9_barRequest_36 : decode cX9_barRequest 36 = .ok (.if_icmp .ne 12, 3) := by decide +kernel
theorem dX9_barRequest_39 : decode cX9_barRequest 39 = .ok (.aload_n 0, 1) := by decide +kernel
theorem dX9_barRequest_40 : decode cX9_barRequest 40 = .ok (.invokevirtual 79, 3) := by decide +kernel
theorem dX9_barRequest_43 : decode cX9_barRequest 43 = .ok (.bipush 8, 2) := by decide +kernel
theorem dX9_barRequest_45 : decode cX9_barRequest 45 = .ok (.if_icmp .ne 7, 3) := by decide +kernel
theorem dX9_barRequest_48 : decode cX9_barRequest 48 = .ok (.iconst 1, 1) := by decide +kernel
theorem dX9_barRequest_49 : decode cX9_barRequest 49 = .ok (.goto 4, 3) := by decide +kernel
theorem dX9_barRequest_52 : decode cX9_barRequest 52 = .ok (.iconst 0, 1) := by decide +kernel
theorem dX9_barRequest_53 : decode cX9_barRequest 53 = .ok (.istore 5, 2) := by decide +kernel
theorem dX9_barRequest_55 : decode cX9_barRequest 55 = .ok (.iconst 0, 1) := by decide +kernel
theorem dX9_barRequest_56 : decode cX9_barRequest 56 = .ok (.istore 6, 2) := by decide +kernel
theorem dX9_barRequest_58 : decode cX9_barRequest 58 = .ok (.iload 6, 2) := by decide +kernel
theorem dX9_barRequest_60 : decode cX9_barRequest 60 = .ok (.bipush 10, 2) := by decide +kernel
theorem dX9_barRequest_62 : decode cX9_barRequest 62 = .ok (.if_icmp .ge 89, 3) := by decide +kernel
theorem dX9_barRequest_65 : decode cX9_barRequest 65 = .ok (.aload_n 0, 1) := by decide +kernel
theorem dX9_barRequest_66 : decode cX9_barRequest 66 = .ok (.iload 6, 2) := by decide +kernel
theorem dX9_barRequest_68 : decode cX9_barRequest 68 = .ok (.invokevirtual 92, 3) := by decide +kernel
theorem dX9_barRequest_71 : decode cX9_barRequest 71 = .ok (.ifCond .eq 18, 3) := by decide +kernel
theorem dX9_barRequest_74 : decode cX9_barRequest 74 = .ok (.aload_n 0, 1) := by decide +kernel
theorem dX9_barRequest_75 : decode cX9_barRequest 75 = .ok (.iload 6, 2) := by decide +kernel
theorem dX9_barRequest_77 : decode cX9_barRequest 77 = .ok (.iconst 1, 1) := by decide +kernel
theorem dX9_barRequest_78 : decode cX9_barRequest 78 = .ok (.invokevirtual 73, 3) := by decide +kernel
theorem dX9_barRequest_81 : decode cX9_barRequest 81 = .ok (.iload_n 1, 1) := by decide +kernel
theorem dX9_barRequest_82 : decode cX9_barRequest 82 = .ok (.if_icmp .ne 7, 3) := by decide +kernel
theorem dX9_barRequest_85 : decode cX9_barRequest 85 = .ok (.iconst 1, 1) := by decide +kernel
theorem dX9_barRequest_86 : decode cX9_barRequest 86 = .ok (.goto 4, 3) := by decide +kernel
theorem dX9_barRequest_89 : decode cX9_barRequest 89 = .ok (.iconst 0, 1) := by decide +kernel
theorem dX9_barRequest_90 : decode cX9_barRequest 90 = .ok (.istore 7, 2) := by decide +kernel
theorem dX9_barRequest_92 : decode cX9_barRequest 92 = .ok (.iload 5, 2) := by decide +kernel
theorem dX9_barRequest_94 : decode cX9_barRequest 94 = .ok (.ifCond .ne 44, 3) := by decide +kernel
theorem dX9_barRequest_97 : decode cX9_barRequest 97 = .ok (.iload 7, 2) := by decide +kernel
theorem dX9_barRequest_99 : decode cX9_barRequest 99 = .ok (.ifCond .eq 43, 3) := by decide +kernel
theorem dX9_barRequest_102 : decode cX9_barRequest 102 = .ok (.aload_n 0, 1) := by decide +kernel
theorem dX9_barRequest_103 : decode cX9_barRequest 103 = .ok (.iload_n 2, 1) := by decide +kernel
theorem dX9_barRequest_104 : decode cX9_barRequest 104 = .ok (.aload_n 0, 1) := by decide +kernel
theorem dX9_barRequest_105 : decode cX9_barRequest 105 = .ok (.iload 6, 2) := by decide +kernel
theorem dX9_barRequest_107 : decode cX9_barRequest 107 = .ok (.iconst 2, 1) := by decide +kernel
theorem dX9_barRequest_108 : decode cX9_barRequest 108 = .ok (.invokevirtual 73, 3) := by decide +kernel
theorem dX9_barRequest_111 : decode cX9_barRequest 111 = .ok (.invokevirtual 62, 3) := by decide +kernel
theorem dX9_barRequest_114 : decode cX9_barRequest 114 = .ok (.ifCond .ne 24, 3) := by decide +kernel
theorem dX9_barRequest_117 : decode cX9_barRequest 117 = .ok (.iload 4, 2) := by decide +kernel
theorem dX9_barRequest_119 : decode cX9_barRequest 119 = .ok (.iconst 1, 1) := by decide +kernel
theorem dX9_barRequest_120 : decode cX9_barRequest 120 = .ok (.if_icmp .ne 22, 3) := by decide +kernel
theorem dX9_barRequest_123 : decode cX9_barRequest 123 = .ok (.aload_n 0, 1) := by decide +kernel
theorem dX9_barRequest_124 : decode cX9_barRequest 124 = .ok (.iload_n 2, 1) := by decide +kernel
theorem dX9_barRequest_125 : decode cX9_barRequest 125 = .ok (.aload_n 0, 1) := by decide +kernel
theorem dX9_barRequest_126 : decode cX9_barRequest 126 = .ok (.iload 6, 2) := by decide +kernel
theorem dX9_barRequest_128 : decode cX9_barRequest 128 = .ok (.iconst 2, 1) := by decide +kernel
theorem dX9_barRequest_129 : decode cX9_barRequest 129 = .ok (.invokevirtual 73, 3) := by decide +kernel
theorem dX9_barRequest_132 : decode cX9_barRequest 132 = .ok (.invokevirtual 86, 3) := by decide +kernel
theorem dX9_barRequest_135 : decode cX9_barRequest 135 = .ok (.ifCond .eq 7, 3) := by decide +kernel
theorem dX9_barRequest_138 : decode cX9_barRequest 138 = .ok (.iconst 1, 1) := by decide +kernel
theorem dX9_barRequest_139 : decode cX9_barRequest 139 = .ok (.goto 4, 3) := by decide +kernel
theorem dX9_barRequest_142 : decode cX9_barRequest 142 = .ok (.iconst 0, 1) := by decide +kernel
theorem dX9_barRequest_143 : decode cX9_barRequest 143 = .ok (.istore 5, 2) := by decide +kernel
theorem dX9_barRequest_145 : decode cX9_barRequest 145 = .ok (.iinc 6 1, 3) := by decide +kernel
theorem dX9_barRequest_148 : decode cX9_barRequest 148 = .ok (.goto (-90), 3) := by decide +kernel
theorem dX9_barRequest_151 : decode cX9_barRequest 151 = .ok (.iload 5, 2) := by decide +kernel
theorem dX9_barRequest_153 : decode cX9_barRequest 153 = .ok (.ifCond .eq 7, 3) := by decide +kernel
theorem dX9_barRequest_156 : decode cX9_barRequest 156 = .ok (.iconst 3, 1) := by decide +kernel
theorem dX9_barRequest_157 : decode cX9_barRequest 157 = .ok (.goto 4, 3) := by decide +kernel
theorem dX9_barRequest_160 : decode cX9_barRequest 160 = .ok (.iconst 0, 1) := by decide +kernel
theorem dX9_barRequest_161 : decode cX9_barRequest 161 = .ok (.ireturn, 1) := by decide +kernel
theorem dX9_requests_0 : decode cX9_requests 0 = .ok (.aload_n 0, 1) := by decide +kernel
theorem dX9_requests_1 : decode cX9_requests 1 = .ok (.iload_n 1, 1) := by decide +kernel
theorem dX9_requests_2 : decode cX9_requests 2 = .ok (.iload_n 2, 1) := by decide +kernel
theorem dX9_requests_3 : decode cX9_requests 3 = .ok (.iload 4, 2) := by decide +kernel
theorem dX9_requests_5 : decode cX9_requests 5 = .ok (.invokevirtual 116, 3) := by decide +kernel
theorem dX9_requests_8 : decode cX9_requests 8 = .ok (.ifCond .eq 27, 3) := by decide +kernel
theorem dX9_requests_11 : decode cX9_requests 11 = .ok (.aload_n 0, 1) := by decide +kernel
theorem dX9_requests_12 : decode cX9_requests 12 = .ok (.aload_n 0, 1) := by decide +kernel
theorem dX9_requests_13 : decode cX9_requests 13 = .ok (.invokevirtual 79, 3) := by decide +kernel
theorem dX9_requests_16 : decode cX9_requests 16 = .ok (.iload_n 2, 1) := by decide +kernel
theorem dX9_requests_17 : decode cX9_requests 17 = .ok (.iload 4, 2) := by decide +kernel
theorem dX9_requests_19 : decode cX9_requests 19 = .ok (.invokevirtual 119, 3) := by decide +kernel
theorem dX9_requests_22 : decode cX9_requests 22 = .ok (.ifCond .ne 13, 3) := by decide +kernel
theorem dX9_requests_25 : decode cX9_requests 25 = .ok (.aload_n 0, 1) := by decide +kernel
theorem dX9_requests_26 : decode cX9_requests 26 = .ok (.iload_n 1, 1) := by decide +kernel
theorem dX9_requests_27 : decode cX9_requests 27 = .ok (.iload_n 2, 1) := by decide +kernel
theorem dX9_requests_28 : decode cX9_requests 28 = .ok (.iload_n 3, 1) := by decide +kernel
theorem dX9_requests_29 : decode cX9_requests 29 = .ok (.iload 4, 2) := by decide +kernel
theorem dX9_requests_31 : decode cX9_requests 31 = .ok (.invokevirtual 125, 3) := by decide +kernel
theorem dX9_requests_34 : decode cX9_requests 34 = .ok (.ireturn, 1) := by decide +kernel
theorem dX9_requests_35 : decode cX9_requests 35 = .ok (.aload_n 0, 1) := by decide +kernel
theorem dX9_requests_36 : decode cX9_requests 36 = .ok (.invokevirtual 79, 3) := by decide +kernel
theorem dX9_requests_39 : decode cX9_requests 39 = .ok (.istore 5, 2) := by decide +kernel
theorem dX9_requests_41 : decode cX9_requests 41 = .ok (.aload_n 0, 1) := by decide +kernel
theorem dX9_requests_42 : decode cX9_requests 42 = .ok (.getfield 7, 3) := by decide +kernel
theorem dX9_requests_45 : decode cX9_requests 45 = .ok (.iload 5, 2) := by decide +kernel
theorem dX9_requests_47 : decode cX9_requests 47 = .ok (.iconst 0, 1) := by decide +kernel
theorem dX9_requests_48 : decode cX9_requests 48 = .ok (.invokestatic 83, 3) := by decide +kernel
theorem dX9_requests_51 : decode cX9_requests 51 = .ok (.iload_n 1, 1) := by decide +kernel
theorem dX9_requests_52 : decode cX9_requests 52 = .ok (.iastore, 1) := by decide +kernel
theorem dX9_requests_53 : decode cX9_requests 53 = .ok (.aload_n 0, 1) := by decide +kernel
theorem dX9_requests_54 : decode cX9_requests 54 = .ok (.getfield 7, 3) := by decide +kernel
theorem dX9_requests_57 : decode cX9_requests 57 = .ok (.iload 5, 2) := by decide +kernel
theorem dX9_requests_59 : decode cX9_requests 59 = .ok (.iconst 1, 1) := by decide +kernel
theorem dX9_requests_60 : decode cX9_requests 60 = .ok (.invokestatic 83, 3) := by decide +kernel
theorem dX9_requests_63 : decode cX9_requests 63 = .ok (.iload_n 2, 1) := by decide +kernel
theorem dX9_requests_64 : decode cX9_requests 64 = .ok (.iastore, 1) := by decide +kernel
theorem dX9_requests_65 : decode cX9_requests 65 = .ok (.aload_n 0, 1) := by decide +kernel
theorem dX9_requests_66 : decode cX9_requests 66 = .ok (.getfield 7, 3) := by decide +kernel
theorem dX9_requests_69 : decode cX9_requests 69 = .ok (.iload 5, 2) := by decide +kernel
theorem dX9_requests_71 : decode cX9_requests 71 = .ok (.iconst 2, 1) := by decide +kernel
theorem dX9_requests_72 : decode cX9_requests 72 = .ok (.invokestatic 83, 3) := by decide +kernel
theorem dX9_requests_75 : decode cX9_requests 75 = .ok (.iload_n 3, 1) := by decide +kernel
theorem dX9_requests_76 : decode cX9_requests 76 = .ok (.iastore, 1) := by decide +kernel
theorem dX9_requests_77 : decode cX9_requests 77 = .ok (.aload_n 0, 1) := by decide +kernel
theorem dX9_requests_78 : decode cX9_requests 78 = .ok (.getfield 7, 3) := by decide +kernel
theorem dX9_requests_81 : decode cX9_requests 81 = .ok (.iload 5, 2) := by decide +kernel
theorem dX9_requests_83 : decode cX9_requests 83 = .ok (.iconst 3, 1) := by decide +kernel
theorem dX9_requests_84 : decode cX9_requests 84 = .ok (.invokestatic 83, 3) := by decide +kernel
theorem dX9_requests_87 : decode cX9_requests 87 = .ok (.iload 4, 2) := by decide +kernel
theorem dX9_requests_89 : decode cX9_requests 89 = .ok (.iastore, 1) := by decide +kernel
theorem dX9_requests_90 : decode cX9_requests 90 = .ok (.aload_n 0, 1) := by decide +kernel
theorem dX9_requests_91 : decode cX9_requests 91 = .ok (.getfield 7, 3) := by decide +kernel
theorem dX9_requests_94 : decode cX9_requests 94 = .ok (.sipush 2662, 3) := by decide +kernel
theorem dX9_requests_97 : decode cX9_requests 97 = .ok (.dup2, 1) := by decide +kernel
theorem dX9_requests_98 : decode cX9_requests 98 = .ok (.iaload, 1) := by decide +kernel
theorem dX9_requests_99 : decode cX9_requests 99 = .ok (.iconst 1, 1) := by decide +kernel
theorem dX9_requests_100 : decode cX9_requests 100 = .ok (.iadd, 1) := by decide +kernel
theorem dX9_requests_101 : decode cX9_requests 101 = .ok (.iastore, 1) := by decide +kernel
theorem dX9_requests_102 : decode cX9_requests 102 = .ok (.iconst (-1), 1) := by decide +kernel
theorem dX9_requests_103 : decode cX9_requests 103 = .ok (.ireturn, 1) := by decide +kernel
theorem dX9_request_0 : decode cX9_request 0 = .ok (.iload 4, 2) := by decide +kernel
theorem dX9_request_2 : decode cX9_request 2 = .ok (.ifCond .eq 7, 3) := by decide +kernel
theorem dX9_request_5 : decode cX9_request 5 = .ok (.iconst 1, 1) := by decide +kernel
theorem dX9_request_6 : decode cX9_request 6 = .ok (.goto 4, 3) := by decide +kernel
theorem dX9_request_9 : decode cX9_request 9 = .ok (.iconst 0, 1) := by decide +kernel
theorem dX9_request_10 : decode cX9_request 10 = .ok (.istore 5, 2) := by decide +kernel
theorem dX9_request_12 : decode cX9_request 12 = .ok (.aload_n 0, 1) := by decide +kernel
theorem dX9_request_13 : decode cX9_request 13 = .ok (.aload_n 0, 1) := by decide +kernel
theorem dX9_request_14 : decode cX9_request 14 = .ok (.iload_n 1, 1) := by decide +kernel
theorem dX9_request_15 : decode cX9_request 15 = .ok (.iload_n 2, 1) := by decide +kernel
theorem dX9_request_16 : decode cX9_request 16 = .ok (.iload_n 3, 1) := by decide +kernel
theorem dX9_request_17 : decode cX9_request 17 = .ok (.iload 5, 2) := by decide +kernel
theorem dX9_request_19 : decode cX9_request 19 = .ok (.invokevirtual 185, 3) := by decide +kernel
theorem dX9_request_22 : decode cX9_request 22 = .ok (.invokevirtual 54, 3) := by decide +kernel
theorem dX9_request_25 : decode cX9_request 25 = .ok (.ifCond .eq 5, 3) := by decide +kernel
theorem dX9_request_28 : decode cX9_request 28 = .ok (.iconst 0, 1) := by decide +kernel
theorem dX9_request_29 : decode cX9_request 29 = .ok (.ireturn, 1) := by decide +kernel
theorem dX9_request_30 : decode cX9_request 30 = .ok (.aload_n 0, 1) := by decide +kernel
theorem dX9_request_31 : decode cX9_request 31 = .ok (.invokevirtual 145, 3) := by decide +kernel
theorem dX9_request_34 : decode cX9_request 34 = .ok (.aload_n 0, 1) := by decide +kernel
theorem dX9_request_35 : decode cX9_request 35 = .ok (.iload_n 1, 1) := by decide +kernel
theorem dX9_request_36 : decode cX9_request 36 = .ok (.iload_n 2, 1) := by decide +kernel
theorem dX9_request_37 : decode cX9_request 37 = .ok (.iload_n 3, 1) := by decide +kernel
theorem dX9_request_38 : decode cX9_request 38 = .ok (.iload 5, 2) := by decide +kernel
theorem dX9_request_40 : decode cX9_request 40 = .ok (.invokevirtual 188, 3) := by decide +kernel
theorem dX9_request_43 : decode cX9_request 43 = .ok (.ireturn, 1) := by decide +kernel
theorem dX9_cancel_0 : decode cX9_cancel 0 = .ok (.aload_n 0, 1) := by decide +kernel
theorem dX9_cancel_1 : decode cX9_cancel 1 = .ok (.iload_n 1, 1) := by decide +kernel
theorem dX9_cancel_2 : decode cX9_cancel 2 = .ok (.invokestatic 179, 3) := by decide +kernel
theorem dX9_cancel_5 : decode cX9_cancel 5 = .ok (.ifCond .ne 7, 3) := by decide +kernel
theorem dX9_cancel_8 : decode cX9_cancel 8 = .ok (.iconst 1, 1) := by decide +kernel
theorem dX9_cancel_9 : decode cX9_cancel 9 = .ok (.goto 17, 3) := by decide +kernel
theorem dX9_cancel_12 : decode cX9_cancel 12 = .ok (.aload_n 0, 1) := by decide +kernel
theorem dX9_cancel_13 : decode cX9_cancel 13 = .ok (.iload_n 1, 1) := by decide +kernel
theorem dX9_cancel_14 : decode cX9_cancel 14 = .ok (.invokevirtual 182, 3) := by decide +kernel
theorem dX9_cancel_17 : decode cX9_cancel 17 = .ok (.iconst (-1), 1) := by decide +kernel
theorem dX9_cancel_18 : decode cX9_cancel 18 = .ok (.if_icmp .ne 7, 3) := by decide +kernel
theorem dX9_cancel_21 : decode cX9_cancel 21 = .ok (.iconst 2, 1) := by decide +kernel
theorem dX9_cancel_22 : decode cX9_cancel 22 = .ok (.goto 4, 3) := by decide +kernel
theorem dX9_cancel_25 : decode cX9_cancel 25 = .ok (.iconst 0, 1) := by decide +kernel
theorem dX9_cancel_26 : decode cX9_cancel 26 = .ok (.invokevirtual 54, 3) := by decide +kernel
theorem dX9_cancel_29 : decode cX9_cancel 29 = .ok (.ifCond .eq 5, 3) := by decide +kernel
theorem dX9_cancel_32 : decode cX9_cancel 32 = .ok (.iconst 0, 1) := by decide +kernel
theorem dX9_cancel_33 : decode cX9_cancel 33 = .ok (.ireturn, 1) := by decide +kernel
theorem dX9_cancel_34 : decode cX9_cancel 34 = .ok (.aload_n 0, 1) := by decide +kernel
theorem dX9_cancel_35 : decode cX9_cancel 35 = .ok (.invokevirtual 145, 3) := by decide +kernel
theorem dX9_cancel_38 : decode cX9_cancel 38 = .ok (.aload_n 0, 1) := by decide +kernel
theorem dX9_cancel_39 : decode cX9_cancel 39 = .ok (.aload_n 0, 1) := by decide +kernel
theorem dX9_cancel_40 : decode cX9_cancel 40 = .ok (.iload_n 1, 1) := by decide +kernel
theorem dX9_cancel_41 : decode cX9_cancel 41 = .ok (.invokevirtual 182, 3) := by decide +kernel
theorem dX9_cancel_44 : decode cX9_cancel 44 = .ok (.invokevirtual 122, 3) := by decide +kernel
theorem dX9_cancel_47 : decode cX9_cancel 47 = .ok (.aload_n 0, 1) := by decide +kernel
theorem dX9_cancel_48 : decode cX9_cancel 48 = .ok (.invokevirtual 132, 3) := by decide +kernel
theorem dX9_cancel_51 : decode cX9_cancel 51 = .ok (.aload_n 0, 1) := by decide +kernel
theorem dX9_cancel_52 : decode cX9_cancel 52 = .ok (.invokevirtual 79, 3) := by decide +kernel
theorem dX9_cancel_55 : decode cX9_cancel 55 = .ok (.ireturn, 1) := by decide +kernel
theorem dX9_renew_0 : decode cX9_renew 0 = .ok (.aload_n 0, 1) := by decide +kernel
theorem dX9_renew_1 : decode cX9_renew 1 = .ok (.aload_n 0, 1) := by decide +kernel
theorem dX9_renew_2 : decode cX9_renew 2 = .ok (.iload_n 1, 1) := by decide +kernel
theorem dX9_renew_3 : decode cX9_renew 3 = .ok (.invokevirtual 76, 3) := by decide +kernel
theorem dX9_renew_6 : decode cX9_renew 6 = .ok (.ifCond .ne 7, 3) := by decide +kernel
theorem dX9_renew_9 : decode cX9_renew 9 = .ok (.iconst 1, 1) := by decide +kernel
theorem dX9_renew_10 : decode cX9_renew 10 = .ok (.goto 44, 3) := by decide +kernel
theorem dX9_renew_13 : decode cX9_renew 13 = .ok (.iload_n 2, 1) := by decide +kernel
theorem dX9_renew_14 : decode cX9_renew 14 = .ok (.iconst 1, 1) := by decide +kernel
theorem dX9_renew_15 : decode cX9_renew 15 = .ok (.sipush 1000, 3) := by decide +kernel
theorem dX9_renew_18 : decode cX9_renew 18 = .ok (.invokestatic 58, 3) := by decide +kernel
theorem dX9_renew_21 : decode cX9_renew 21 = .ok (.ifCond .ne 7, 3) := by decide +kernel
theorem dX9_renew_24 : decode cX9_renew 24 = .ok (.iconst 2, 1) := by decide +kernel
theorem dX9_renew_25 : decode cX9_renew 25 = .ok (.goto 29, 3) := by decide +kernel
theorem dX9_renew_28 : decode cX9_renew 28 = .ok (.aload_n 0, 1) := by decide +kernel
theorem dX9_renew_29 : decode cX9_renew 29 = .ok (.iload_n 1, 1) := by decide +kernel
theorem dX9_renew_30 : decode cX9_renew 30 = .ok (.invokevirtual 92, 3) := by decide +kernel
theorem dX9_renew_33 : decode cX9_renew 33 = .ok (.ifCond .eq 16, 3) := by decide +kernel
theorem dX9_renew_36 : decode cX9_renew 36 = .ok (.aload_n 0, 1) := by decide +kernel
theorem dX9_renew_37 : decode cX9_renew 37 = .ok (.aload_n 0, 1) := by decide +kernel
theorem dX9_renew_38 : decode cX9_renew 38 = .ok (.iload_n 1, 1) := by decide +kernel
theorem dX9_renew_39 : decode cX9_renew 39 = .ok (.iconst 2, 1) := by decide +kernel
theorem dX9_renew_40 : decode cX9_renew 40 = .ok (.invokevirtual 73, 3) := by decide +kernel
theorem dX9_renew_43 : decode cX9_renew 43 = .ok (.invokevirtual 89, 3) := by decide +kernel
theorem dX9_renew_46 : decode cX9_renew 46 = .ok (.ifCond .eq 7, 3) := by decide +kernel
theorem dX9_renew_49 : decode cX9_renew 49 = .ok (.iconst 3, 1) := by decide +kernel
theorem dX9_renew_50 : decode cX9_renew 50 = .ok (.goto 4, 3) := by decide +kernel
theorem dX9_renew_53 : decode cX9_renew 53 = .ok (.iconst 0, 1) := by decide +kernel
theorem dX9_renew_54 : decode cX9_renew 54 = .ok (.invokevirtual 54, 3) := by decide +kernel
theorem dX9_renew_57 : decode cX9_renew 57 = .ok (.ifCond .eq 5, 3) := by decide +kernel
theorem dX9_renew_60 : decode cX9_renew 60 = .ok (.iconst 0, 1) := by decide +kernel
theorem dX9_renew_61 : decode cX9_renew 61 = .ok (.ireturn, 1) := by decide +kernel
theorem dX9_renew_62 : decode cX9_renew 62 = .ok (.aload_n 0, 1) := by decide +kernel
theorem dX9_renew_63 : decode cX9_renew 63 = .ok (.invokevirtual 145, 3) := by decide +kernel
theorem dX9_renew_66 : decode cX9_renew 66 = .ok (.aload_n 0, 1) := by decide +kernel
theorem dX9_renew_67 : decode cX9_renew 67 = .ok (.getfield 7, 3) := by decide +kernel
theorem dX9_renew_70 : decode cX9_renew 70 = .ok (.iload_n 1, 1) := by decide +kernel
theorem dX9_renew_71 : decode cX9_renew 71 = .ok (.iconst 3, 1) := by decide +kernel
theorem dX9_renew_72 : decode cX9_renew 72 = .ok (.invokestatic 69, 3) := by decide +kernel
theorem dX9_renew_75 : decode cX9_renew 75 = .ok (.aload_n 0, 1) := by decide +kernel
theorem dX9_renew_76 : decode cX9_renew 76 = .ok (.getfield 7, 3) := by decide +kernel
theorem dX9_renew_79 : decode cX9_renew 79 = .ok (.iconst 0, 1) := by decide +kernel
theorem dX9_renew_80 : decode cX9_renew 80 = .ok (.iaload, 1) := by decide +kernel
theorem dX9_renew_81 : decode cX9_renew 81 = .ok (.iload_n 2, 1) := by decide +kernel
theorem dX9_renew_82 : decode cX9_renew 82 = .ok (.iadd, 1) := by decide +kernel
theorem dX9_renew_83 : decode cX9_renew 83 = .ok (.iastore, 1) := by decide +kernel
theorem dX9_renew_84 : decode cX9_renew 84 = .ok (.aload_n 0, 1) := by decide +kernel
theorem dX9_renew_85 : decode cX9_renew 85 = .ok (.iload_n 1, 1) := by decide +kernel
theorem dX9_renew_86 : decode cX9_renew 86 = .ok (.iconst 3, 1) := by decide +kernel
theorem dX9_renew_87 : decode cX9_renew 87 = .ok (.invokevirtual 73, 3) := by decide +kernel
theorem dX9_renew_90 : decode cX9_renew 90 = .ok (.ireturn, 1) := by decide +kernel
theorem dX9_barBreak_0 : decode cX9_barBreak 0 = .ok (.aload_n 0, 1) := by decide +kernel
theorem dX9_barBreak_1 : decode cX9_barBreak 1 = .ok (.iload_n 1, 1) := by decide +kernel
theorem dX9_barBreak_2 : decode cX9_barBreak 2 = .ok (.invokevirtual 76, 3) := by decide +kernel
theorem dX9_barBreak_5 : decode cX9_barBreak 5 = .ok (.ifCond .ne 7, 3) := by decide +kernel
theorem dX9_barBreak_8 : decode cX9_barBreak 8 = .ok (.iconst 1, 1) := by decide +kernel
theorem dX9_barBreak_9 : decode cX9_barBreak 9 = .ok (.goto 16, 3) := by decide +kernel
theorem dX9_barBreak_12 : decode cX9_barBreak 12 = .ok (.aload_n 0, 1) := by decide +kernel
theorem dX9_barBreak_13 : decode cX9_barBreak 13 = .ok (.iload_n 1, 1) := by decide +kernel
theorem dX9_barBreak_14 : decode cX9_barBreak 14 = .ok (.invokevirtual 92, 3) := by decide +kernel
theorem dX9_barBreak_17 : decode cX9_barBreak 17 = .ok (.ifCond .eq 7, 3) := by decide +kernel
theorem dX9_barBreak_20 : decode cX9_barBreak 20 = .ok (.iconst 0, 1) := by decide +kernel
theorem dX9_barBreak_21 : decode cX9_barBreak 21 = .ok (.goto 4, 3) := by decide +kernel
theorem dX9_barBreak_24 : decode cX9_barBreak 24 = .ok (.iconst 2, 1) := by decide +kernel
theorem dX9_barBreak_25 : decode cX9_barBreak 25 = .ok (.ireturn, 1) := by decide +kernel
theorem dX9_breaks_0 : decode cX9_breaks 0 = .ok (.aload_n 0, 1) := by decide +kernel
theorem dX9_breaks_1 : decode cX9_breaks 1 = .ok (.iload_n 1, 1) := by decide +kernel
theorem dX9_breaks_2 : decode cX9_breaks 2 = .ok (.invokevirtual 129, 3) := by decide +kernel
theorem dX9_breaks_5 : decode cX9_breaks 5 = .ok (.aload_n 0, 1) := by decide +kernel
theorem dX9_breaks_6 : decode cX9_breaks 6 = .ok (.invokevirtual 132, 3) := by decide +kernel
theorem dX9_breaks_9 : decode cX9_breaks 9 = .ok (.aload_n 0, 1) := by decide +kernel
theorem dX9_breaks_10 : decode cX9_breaks 10 = .ok (.iload_n 1, 1) := by decide +kernel
theorem dX9_breaks_11 : decode cX9_breaks 11 = .ok (.iconst 1, 1) := by decide +kernel
theorem dX9_breaks_12 : decode cX9_breaks 12 = .ok (.invokevirtual 73, 3) := by decide +kernel
theorem dX9_breaks_15 : decode cX9_breaks 15 = .ok (.ireturn, 1) := by decide +kernel
theorem dX9_breakUp_0 : decode cX9_breakUp 0 = .ok (.aload_n 0, 1) := by decide +kernel
theorem dX9_breakUp_1 : decode cX9_breakUp 1 = .ok (.aload_n 0, 1) := by decide +kernel
theorem dX9_breakUp_2 : decode cX9_breakUp 2 = .ok (.iload_n 1, 1) := by decide +kernel
theorem dX9_breakUp_3 : decode cX9_breakUp 3 = .ok (.invokevirtual 191, 3) := by decide +kernel
theorem dX9_breakUp_6 : decode cX9_breakUp 6 = .ok (.invokevirtual 54, 3) := by decide +kernel
theorem dX9_breakUp_9 : decode cX9_breakUp 9 = .ok (.ifCond .eq 5, 3) := by decide +kernel
theorem dX9_breakUp_12 : decode cX9_breakUp 12 = .ok (.iconst 0, 1) := by decide +kernel
theorem dX9_breakUp_13 : decode cX9_breakUp 13 = .ok (.ireturn, 1) := by decide +kernel
theorem dX9_breakUp_14 : decode cX9_breakUp 14 = .ok (.aload_n 0, 1) := by decide +kernel
theorem dX9_breakUp_15 : decode cX9_breakUp 15 = .ok (.invokevirtual 145, 3) := by decide +kernel
theorem dX9_breakUp_18 : decode cX9_breakUp 18 = .ok (.aload_n 0, 1) := by decide +kernel
theorem dX9_breakUp_19 : decode cX9_breakUp 19 = .ok (.iload_n 1, 1) := by decide +kernel
theorem dX9_breakUp_20 : decode cX9_breakUp 20 = .ok (.iconst 1, 1) := by decide +kernel
theorem dX9_breakUp_21 : decode cX9_breakUp 21 = .ok (.invokevirtual 73, 3) := by decide +kernel
theorem dX9_breakUp_24 : decode cX9_breakUp 24 = .ok (.istore_n 2, 1) := by decide +kernel
theorem dX9_breakUp_25 : decode cX9_breakUp 25 = .ok (.aload_n 0, 1) := by decide +kernel
theorem dX9_breakUp_26 : decode cX9_breakUp 26 = .ok (.iload_n 1, 1) := by decide +kernel
theorem dX9_breakUp_27 : decode cX9_breakUp 27 = .ok (.invokevirtual 194, 3) := by decide +kernel
theorem dX9_breakUp_30 : decode cX9_breakUp 30 = .ok (.pop, 1) := by decide +kernel
theorem dX9_breakUp_31 : decode cX9_breakUp 31 = .ok (.iload_n 2, 1) := by decide +kernel
theorem dX9_breakUp_32 : decode cX9_breakUp 32 = .ok (.ireturn, 1) := by decide +kernel
theorem dX9_edited_0 : decode cX9_edited 0 = .ok (.iconst 0, 1) := by decide +kernel
theorem dX9_edited_1 : decode cX9_edited 1 = .ok (.istore_n 2, 1) := by decide +kernel
theorem dX9_edited_2 : decode cX9_edited 2 = .ok (.iconst 0, 1) := by decide +kernel
theorem dX9_edited_3 : decode cX9_edited 3 = .ok (.istore_n 3, 1) := by decide +kernel
theorem dX9_edited_4 : decode cX9_edited 4 = .ok (.iload_n 3, 1) := by decide +kernel
theorem dX9_edited_5 : decode cX9_edited 5 = .ok (.bipush 20, 2) := by decide +kernel
theorem dX9_edited_7 : decode cX9_edited 7 = .ok (.if_icmp .ge 84, 3) := by decide +kernel
theorem dX9_edited_10 : decode cX9_edited 10 = .ok (.iconst 0, 1) := by decide +kernel
theorem dX9_edited_11 : decode cX9_edited 11 = .ok (.istore 4, 2) := by decide +kernel
theorem dX9_edited_13 : decode cX9_edited 13 = .ok (.iload 4, 2) := by decide +kernel
theorem dX9_edited_15 : decode cX9_edited 15 = .ok (.bipush 6, 2) := by decide +kernel
theorem dX9_edited_17 : decode cX9_edited 17 = .ok (.if_icmp .ge 68, 3) := by decide +kernel
theorem dX9_edited_20 : decode cX9_edited 20 = .ok (.aload_n 0, 1) := by decide +kernel
theorem dX9_edited_21 : decode cX9_edited 21 = .ok (.iload_n 3, 1) := by decide +kernel
theorem dX9_edited_22 : decode cX9_edited 22 = .ok (.invokevirtual 102, 3) := by decide +kernel
theorem dX9_edited_25 : decode cX9_edited 25 = .ok (.ifCond .eq 60, 3) := by decide +kernel
theorem dX9_edited_28 : decode cX9_edited 28 = .ok (.aload_n 0, 1) := by decide +kernel
theorem dX9_edited_29 : decode cX9_edited 29 = .ok (.iload_n 3, 1) := by decide +kernel
theorem dX9_edited_30 : decode cX9_edited 30 = .ok (.aload_n 0, 1) := by decide +kernel
theorem dX9_edited_31 : decode cX9_edited 31 = .ok (.iload_n 1, 1) := by decide +kernel
theorem dX9_edited_32 : decode cX9_edited 32 = .ok (.iconst 2, 1) := by decide +kernel
theorem dX9_edited_33 : decode cX9_edited 33 = .ok (.invokevirtual 73, 3) := by decide +kernel
theorem dX9_edited_36 : decode cX9_edited 36 = .ok (.invokevirtual 62, 3) := by decide +kernel
theorem dX9_edited_39 : decode cX9_edited 39 = .ok (.ifCond .eq 46, 3) := by decide +kernel
theorem dX9_edited_42 : decode cX9_edited 42 = .ok (.iload_n 2, 1) := by decide +kernel
theorem dX9_edited_43 : decode cX9_edited 43 = .ok (.aload_n 0, 1) := by decide +kernel
theorem dX9_edited_44 : decode cX9_edited 44 = .ok (.getfield 7, 3) := by decide +kernel
theorem dX9_edited_47 : decode cX9_edited 47 = .ok (.iload_n 1, 1) := by decide +kernel
theorem dX9_edited_48 : decode cX9_edited 48 = .ok (.iload_n 3, 1) := by decide +kernel
theorem dX9_edited_49 : decode cX9_edited 49 = .ok (.iload 4, 2) := by decide +kernel
theorem dX9_edited_51 : decode cX9_edited 51 = .ok (.invokestatic 105, 3) := by decide +kernel
theorem dX9_edited_54 : decode cX9_edited 54 = .ok (.iaload, 1) := by decide +kernel
theorem dX9_edited_55 : decode cX9_edited 55 = .ok (.aload_n 0, 1) := by decide +kernel
theorem dX9_edited_56 : decode cX9_edited 56 = .ok (.getfield 7, 3) := by decide +kernel
theorem dX9_edited_59 : decode cX9_edited 59 = .ok (.iload_n 1, 1) := by decide +kernel
theorem dX9_edited_60 : decode cX9_edited 60 = .ok (.iload_n 3, 1) := by decide +kernel
theorem dX9_edited_61 : decode cX9_edited 61 = .ok (.iload 4, 2) := by decide +kernel
theorem dX9_edited_63 : decode cX9_edited 63 = .ok (.invokestatic 105, 3) := by decide +kernel
theorem dX9_edited_66 : decode cX9_edited 66 = .ok (.iconst 1, 1) := by decide +kernel
theorem dX9_edited_67 : decode cX9_edited 67 = .ok (.iadd, 1) := by decide +kernel
theorem dX9_edited_68 : decode cX9_edited 68 = .ok (.iaload, 1) := by decide +kernel
theorem dX9_edited_69 : decode cX9_edited 69 = .ok (.if_icmp .eq 7, 3) := by decide +kernel
theorem dX9_edited_72 : decode cX9_edited 72 = .ok (.iconst 1, 1) := by decide +kernel
theorem dX9_edited_73 : decode cX9_edited 73 = .ok (.goto 4, 3) := by decide +kernel
theorem dX9_edited_76 : decode cX9_edited 76 = .ok (.iconst 0, 1) := by decide +kernel
theorem dX9_edited_77 : decode cX9_edited 77 = .ok (.iadd, 1) := by decide +kernel
theorem dX9_edited_78 : decode cX9_edited 78 = .ok (.istore_n 2, 1) := by decide +kernel
theorem dX9_edited_79 : decode cX9_edited 79 = .ok (.iinc 4 1, 3) := by decide +kernel
theorem dX9_edited_82 : decode cX9_edited 82 = .ok (.goto (-69), 3) := by decide +kernel
theorem dX9_edited_85 : decode cX9_edited 85 = .ok (.iinc 3 1, 3) := by decide +kernel
theorem dX9_edited_88 : decode cX9_edited 88 = .ok (.goto (-84), 3) := by decide +kernel
theorem dX9_edited_91 : decode cX9_edited 91 = .ok (.iload_n 2, 1) := by decide +kernel
theorem dX9_edited_92 : decode cX9_edited 92 = .ok (.ireturn, 1) := by decide +kernel
theorem dX9_discards_0 : decode cX9_discards 0 = .ok (.aload_n 0, 1) := by decide +kernel
theorem dX9_discards_1 : decode cX9_discards 1 = .ok (.iload_n 1, 1) := by decide +kernel
theorem dX9_discards_2 : decode cX9_discards 2 = .ok (.invokevirtual 197, 3) := by decide +kernel
theorem dX9_discards_5 : decode cX9_discards 5 = .ok (.istore_n 2, 1) := by decide +kernel
theorem dX9_discards_6 : decode cX9_discards 6 = .ok (.aload_n 0, 1) := by decide +kernel
theorem dX9_discards_7 : decode cX9_discards 7 = .ok (.getfield 7, 3) := by decide +kernel
theorem dX9_discards_10 : decode cX9_discards 10 = .ok (.iload_n 1, 1) := by decide +kernel
theorem dX9_discards_11 : decode cX9_discards 11 = .ok (.iconst 0, 1) := by decide +kernel
theorem dX9_discards_12 : decode cX9_discards 12 = .ok (.invokestatic 69, 3) := by decide +kernel
theorem dX9_discards_15 : decode cX9_discards 15 = .ok (.iconst 0, 1) := by decide +kernel
theorem dX9_discards_16 : decode cX9_discards 16 = .ok (.iastore, 1) := by decide +kernel
theorem dX9_discards_17 : decode cX9_discards 17 = .ok (.aload_n 0, 1) := by decide +kernel
theorem dX9_discards_18 : decode cX9_discards 18 = .ok (.invokevirtual 132, 3) := by decide +kernel
theorem dX9_discards_21 : decode cX9_discards 21 = .ok (.iload_n 2, 1) := by decide +kernel
theorem dX9_discards_22 : decode cX9_discards 22 = .ok (.ireturn, 1) := by decide +kernel
theorem dX9_discard_0 : decode cX9_discard 0 = .ok (.aload_n 0, 1) := by decide +kernel
theorem dX9_discard_1 : decode cX9_discard 1 = .ok (.aload_n 0, 1) := by decide +kernel
theorem dX9_discard_2 : decode cX9_discard 2 = .ok (.iload_n 1, 1) := by decide +kernel
theorem dX9_discard_3 : decode cX9_discard 3 = .ok (.invokevirtual 76, 3) := by decide +kernel
theorem dX9_discard_6 : decode cX9_discard 6 = .ok (.ifCond .eq 7, 3) := by decide +kernel
theorem dX9_discard_9 : decode cX9_discard 9 = .ok (.iconst 0, 1) := by decide +kernel
theorem dX9_discard_10 : decode cX9_discard 10 = .ok (.goto 4, 3) := by decide +kernel
theorem dX9_discard_13 : decode cX9_discard 13 = .ok (.iconst 1, 1) := by decide +kernel
theorem dX9_discard_14 : decode cX9_discard 14 = .ok (.invokevirtual 54, 3) := by decide +kernel
theorem dX9_discard_17 : decode cX9_discard 17 = .ok (.ifCond .eq 5, 3) := by decide +kernel
theorem dX9_discard_20 : decode cX9_discard 20 = .ok (.iconst 0, 1) := by decide +kernel
theorem dX9_discard_21 : decode cX9_discard 21 = .ok (.ireturn, 1) := by decide +kernel
theorem dX9_discard_22 : decode cX9_discard 22 = .ok (.aload_n 0, 1) := by decide +kernel
theorem dX9_discard_23 : decode cX9_discard 23 = .ok (.invokevirtual 145, 3) := by decide +kernel
theorem dX9_discard_26 : decode cX9_discard 26 = .ok (.aload_n 0, 1) := by decide +kernel
theorem dX9_discard_27 : decode cX9_discard 27 = .ok (.iload_n 1, 1) := by decide +kernel
theorem dX9_discard_28 : decode cX9_discard 28 = .ok (.invokevirtual 200, 3) := by decide +kernel
theorem dX9_discard_31 : decode cX9_discard 31 = .ok (.ireturn, 1) := by decide +kernel
theorem dX9_isCopied_0 : decode cX9_isCopied 0 = .ok (.aload_n 0, 1) := by decide +kernel
theorem dX9_isCopied_1 : decode cX9_isCopied 1 = .ok (.iload_n 1, 1) := by decide +kernel
theorem dX9_isCopied_2 : decode cX9_isCopied 2 = .ok (.invokevirtual 76, 3) := by decide +kernel
theorem dX9_isCopied_5 : decode cX9_isCopied 5 = .ok (.ifCond .eq 30, 3) := by decide +kernel
theorem dX9_isCopied_8 : decode cX9_isCopied 8 = .ok (.aload_n 0, 1) := by decide +kernel
theorem dX9_isCopied_9 : decode cX9_isCopied 9 = .ok (.iload_n 2, 1) := by decide +kernel
theorem dX9_isCopied_10 : decode cX9_isCopied 10 = .ok (.iload_n 3, 1) := by decide +kernel
theorem dX9_isCopied_11 : decode cX9_isCopied 11 = .ok (.invokevirtual 167, 3) := by decide +kernel
theorem dX9_isCopied_14 : decode cX9_isCopied 14 = .ok (.ifCond .eq 21, 3) := by decide +kernel
theorem dX9_isCopied_17 : decode cX9_isCopied 17 = .ok (.aload_n 0, 1) := by decide +kernel
theorem dX9_isCopied_18 : decode cX9_isCopied 18 = .ok (.iload_n 2, 1) := by decide +kernel
theorem dX9_isCopied_19 : decode cX9_isCopied 19 = .ok (.aload_n 0, 1) := by decide +kernel
theorem dX9_isCopied_20 : decode cX9_isCopied 20 = .ok (.iload_n 1, 1) := by decide +kernel
theorem dX9_isCopied_21 : decode cX9_isCopied 21 = .ok (.iconst 2, 1) := by decide +kernel
theorem dX9_isCopied_22 : decode cX9_isCopied 22 = .ok (.invokevirtual 73, 3) := by decide +kernel
theorem dX9_isCopied_25 : decode cX9_isCopied 25 = .ok (.invokevirtual 62, 3) := by decide +kernel
theorem dX9_isCopied_28 : decode cX9_isCopied 28 = .ok (.ifCond .eq 7, 3) := by decide +kernel
theorem dX9_isCopied_31 : decode cX9_isCopied 31 = .ok (.iconst 1, 1) := by decide +kernel
theorem dX9_isCopied_32 : decode cX9_isCopied 32 = .ok (.goto 4, 3) := by decide +kernel
theorem dX9_isCopied_35 : decode cX9_isCopied 35 = .ok (.iconst 0, 1) := by decide +kernel
theorem dX9_isCopied_36 : decode cX9_isCopied 36 = .ok (.ireturn, 1) := by decide +kernel
theorem dX9_barEdit_0 : decode cX9_barEdit 0 = .ok (.aload_n 0, 1) := by decide +kernel
theorem dX9_barEdit_1 : decode cX9_barEdit 1 = .ok (.iload_n 1, 1) := by decide +kernel
theorem dX9_barEdit_2 : decode cX9_barEdit 2 = .ok (.iload_n 2, 1) := by decide +kernel
theorem dX9_barEdit_3 : decode cX9_barEdit 3 = .ok (.iload_n 3, 1) := by decide +kernel
theorem dX9_barEdit_4 : decode cX9_barEdit 4 = .ok (.invokevirtual 203, 3) := by decide +kernel
theorem dX9_barEdit_7 : decode cX9_barEdit 7 = .ok (.ifCond .ne 7, 3) := by decide +kernel
theorem dX9_barEdit_10 : decode cX9_barEdit 10 = .ok (.iconst 1, 1) := by decide +kernel
theorem dX9_barEdit_11 : decode cX9_barEdit 11 = .ok (.goto 34, 3) := by decide +kernel
theorem dX9_barEdit_14 : decode cX9_barEdit 14 = .ok (.iload 4, 2) := by decide +kernel
theorem dX9_barEdit_16 : decode cX9_barEdit 16 = .ok (.iconst 0, 1) := by decide +kernel
theorem dX9_barEdit_17 : decode cX9_barEdit 17 = .ok (.sipush 999, 3) := by decide +kernel
theorem dX9_barEdit_20 : decode cX9_barEdit 20 = .ok (.invokestatic 58, 3) := by decide +kernel
theorem dX9_barEdit_23 : decode cX9_barEdit 23 = .ok (.ifCond .ne 7, 3) := by decide +kernel
theorem dX9_barEdit_26 : decode cX9_barEdit 26 = .ok (.iconst 2, 1) := by decide +kernel
theorem dX9_barEdit_27 : decode cX9_barEdit 27 = .ok (.goto 18, 3) := by decide +kernel
theorem dX9_barEdit_30 : decode cX9_barEdit 30 = .ok (.aload_n 0, 1) := by decide +kernel
theorem dX9_barEdit_31 : decode cX9_barEdit 31 = .ok (.iload_n 1, 1) := by decide +kernel
theorem dX9_barEdit_32 : decode cX9_barEdit 32 = .ok (.iconst 5, 1) := by decide +kernel
theorem dX9_barEdit_33 : decode cX9_barEdit 33 = .ok (.invokevirtual 73, 3) := by decide +kernel
theorem dX9_barEdit_36 : decode cX9_barEdit 36 = .ok (.iconst 1, 1) := by decide +kernel
theorem dX9_barEdit_37 : decode cX9_barEdit 37 = .ok (.if_icmp .ne 7, 3) := by decide +kernel
theorem dX9_barEdit_40 : decode cX9_barEdit 40 = .ok (.iconst 3, 1) := by decide +kernel
theorem dX9_barEdit_41 : decode cX9_barEdit 41 = .ok (.goto 4, 3) := by decide +kernel
theorem dX9_barEdit_44 : decode cX9_barEdit 44 = .ok (.iconst 0, 1) := by decide +kernel
theorem dX9_barEdit_45 : decode cX9_barEdit 45 = .ok (.ireturn, 1) := by decide +kernel
theorem dX9_edits_0 : decode cX9_edits 0 = .ok (.aload_n 0, 1) := by decide +kernel
theorem dX9_edits_1 : decode cX9_edits 1 = .ok (.getfield 7, 3) := by decide +kernel
theorem dX9_edits_4 : decode cX9_edits 4 = .ok (.iload_n 1, 1) := by decide +kernel
theorem dX9_edits_5 : decode cX9_edits 5 = .ok (.iload_n 2, 1) := by decide +kernel
theorem dX9_edits_6 : decode cX9_edits 6 = .ok (.iload_n 3, 1) := by decide +kernel
theorem dX9_edits_7 : decode cX9_edits 7 = .ok (.invokestatic 105, 3) := by decide +kernel
theorem dX9_edits_10 : decode cX9_edits 10 = .ok (.iconst 1, 1) := by decide +kernel
theorem dX9_edits_11 : decode cX9_edits 11 = .ok (.iadd, 1) := by decide +kernel
theorem dX9_edits_12 : decode cX9_edits 12 = .ok (.iaload, 1) := by decide +kernel
theorem dX9_edits_13 : decode cX9_edits 13 = .ok (.istore 5, 2) := by decide +kernel
theorem dX9_edits_15 : decode cX9_edits 15 = .ok (.aload_n 0, 1) := by decide +kernel
theorem dX9_edits_16 : decode cX9_edits 16 = .ok (.getfield 7, 3) := by decide +kernel
theorem dX9_edits_19 : decode cX9_edits 19 = .ok (.iload_n 1, 1) := by decide +kernel
theorem dX9_edits_20 : decode cX9_edits 20 = .ok (.iload_n 2, 1) := by decide +kernel
theorem dX9_edits_21 : decode cX9_edits 21 = .ok (.iload_n 3, 1) := by decide +kernel
theorem dX9_edits_22 : decode cX9_edits 22 = .ok (.invokestatic 105, 3) := by decide +kernel
theorem dX9_edits_25 : decode cX9_edits 25 = .ok (.iconst 1, 1) := by decide +kernel
theorem dX9_edits_26 : decode cX9_edits 26 = .ok (.iadd, 1) := by decide +kernel
theorem dX9_edits_27 : decode cX9_edits 27 = .ok (.iload 4, 2) := by decide +kernel
theorem dX9_edits_29 : decode cX9_edits 29 = .ok (.iastore, 1) := by decide +kernel
theorem dX9_edits_30 : decode cX9_edits 30 = .ok (.iload 5, 2) := by decide +kernel
theorem dX9_edits_32 : decode cX9_edits 32 = .ok (.ireturn, 1) := by decide +kernel
theorem dX9_edit_0 : decode cX9_edit 0 = .ok (.aload_n 0, 1) := by decide +kernel
theorem dX9_edit_1 : decode cX9_edit 1 = .ok (.aload_n 0, 1) := by decide +kernel
theorem dX9_edit_2 : decode cX9_edit 2 = .ok (.iload_n 1, 1) := by decide +kernel
theorem dX9_edit_3 : decode cX9_edit 3 = .ok (.iload_n 2, 1) := by decide +kernel
theorem dX9_edit_4 : decode cX9_edit 4 = .ok (.iload_n 3, 1) := by decide +kernel
theorem dX9_edit_5 : decode cX9_edit 5 = .ok (.iload 4, 2) := by decide +kernel
theorem dX9_edit_7 : decode cX9_edit 7 = .ok (.invokevirtual 206, 3) := by decide +kernel
theorem dX9_edit_10 : decode cX9_edit 10 = .ok (.invokevirtual 54, 3) := by decide +kernel
theorem dX9_edit_13 : decode cX9_edit 13 = .ok (.ifCond .eq 5, 3) := by decide +kernel
theorem dX9_edit_16 : decode cX9_edit 16 = .ok (.iconst 0, 1) := by decide +kernel
theorem dX9_edit_17 : decode cX9_edit 17 = .ok (.ireturn, 1) := by decide +kernel
theorem dX9_edit_18 : decode cX9_edit 18 = .ok (.aload_n 0, 1) := by decide +kernel
theorem dX9_edit_19 : decode cX9_edit 19 = .ok (.invokevirtual 145, 3) := by decide +kernel
theorem dX9_edit_22 : decode cX9_edit 22 = .ok (.aload_n 0, 1) := by decide +kernel
theorem dX9_edit_23 : decode cX9_edit 23 = .ok (.iload_n 1, 1) := by decide +kernel
theorem dX9_edit_24 : decode cX9_edit 24 = .ok (.iload_n 2, 1) := by decide +kernel
theorem dX9_edit_25 : decode cX9_edit 25 = .ok (.iload_n 3, 1) := by decide +kernel
theorem dX9_edit_26 : decode cX9_edit 26 = .ok (.iload 4, 2) := by decide +kernel
theorem dX9_edit_28 : decode cX9_edit 28 = .ok (.invokevirtual 209, 3) := by decide +kernel
theorem dX9_edit_31 : decode cX9_edit 31 = .ok (.ireturn, 1) := by decide +kernel
theorem dX9_copied_0 : decode cX9_copied 0 = .ok (.aload_n 0, 1) := by decide +kernel
theorem dX9_copied_1 : decode cX9_copied 1 = .ok (.aload_n 0, 1) := by decide +kernel
theorem dX9_copied_2 : decode cX9_copied 2 = .ok (.iload_n 1, 1) := by decide +kernel
theorem dX9_copied_3 : decode cX9_copied 3 = .ok (.iload_n 2, 1) := by decide +kernel
theorem dX9_copied_4 : decode cX9_copied 4 = .ok (.iload_n 3, 1) := by decide +kernel
theorem dX9_copied_5 : decode cX9_copied 5 = .ok (.invokevirtual 203, 3) := by decide +kernel
theorem dX9_copied_8 : decode cX9_copied 8 = .ok (.ifCond .eq 7, 3) := by decide +kernel
theorem dX9_copied_11 : decode cX9_copied 11 = .ok (.iconst 0, 1) := by decide +kernel
theorem dX9_copied_12 : decode cX9_copied 12 = .ok (.goto 4, 3) := by decide +kernel
theorem dX9_copied_15 : decode cX9_copied 15 = .ok (.iconst 1, 1) := by decide +kernel
theorem dX9_copied_16 : decode cX9_copied 16 = .ok (.invokevirtual 54, 3) := by decide +kernel
theorem dX9_copied_19 : decode cX9_copied 19 = .ok (.ifCond .eq 7, 3) := by decide +kernel
theorem dX9_copied_22 : decode cX9_copied 22 = .ok (.iconst 0, 1) := by decide +kernel
theorem dX9_copied_23 : decode cX9_copied 23 = .ok (.goto 25, 3) := by decide +kernel
theorem dX9_copied_26 : decode cX9_copied 26 = .ok (.aload_n 0, 1) := by decide +kernel
theorem dX9_copied_27 : decode cX9_copied 27 = .ok (.getfield 7, 3) := by decide +kernel
theorem dX9_copied_30 : decode cX9_copied 30 = .ok (.iload_n 1, 1) := by decide +kernel
theorem dX9_copied_31 : decode cX9_copied 31 = .ok (.iload_n 2, 1) := by decide +kernel
theorem dX9_copied_32 : decode cX9_copied 32 = .ok (.iload_n 3, 1) := by decide +kernel
theorem dX9_copied_33 : decode cX9_copied 33 = .ok (.invokestatic 105, 3) := by decide +kernel
theorem dX9_copied_36 : decode cX9_copied 36 = .ok (.iload 4, 2) := by decide +kernel
theorem dX9_copied_38 : decode cX9_copied 38 = .ok (.ifCond .eq 7, 3) := by decide +kernel
theorem dX9_copied_41 : decode cX9_copied 41 = .ok (.iconst 0, 1) := by decide +kernel
theorem dX9_copied_42 : decode cX9_copied 42 = .ok (.goto 4, 3) := by decide +kernel
theorem dX9_copied_45 : decode cX9_copied 45 = .ok (.iconst 1, 1) := by decide +kernel
theorem dX9_copied_46 : decode cX9_copied 46 = .ok (.iadd, 1) := by decide +kernel
theorem dX9_copied_47 : decode cX9_copied 47 = .ok (.iaload, 1) := by decide +kernel
theorem dX9_copied_48 : decode cX9_copied 48 = .ok (.ireturn, 1) := by decide +kernel
theorem dX9_merges_0 : decode cX9_merges 0 = .ok (.aload_n 0, 1) := by decide +kernel
theorem dX9_merges_1 : decode cX9_merges 1 = .ok (.invokevirtual 173, 3) := by decide +kernel
theorem dX9_merges_4 : decode cX9_merges 4 = .ok (.iconst 0, 1) := by decide +kernel
theorem dX9_merges_5 : decode cX9_merges 5 = .ok (.istore_n 3, 1) := by decide +kernel
theorem dX9_merges_6 : decode cX9_merges 6 = .ok (.iconst 0, 1) := by decide +kernel
theorem dX9_merges_7 : decode cX9_merges 7 = .ok (.istore 4, 2) := by decide +kernel
theorem dX9_merges_9 : decode cX9_merges 9 = .ok (.iload 4, 2) := by decide +kernel
theorem dX9_merges_11 : decode cX9_merges 11 = .ok (.bipush 20, 2) := by decide +kernel
theorem dX9_merges_13 : decode cX9_merges 13 = .ok (.if_icmp .ge 225, 3) := by decide +kernel
theorem dX9_merges_16 : decode cX9_merges 16 = .ok (.iconst 0, 1) := by decide +kernel
theorem dX9_merges_17 : decode cX9_merges 17 = .ok (.istore 5, 2) := by decide +kernel
theorem dX9_merges_19 : decode cX9_merges 19 = .ok (.iload 5, 2) := by decide +kernel
theorem dX9_merges_21 : decode cX9_merges 21 = .ok (.bipush 6, 2) := by decide +kernel
theorem dX9_merges_23 : decode cX9_merges 23 = .ok (.if_icmp .ge 209, 3) := by decide +kernel
theorem dX9_merges_26 : decode cX9_merges 26 = .ok (.aload_n 0, 1) := by decide +kernel
theorem dX9_merges_27 : decode cX9_merges 27 = .ok (.iload 4, 2) := by decide +kernel
theorem dX9_merges_29 : decode cX9_merges 29 = .ok (.invokevirtual 102, 3) := by decide +kernel
theorem dX9_merges_32 : decode cX9_merges 32 = .ok (.ifCond .eq 200, 3) := by decide +kernel
theorem dX9_merges_35 : decode cX9_merges 35 = .ok (.aload_n 0, 1) := by decide +kernel
theorem dX9_merges_36 : decode cX9_merges 36 = .ok (.iload 4, 2) := by decide +kernel
theorem dX9_merges_38 : decode cX9_merges 38 = .ok (.aload_n 0, 1) := by decide +kernel
theorem dX9_merges_39 : decode cX9_merges 39 = .ok (.iload_n 1, 1) := by decide +kernel
theorem dX9_merges_40 : decode cX9_merges 40 = .ok (.iconst 2, 1) := by decide +kernel
theorem dX9_merges_41 : decode cX9_merges 41 = .ok (.invokevirtual 73, 3) := by decide +kernel
theorem dX9_merges_44 : decode cX9_merges 44 = .ok (.invokevirtual 62, 3) := by decide +kernel
theorem dX9_merges_47 : decode cX9_merges 47 = .ok (.ifCond .eq 185, 3) := by decide +kernel
theorem dX9_merges_50 : decode cX9_merges 50 = .ok (.aload_n 0, 1) := by decide +kernel
theorem dX9_merges_51 : decode cX9_merges 51 = .ok (.getfield 7, 3) := by decide +kernel
theorem dX9_merges_54 : decode cX9_merges 54 = .ok (.iload_n 1, 1) := by decide +kernel
theorem dX9_merges_55 : decode cX9_merges 55 = .ok (.iload 4, 2) := by decide +kernel
theorem dX9_merges_57 : decode cX9_merges 57 = .ok (.iload 5, 2) := by decide +kernel
theorem dX9_merges_59 : decode cX9_merges 59 = .ok (.invokestatic 105, 3) := by decide +kernel
theorem dX9_merges_62 : decode cX9_merges 62 = .ok (.iaload, 1) := by decide +kernel
theorem dX9_merges_63 : decode cX9_merges 63 = .ok (.istore 6, 2) := by decide +kernel
theorem dX9_merges_65 : decode cX9_merges 65 = .ok (.aload_n 0, 1) := by decide +kernel
theorem dX9_merges_66 : decode cX9_merges 66 = .ok (.getfield 7, 3) := by decide +kernel
theorem dX9_merges_69 : decode cX9_merges 69 = .ok (.iload_n 1, 1) := by decide +kernel
theorem dX9_merges_70 : decode cX9_merges 70 = .ok (.iload 4, 2) := by decide +kernel
theorem dX9_merges_72 : decode cX9_merges 72 = .ok (.iload 5, 2) := by decide +kernel
theorem dX9_merges_74 : decode cX9_merges 74 = .ok (.invokestatic 105, 3) := by decide +kernel
theorem dX9_merges_77 : decode cX9_merges 77 = .ok (.iconst 1, 1) := by decide +kernel
theorem dX9_merges_78 : decode cX9_merges 78 = .ok (.iadd, 1) := by decide +kernel
theorem dX9_merges_79 : decode cX9_merges 79 = .ok (.iaload, 1) := by decide +kernel
theorem dX9_merges_80 : decode cX9_merges 80 = .ok (.istore 7, 2) := by decide +kernel
theorem dX9_merges_82 : decode cX9_merges 82 = .ok (.aload_n 0, 1) := by decide +kernel
theorem dX9_merges_83 : decode cX9_merges 83 = .ok (.getfield 7, 3) := by decide +kernel
theorem dX9_merges_86 : decode cX9_merges 86 = .ok (.bipush 82, 2) := by decide +kernel
theorem dX9_merges_88 : decode cX9_merges 88 = .ok (.bipush 6, 2) := by decide +kernel
theorem dX9_merges_90 : decode cX9_merges 90 = .ok (.iload 4, 2) := by decide +kernel
theorem dX9_merges_92 : decode cX9_merges 92 = .ok (.imul, 1) := by decide +kernel
theorem dX9_merges_93 : decode cX9_merges 93 = .ok (.iadd, 1) := by decide +kernel
theorem dX9_merges_94 : decode cX9_merges 94 = .ok (.iload 5, 2) := by decide +kernel
theorem dX9_merges_96 : decode cX9_merges 96 = .ok (.iadd, 1) := by decide +kernel
theorem dX9_merges_97 : decode cX9_merges 97 = .ok (.iaload, 1) := by decide +kernel
theorem dX9_merges_98 : decode cX9_merges 98 = .ok (.istore 8, 2) := by decide +kernel
theorem dX9_merges_100 : decode cX9_merges 100 = .ok (.aload_n 0, 1) := by decide +kernel
theorem dX9_merges_101 : decode cX9_merges 101 = .ok (.iload_n 1, 1) := by decide +kernel
theorem dX9_merges_102 : decode cX9_merges 102 = .ok (.iconst 4, 1) := by decide +kernel
theorem dX9_merges_103 : decode cX9_merges 103 = .ok (.invokevirtual 73, 3) := by decide +kernel
theorem dX9_merges_106 : decode cX9_merges 106 = .ok (.ifCond .ne 28, 3) := by decide +kernel
theorem dX9_merges_109 : decode cX9_merges 109 = .ok (.iload 7, 2) := by decide +kernel
theorem dX9_merges_111 : decode cX9_merges 111 = .ok (.iload 6, 2) := by decide +kernel
theorem dX9_merges_113 : decode cX9_merges 113 = .ok (.if_icmp .eq 21, 3) := by decide +kernel
theorem dX9_merges_116 : decode cX9_merges 116 = .ok (.iload 8, 2) := by decide +kernel
theorem dX9_merges_118 : decode cX9_merges 118 = .ok (.iload 6, 2) := by decide +kernel
theorem dX9_merges_120 : decode cX9_merges 120 = .ok (.if_icmp .eq 14, 3) := by decide +kernel
theorem dX9_merges_123 : decode cX9_merges 123 = .ok (.iload 8, 2) := by decide +kernel
theorem dX9_merges_125 : decode cX9_merges 125 = .ok (.iload 7, 2) := by decide +kernel
theorem dX9_merges_127 : decode cX9_merges 127 = .ok (.if_icmp .eq 7, 3) := by decide +kernel
theorem dX9_merges_130 : decode cX9_merges 130 = .ok (.iconst 1, 1) := by decide +kernel
theorem dX9_merges_131 : decode cX9_merges 131 = .ok (.goto 4, 3) := by decide +kernel
theorem dX9_merges_134 : decode cX9_merges 134 = .ok (.iconst 0, 1) := by decide +kernel
theorem dX9_merges_135 : decode cX9_merges 135 = .ok (.istore 9, 2) := by decide +kernel
theorem dX9_merges_137 : decode cX9_merges 137 = .ok (.iload_n 3, 1) := by decide +kernel
theorem dX9_merges_138 : decode cX9_merges 138 = .ok (.iload 9, 2) := by decide +kernel
theorem dX9_merges_140 : decode cX9_merges 140 = .ok (.ifCond .eq 7, 3) := by decide +kernel
theorem dX9_merges_143 : decode cX9_merges 143 = .ok (.iconst 1, 1) := by decide +kernel
theorem dX9_merges_144 : decode cX9_merges 144 = .ok (.goto 4, 3) := by decide +kernel
theorem dX9_merges_147 : decode cX9_merges 147 = .ok (.iconst 0, 1) := by decide +kernel
theorem dX9_merges_148 : decode cX9_merges 148 = .ok (.iadd, 1) := by decide +kernel
theorem dX9_merges_149 : decode cX9_merges 149 = .ok (.istore_n 3, 1) := by decide +kernel
theorem dX9_merges_150 : decode cX9_merges 150 = .ok (.aload_n 0, 1) := by decide +kernel
theorem dX9_merges_151 : decode cX9_merges 151 = .ok (.iload_n 1, 1) := by decide +kernel
theorem dX9_merges_152 : decode cX9_merges 152 = .ok (.iconst 4, 1) := by decide +kernel
theorem dX9_merges_153 : decode cX9_merges 153 = .ok (.invokevirtual 73, 3) := by decide +kernel
theorem dX9_merges_156 : decode cX9_merges 156 = .ok (.iconst 1, 1) := by decide +kernel
theorem dX9_merges_157 : decode cX9_merges 157 = .ok (.if_icmp .ne 20, 3) := by decide +kernel
theorem dX9_merges_160 : decode cX9_merges 160 = .ok (.aload_n 0, 1) := by decide +kernel
theorem dX9_merges_161 : decode cX9_merges 161 = .ok (.iload_n 1, 1) := by decide +kernel
theorem dX9_merges_162 : decode cX9_merges 162 = .ok (.iconst 5, 1) := by decide +kernel
theorem dX9_merges_163 : decode cX9_merges 163 = .ok (.invokevirtual 73, 3) := by decide +kernel
theorem dX9_merges_166 : decode cX9_merges 166 = .ok (.ifCond .ne 7, 3) := by decide +kernel
theorem dX9_merges_169 : decode cX9_merges 169 = .ok (.iconst 1, 1) := by decide +kernel
theorem dX9_merges_170 : decode cX9_merges 170 = .ok (.goto 29, 3) := by decide +kernel
theorem dX9_merges_173 : decode cX9_merges 173 = .ok (.iconst 0, 1) := by decide +kernel
theorem dX9_merges_174 : decode cX9_merges 174 = .ok (.goto 25, 3) := by decide +kernel
theorem dX9_merges_177 : decode cX9_merges 177 = .ok (.iload 7, 2) := by decide +kernel
theorem dX9_merges_179 : decode cX9_merges 179 = .ok (.iload 6, 2) := by decide +kernel
theorem dX9_merges_181 : decode cX9_merges 181 = .ok (.if_icmp .eq 17, 3) := by decide +kernel
theorem dX9_merges_184 : decode cX9_merges 184 = .ok (.iload 9, 2) := by decide +kernel
theorem dX9_merges_186 : decode cX9_merges 186 = .ok (.ifCond .eq 8, 3) := by decide +kernel
theorem dX9_merges_189 : decode cX9_merges 189 = .ok (.iload_n 2, 1) := by decide +kernel
theorem dX9_merges_190 : decode cX9_merges 190 = .ok (.iconst 1, 1) := by decide +kernel
theorem dX9_merges_191 : decode cX9_merges 191 = .ok (.if_icmp .ne 7, 3) := by decide +kernel
theorem dX9_merges_194 : decode cX9_merges 194 = .ok (.iconst 1, 1) := by decide +kernel
theorem dX9_merges_195 : decode cX9_merges 195 = .ok (.goto 4, 3) := by decide +kernel
theorem dX9_merges_198 : decode cX9_merges 198 = .ok (.iconst 0, 1) := by decide +kernel
theorem dX9_merges_199 : decode cX9_merges 199 = .ok (.istore 10, 2) := by decide +kernel
theorem dX9_merges_201 : decode cX9_merges 201 = .ok (.aload_n 0, 1) := by decide +kernel
theorem dX9_merges_202 : decode cX9_merges 202 = .ok (.getfield 25, 3) := by decide +kernel
theorem dX9_merges_205 : decode cX9_merges 205 = .ok (.bipush 6, 2) := by decide +kernel
theorem dX9_merges_207 : decode cX9_merges 207 = .ok (.iload 4, 2) := by decide +kernel
theorem dX9_merges_209 : decode cX9_merges 209 = .ok (.imul, 1) := by decide +kernel
theorem dX9_merges_210 : decode cX9_merges 210 = .ok (.iload 5, 2) := by decide +kernel
theorem dX9_merges_212 : decode cX9_merges 212 = .ok (.iadd, 1) := by decide +kernel
theorem dX9_merges_213 : decode cX9_merges 213 = .ok (.iload 10, 2) := by decide +kernel
theorem dX9_merges_215 : decode cX9_merges 215 = .ok (.ifCond .eq 8, 3) := by decide +kernel
theorem dX9_merges_218 : decode cX9_merges 218 = .ok (.iload 7, 2) := by decide +kernel
theorem dX9_merges_220 : decode cX9_merges 220 = .ok (.goto 5, 3) := by decide +kernel
theorem dX9_merges_223 : decode cX9_merges 223 = .ok (.iload 8, 2) := by decide +kernel
theorem dX9_merges_225 : decode cX9_merges 225 = .ok (.iastore, 1) := by decide +kernel
theorem dX9_merges_226 : decode cX9_merges 226 = .ok (.iinc 5 1, 3) := by decide +kernel
theorem dX9_merges_229 : decode cX9_merges 229 = .ok (.goto (-210), 3) := by decide +kernel
theorem dX9_merges_232 : decode cX9_merges 232 = .ok (.iinc 4 1, 3) := by decide +kernel
theorem dX9_merges_235 : decode cX9_merges 235 = .ok (.goto (-226), 3) := by decide +kernel
theorem dX9_merges_238 : decode cX9_merges 238 = .ok (.iload_n 3, 1) := by decide +kernel
theorem dX9_merges_239 : decode cX9_merges 239 = .ok (.ireturn, 1) := by decide +kernel
theorem dX9_conflicts_0 : decode cX9_conflicts 0 = .ok (.aload_n 0, 1) := by decide +kernel
theorem dX9_conflicts_1 : decode cX9_conflicts 1 = .ok (.aload_n 0, 1) := by decide +kernel
theorem dX9_conflicts_2 : decode cX9_conflicts 2 = .ok (.iload_n 1, 1) := by decide +kernel
theorem dX9_conflicts_3 : decode cX9_conflicts 3 = .ok (.invokevirtual 76, 3) := by decide +kernel
theorem dX9_conflicts_6 : decode cX9_conflicts 6 = .ok (.ifCond .eq 7, 3) := by decide +kernel
theorem dX9_conflicts_9 : decode cX9_conflicts 9 = .ok (.iconst 0, 1) := by decide +kernel
theorem dX9_conflicts_10 : decode cX9_conflicts 10 = .ok (.goto 4, 3) := by decide +kernel
theorem dX9_conflicts_13 : decode cX9_conflicts 13 = .ok (.iconst 1, 1) := by decide +kernel
theorem dX9_conflicts_14 : decode cX9_conflicts 14 = .ok (.invokevirtual 54, 3) := by decide +kernel
theorem dX9_conflicts_17 : decode cX9_conflicts 17 = .ok (.ifCond .eq 7, 3) := by decide +kernel
theorem dX9_conflicts_20 : decode cX9_conflicts 20 = .ok (.iconst 0, 1) := by decide +kernel
theorem dX9_conflicts_21 : decode cX9_conflicts 21 = .ok (.goto 9, 3) := by decide +kernel
theorem dX9_conflicts_24 : decode cX9_conflicts 24 = .ok (.aload_n 0, 1) := by decide +kernel
theorem dX9_conflicts_25 : decode cX9_conflicts 25 = .ok (.iload_n 1, 1) := by decide +kernel
theorem dX9_conflicts_26 : decode cX9_conflicts 26 = .ok (.iconst 0, 1) := by decide +kernel
theorem dX9_conflicts_27 : decode cX9_conflicts 27 = .ok (.invokevirtual 212, 3) := by decide +kernel
theorem dX9_conflicts_30 : decode cX9_conflicts 30 = .ok (.ireturn, 1) := by decide +kernel
theorem dX9_barGive_0 : decode cX9_barGive 0 = .ok (.aload_n 0, 1) := by decide +kernel
theorem dX9_barGive_1 : decode cX9_barGive 1 = .ok (.iload_n 1, 1) := by decide +kernel
theorem dX9_barGive_2 : decode cX9_barGive 2 = .ok (.invokevirtual 76, 3) := by decide +kernel
theorem dX9_barGive_5 : decode cX9_barGive 5 = .ok (.ifCond .ne 5, 3) := by decide +kernel
theorem dX9_barGive_8 : decode cX9_barGive 8 = .ok (.iconst 1, 1) := by decide +kernel
theorem dX9_barGive_9 : decode cX9_barGive 9 = .ok (.ireturn, 1) := by decide +kernel
theorem dX9_barGive_10 : decode cX9_barGive 10 = .ok (.iload_n 2, 1) := by decide +kernel
theorem dX9_barGive_11 : decode cX9_barGive 11 = .ok (.iconst 0, 1) := by decide +kernel
theorem dX9_barGive_12 : decode cX9_barGive 12 = .ok (.iconst 2, 1) := by decide +kernel
theorem dX9_barGive_13 : decode cX9_barGive 13 = .ok (.invokestatic 58, 3) := by decide +kernel
theorem dX9_barGive_16 : decode cX9_barGive 16 = .ok (.ifCond .ne 5, 3) := by decide +kernel
theorem dX9_barGive_19 : decode cX9_barGive 19 = .ok (.iconst 2, 1) := by decide +kernel
theorem dX9_barGive_20 : decode cX9_barGive 20 = .ok (.ireturn, 1) := by decide +kernel
theorem dX9_barGive_21 : decode cX9_barGive 21 = .ok (.aload_n 0, 1) := by decide +kernel
theorem dX9_barGive_22 : decode cX9_barGive 22 = .ok (.iload_n 1, 1) := by decide +kernel
theorem dX9_barGive_23 : decode cX9_barGive 23 = .ok (.invokevirtual 92, 3) := by decide +kernel
theorem dX9_barGive_26 : decode cX9_barGive 26 = .ok (.ifCond .ne 29, 3) := by decide +kernel
theorem dX9_barGive_29 : decode cX9_barGive 29 = .ok (.aload_n 0, 1) := by decide +kernel
theorem dX9_barGive_30 : decode cX9_barGive 30 = .ok (.aload_n 0, 1) := by decide +kernel
theorem dX9_barGive_31 : decode cX9_barGive 31 = .ok (.iload_n 1, 1) := by decide +kernel
theorem dX9_barGive_32 : decode cX9_barGive 32 = .ok (.iconst 2, 1) := by decide +kernel
theorem dX9_barGive_33 : decode cX9_barGive 33 = .ok (.invokevirtual 73, 3) := by decide +kernel
theorem dX9_barGive_36 : decode cX9_barGive 36 = .ok (.invokevirtual 215, 3) := by decide +kernel
theorem dX9_barGive_39 : decode cX9_barGive 39 = .ok (.ifCond .ne 20, 3) := by decide +kernel
theorem dX9_barGive_42 : decode cX9_barGive 42 = .ok (.iload_n 2, 1) := by decide +kernel
theorem dX9_barGive_43 : decode cX9_barGive 43 = .ok (.ifCond .gt 12, 3) := by decide +kernel
theorem dX9_barGive_46 : decode cX9_barGive 46 = .ok (.aload_n 0, 1) := by decide +kernel
theorem dX9_barGive_47 : decode cX9_barGive 47 = .ok (.iload_n 1, 1) := by decide +kernel
theorem dX9_barGive_48 : decode cX9_barGive 48 = .ok (.iconst 0, 1) := by decide +kernel
theorem dX9_barGive_49 : decode cX9_barGive 49 = .ok (.invokevirtual 212, 3) := by decide +kernel
theorem dX9_barGive_52 : decode cX9_barGive 52 = .ok (.ifCond .ne 7, 3) := by decide +kernel
theorem dX9_barGive_55 : decode cX9_barGive 55 = .ok (.iconst 1, 1) := by decide +kernel
theorem dX9_barGive_56 : decode cX9_barGive 56 = .ok (.goto 4, 3) := by decide +kernel
theorem dX9_barGive_59 : decode cX9_barGive 59 = .ok (.iconst 0, 1) := by decide +kernel
theorem dX9_barGive_60 : decode cX9_barGive 60 = .ok (.istore_n 3, 1) := by decide +kernel
theorem dX9_barGive_61 : decode cX9_barGive 61 = .ok (.iload_n 3, 1) := by decide +kernel
theorem dX9_barGive_62 : decode cX9_barGive 62 = .ok (.ifCond .eq 7, 3) := by decide +kernel
theorem dX9_barGive_65 : decode cX9_barGive 65 = .ok (.iconst 0, 1) := by decide +kernel
theorem dX9_barGive_66 : decode cX9_barGive 66 = .ok (.goto 4, 3) := by decide +kernel
theorem dX9_barGive_69 : decode cX9_barGive 69 = .ok (.iconst 3, 1) := by decide +kernel
theorem dX9_barGive_70 : decode cX9_barGive 70 = .ok (.ireturn, 1) := by decide +kernel
theorem dX9_gives_0 : decode cX9_gives 0 = .ok (.aload_n 0, 1) := by decide +kernel
theorem dX9_gives_1 : decode cX9_gives 1 = .ok (.iload_n 1, 1) := by decide +kernel
theorem dX9_gives_2 : decode cX9_gives 2 = .ok (.iload_n 2, 1) := by decide +kernel
theorem dX9_gives_3 : decode cX9_gives 3 = .ok (.invokevirtual 212, 3) := by decide +kernel
theorem dX9_gives_6 : decode cX9_gives 6 = .ok (.pop, 1) := by decide +kernel
theorem dX9_gives_7 : decode cX9_gives 7 = .ok (.aload_n 0, 1) := by decide +kernel
theorem dX9_gives_8 : decode cX9_gives 8 = .ok (.aload_n 0, 1) := by decide +kernel
theorem dX9_gives_9 : decode cX9_gives 9 = .ok (.iload_n 1, 1) := by decide +kernel
theorem dX9_gives_10 : decode cX9_gives 10 = .ok (.iconst 1, 1) := by decide +kernel
theorem dX9_gives_11 : decode cX9_gives 11 = .ok (.invokevirtual 73, 3) := by decide +kernel
theorem dX9_gives_14 : decode cX9_gives 14 = .ok (.invokevirtual 176, 3) := by decide +kernel
theorem dX9_gives_17 : decode cX9_gives 17 = .ok (.istore_n 3, 1) := by decide +kernel
theorem dX9_gives_18 : decode cX9_gives 18 = .ok (.aload_n 0, 1) := by decide +kernel
theorem dX9_gives_19 : decode cX9_gives 19 = .ok (.getfield 7, 3) := by decide +kernel
theorem dX9_gives_22 : decode cX9_gives 22 = .ok (.iload_n 1, 1) := by decide +kernel
theorem dX9_gives_23 : decode cX9_gives 23 = .ok (.iconst 0, 1) := by decide +kernel
theorem dX9_gives_24 : decode cX9_gives 24 = .ok (.invokestatic 69, 3) := by decide +kernel
theorem dX9_gives_27 : decode cX9_gives 27 = .ok (.iconst 0, 1) := by decide +kernel
theorem dX9_gives_28 : decode cX9_gives 28 = .ok (.iastore, 1) := by decide +kernel
theorem dX9_gives_29 : decode cX9_gives 29 = .ok (.aload_n 0, 1) := by decide +kernel
theorem dX9_gives_30 : decode cX9_gives 30 = .ok (.invokevirtual 132, 3) := by decide +kernel
theorem dX9_gives_33 : decode cX9_gives 33 = .ok (.iload_n 3, 1) := by decide +kernel
theorem dX9_gives_34 : decode cX9_gives 34 = .ok (.ireturn, 1) := by decide +kernel
theorem dX9_giveBack_0 : decode cX9_giveBack 0 = .ok (.aload_n 0, 1) := by decide +kernel
theorem dX9_giveBack_1 : decode cX9_giveBack 1 = .ok (.aload_n 0, 1) := by decide +kernel
theorem dX9_giveBack_2 : decode cX9_giveBack 2 = .ok (.iload_n 1, 1) := by decide +kernel
theorem dX9_giveBack_3 : decode cX9_giveBack 3 = .ok (.iload_n 2, 1) := by decide +kernel
theorem dX9_giveBack_4 : decode cX9_giveBack 4 = .ok (.invokevirtual 218, 3) := by decide +kernel
theorem dX9_giveBack_7 : decode cX9_giveBack 7 = .ok (.invokevirtual 54, 3) := by decide +kernel
theorem dX9_giveBack_10 : decode cX9_giveBack 10 = .ok (.ifCond .eq 5, 3) := by decide +kernel
theorem dX9_giveBack_13 : decode cX9_giveBack 13 = .ok (.iconst 0, 1) := by decide +kernel
theorem dX9_giveBack_14 : decode cX9_giveBack 14 = .ok (.ireturn, 1) := by decide +kernel
theorem dX9_giveBack_15 : decode cX9_giveBack 15 = .ok (.aload_n 0, 1) := by decide +kernel
theorem dX9_giveBack_16 : decode cX9_giveBack 16 = .ok (.invokevirtual 145, 3) := by decide +kernel
theorem dX9_giveBack_19 : decode cX9_giveBack 19 = .ok (.aload_n 0, 1) := by decide +kernel
theorem dX9_giveBack_20 : decode cX9_giveBack 20 = .ok (.iload_n 1, 1) := by decide +kernel
theorem dX9_giveBack_21 : decode cX9_giveBack 21 = .ok (.iload_n 2, 1) := by decide +kernel
theorem dX9_giveBack_22 : decode cX9_giveBack 22 = .ok (.invokevirtual 221, 3) := by decide +kernel
theorem dX9_giveBack_25 : decode cX9_giveBack 25 = .ok (.ireturn, 1) := by decide +kernel
theorem dX9_tellCheck_0 : decode cX9_tellCheck 0 = .ok (.iload_n 2, 1) := by decide +kernel
theorem dX9_tellCheck_1 : decode cX9_tellCheck 1 = .ok (.tableswitch 70 0 4 #[35, 42, 49, 56, 63], 35) := by decide +kernel
theorem dX9_tellCheck_36 : decode cX9_tellCheck 36 = .ok (.aload_n 0, 1) := by decide +kernel
theorem dX9_tellCheck_37 : decode cX9_tellCheck 37 = .ok (.iload_n 1, 1) := by decide +kernel
theorem dX9_tellCheck_38 : decode cX9_tellCheck 38 = .ok (.iconst 1, 1) := by decide +kernel
theorem dX9_tellCheck_39 : decode cX9_tellCheck 39 = .ok (.invokevirtual 73, 3) := by decide +kernel
theorem dX9_tellCheck_42 : decode cX9_tellCheck 42 = .ok (.ireturn, 1) := by decide +kernel
theorem dX9_tellCheck_43 : decode cX9_tellCheck 43 = .ok (.aload_n 0, 1) := by decide +kernel
theorem dX9_tellCheck_44 : decode cX9_tellCheck 44 = .ok (.iload_n 1, 1) := by decide +kernel
theorem dX9_tellCheck_45 : decode cX9_tellCheck 45 = .ok (.iconst 2, 1) := by decide +kernel
theorem dX9_tellCheck_46 : decode cX9_tellCheck 46 = .ok (.invokevirtual 73, 3) := by decide +kernel
theorem dX9_tellCheck_49 : decode cX9_tellCheck 49 = .ok (.ireturn, 1) := by decide +kernel
theorem dX9_tellCheck_50 : decode cX9_tellCheck 50 = .ok (.aload_n 0, 1) := by decide +kernel
theorem dX9_tellCheck_51 : decode cX9_tellCheck 51 = .ok (.iload_n 1, 1) := by decide +kernel
theorem dX9_tellCheck_52 : decode cX9_tellCheck 52 = .ok (.iconst 3, 1) := by decide +kernel
theorem dX9_tellCheck_53 : decode cX9_tellCheck 53 = .ok (.invokevirtual 73, 3) := by decide +kernel
theorem dX9_tellCheck_56 : decode cX9_tellCheck 56 = .ok (.ireturn, 1) := by decide +kernel
theorem dX9_tellCheck_57 : decode cX9_tellCheck 57 = .ok (.aload_n 0, 1) := by decide +kernel
theorem dX9_tellCheck_58 : decode cX9_tellCheck 58 = .ok (.iload_n 1, 1) := by decide +kernel
theorem dX9_tellCheck_59 : decode cX9_tellCheck 59 = .ok (.iconst 4, 1) := by decide +kernel
theorem dX9_tellCheck_60 : decode cX9_tellCheck 60 = .ok (.invokevirtual 73, 3) := by decide +kernel
theorem dX9_tellCheck_63 : decode cX9_tellCheck 63 = .ok (.ireturn, 1) := by decide +kernel
theorem dX9_tellCheck_64 : decode cX9_tellCheck 64 = .ok (.aload_n 0, 1) := by decide +kernel
theorem dX9_tellCheck_65 : decode cX9_tellCheck 65 = .ok (.iload_n 1, 1) := by decide +kernel
theorem dX9_tellCheck_66 : decode cX9_tellCheck 66 = .ok (.iconst 5, 1) := by decide +kernel
theorem dX9_tellCheck_67 : decode cX9_tellCheck 67 = .ok (.invokevirtual 73, 3) := by decide +kernel
theorem dX9_tellCheck_70 : decode cX9_tellCheck 70 = .ok (.ireturn, 1) := by decide +kernel
theorem dX9_tellCheck_71 : decode cX9_tellCheck 71 = .ok (.aload_n 0, 1) := by decide +kernel
theorem dX9_tellCheck_72 : decode cX9_tellCheck 72 = .ok (.iload_n 1, 1) := by decide +kernel
theorem dX9_tellCheck_73 : decode cX9_tellCheck 73 = .ok (.invokevirtual 197, 3) := by decide +kernel
theorem dX9_tellCheck_76 : decode cX9_tellCheck 76 = .ok (.ireturn, 1) := by decide +kernel
theorem dX9_checkOut_0 : decode cX9_checkOut 0 = .ok (.aload_n 0, 1) := by decide +kernel
theorem dX9_checkOut_1 : decode cX9_checkOut 1 = .ok (.aload_n 0, 1) := by decide +kernel
theorem dX9_checkOut_2 : decode cX9_checkOut 2 = .ok (.iload_n 1, 1) := by decide +kernel
theorem dX9_checkOut_3 : decode cX9_checkOut 3 = .ok (.invokevirtual 76, 3) := by decide +kernel
theorem dX9_checkOut_6 : decode cX9_checkOut 6 = .ok (.ifCond .ne 7, 3) := by decide +kernel
theorem dX9_checkOut_9 : decode cX9_checkOut 9 = .ok (.iconst 1, 1) := by decide +kernel
theorem dX9_checkOut_10 : decode cX9_checkOut 10 = .ok (.goto 17, 3) := by decide +kernel
theorem dX9_checkOut_13 : decode cX9_checkOut 13 = .ok (.iload_n 2, 1) := by decide +kernel
theorem dX9_checkOut_14 : decode cX9_checkOut 14 = .ok (.iconst 0, 1) := by decide +kernel
theorem dX9_checkOut_15 : decode cX9_checkOut 15 = .ok (.iconst 5, 1) := by decide +kernel
theorem dX9_checkOut_16 : decode cX9_checkOut 16 = .ok (.invokestatic 58, 3) := by decide +kernel
theorem dX9_checkOut_19 : decode cX9_checkOut 19 = .ok (.ifCond .eq 7, 3) := by decide +kernel
theorem dX9_checkOut_22 : decode cX9_checkOut 22 = .ok (.iconst 0, 1) := by decide +kernel
theorem dX9_checkOut_23 : decode cX9_checkOut 23 = .ok (.goto 4, 3) := by decide +kernel
theorem dX9_checkOut_26 : decode cX9_checkOut 26 = .ok (.iconst 2, 1) := by decide +kernel
theorem dX9_checkOut_27 : decode cX9_checkOut 27 = .ok (.invokevirtual 54, 3) := by decide +kernel
theorem dX9_checkOut_30 : decode cX9_checkOut 30 = .ok (.ifCond .eq 7, 3) := by decide +kernel
theorem dX9_checkOut_33 : decode cX9_checkOut 33 = .ok (.iconst 0, 1) := by decide +kernel
theorem dX9_checkOut_34 : decode cX9_checkOut 34 = .ok (.goto 9, 3) := by decide +kernel
theorem dX9_checkOut_37 : decode cX9_checkOut 37 = .ok (.aload_n 0, 1) := by decide +kernel
theorem dX9_checkOut_38 : decode cX9_checkOut 38 = .ok (.iload_n 1, 1) := by decide +kernel
theorem dX9_checkOut_39 : decode cX9_checkOut 39 = .ok (.iload_n 2, 1) := by decide +kernel
theorem dX9_checkOut_40 : decode cX9_checkOut 40 = .ok (.invokevirtual 224, 3) := by decide +kernel
theorem dX9_checkOut_43 : decode cX9_checkOut 43 = .ok (.ireturn, 1) := by decide +kernel
theorem dX9_holders_0 : decode cX9_holders 0 = .ok (.aload_n 0, 1) := by decide +kernel
theorem dX9_holders_1 : decode cX9_holders 1 = .ok (.aload_n 0, 1) := by decide +kernel
theorem dX9_holders_2 : decode cX9_holders 2 = .ok (.iload_n 1, 1) := by decide +kernel
theorem dX9_holders_3 : decode cX9_holders 3 = .ok (.invokevirtual 102, 3) := by decide +kernel
theorem dX9_holders_6 : decode cX9_holders 6 = .ok (.ifCond .eq 7, 3) := by decide +kernel
theorem dX9_holders_9 : decode cX9_holders 9 = .ok (.iconst 0, 1) := by decide +kernel
theorem dX9_holders_10 : decode cX9_holders 10 = .ok (.goto 4, 3) := by decide +kernel
theorem dX9_holders_13 : decode cX9_holders 13 = .ok (.iconst 1, 1) := by decide +kernel
theorem dX9_holders_14 : decode cX9_holders 14 = .ok (.invokevirtual 54, 3) := by decide +kernel
theorem dX9_holders_17 : decode cX9_holders 17 = .ok (.ifCond .eq 7, 3) := by decide +kernel
theorem dX9_holders_20 : decode cX9_holders 20 = .ok (.iconst 0, 1) := by decide +kernel
theorem dX9_holders_21 : decode cX9_holders 21 = .ok (.goto 8, 3) := by decide +kernel
theorem dX9_holders_24 : decode cX9_holders 24 = .ok (.aload_n 0, 1) := by decide +kernel
theorem dX9_holders_25 : decode cX9_holders 25 = .ok (.iload_n 1, 1) := by decide +kernel
theorem dX9_holders_26 : decode cX9_holders 26 = .ok (.invokevirtual 170, 3) := by decide +kernel
theorem dX9_holders_29 : decode cX9_holders 29 = .ok (.ireturn, 1) := by decide +kernel
theorem dX9_ifBroken_0 : decode cX9_ifBroken 0 = .ok (.aload_n 0, 1) := by decide +kernel
theorem dX9_ifBroken_1 : decode cX9_ifBroken 1 = .ok (.aload_n 0, 1) := by decide +kernel
theorem dX9_ifBroken_2 : decode cX9_ifBroken 2 = .ok (.iload_n 1, 1) := by decide +kernel
theorem dX9_ifBroken_3 : decode cX9_ifBroken 3 = .ok (.invokevirtual 76, 3) := by decide +kernel
theorem dX9_ifBroken_6 : decode cX9_ifBroken 6 = .ok (.ifCond .eq 7, 3) := by decide +kernel
theorem dX9_ifBroken_9 : decode cX9_ifBroken 9 = .ok (.iconst 0, 1) := by decide +kernel
theorem dX9_ifBroken_10 : decode cX9_ifBroken 10 = .ok (.goto 4, 3) := by decide +kernel
theorem dX9_ifBroken_13 : decode cX9_ifBroken 13 = .ok (.iconst 1, 1) := by decide +kernel
theorem dX9_ifBroken_14 : decode cX9_ifBroken 14 = .ok (.invokevirtual 54, 3) := by decide +kernel
theorem dX9_ifBroken_17 : decode cX9_ifBroken 17 = .ok (.ifCond .ne 11, 3) := by decide +kernel
theorem dX9_ifBroken_20 : decode cX9_ifBroken 20 = .ok (.aload_n 0, 1) := by decide +kernel
theorem dX9_ifBroken_21 : decode cX9_ifBroken 21 = .ok (.iload_n 1, 1) := by decide +kernel
theorem dX9_ifBroken_22 : decode cX9_ifBroken 22 = .ok (.invokevirtual 92, 3) := by decide +kernel
theorem dX9_ifBroken_25 : decode cX9_ifBroken 25 = .ok (.ifCond .ne 5, 3) := by decide +kernel
theorem dX9_ifBroken_28 : decode cX9_ifBroken 28 = .ok (.iconst 0, 1) := by decide +kernel
theorem dX9_ifBroken_29 : decode cX9_ifBroken 29 = .ok (.ireturn, 1) := by decide +kernel
theorem dX9_ifBroken_30 : decode cX9_ifBroken 30 = .ok (.aload_n 0, 1) := by decide +kernel
theorem dX9_ifBroken_31 : decode cX9_ifBroken 31 = .ok (.invokevirtual 227, 3) := by decide +kernel
theorem dX9_ifBroken_34 : decode cX9_ifBroken 34 = .ok (.aload_n 0, 1) := by decide +kernel
theorem dX9_ifBroken_35 : decode cX9_ifBroken 35 = .ok (.invokevirtual 79, 3) := by decide +kernel
theorem dX9_ifBroken_38 : decode cX9_ifBroken 38 = .ok (.istore_n 2, 1) := by decide +kernel
theorem dX9_ifBroken_39 : decode cX9_ifBroken 39 = .ok (.aload_n 0, 1) := by decide +kernel
theorem dX9_ifBroken_40 : decode cX9_ifBroken 40 = .ok (.iload_n 1, 1) := by decide +kernel
theorem dX9_ifBroken_41 : decode cX9_ifBroken 41 = .ok (.invokevirtual 194, 3) := by decide +kernel
theorem dX9_ifBroken_44 : decode cX9_ifBroken 44 = .ok (.pop, 1) := by decide +kernel
theorem dX9_ifBroken_45 : decode cX9_ifBroken 45 = .ok (.iload_n 2, 1) := by decide +kernel
theorem dX9_ifBroken_46 : decode cX9_ifBroken 46 = .ok (.aload_n 0, 1) := by decide +kernel
theorem dX9_ifBroken_47 : decode cX9_ifBroken 47 = .ok (.invokevirtual 79, 3) := by decide +kernel
theorem dX9_ifBroken_50 : decode cX9_ifBroken 50 = .ok (.isub, 1) := by decide +kernel
theorem dX9_ifBroken_51 : decode cX9_ifBroken 51 = .ok (.istore_n 3, 1) := by decide +kernel
theorem dX9_ifBroken_52 : decode cX9_ifBroken 52 = .ok (.aload_n 0, 1) := by decide +kernel
theorem dX9_ifBroken_53 : decode cX9_ifBroken 53 = .ok (.invokevirtual 230, 3) := by decide +kernel
theorem dX9_ifBroken_56 : decode cX9_ifBroken 56 = .ok (.iload_n 3, 1) := by decide +kernel
theorem dX9_ifBroken_57 : decode cX9_ifBroken 57 = .ok (.ireturn, 1) := by decide +kernel
theorem dX9_grantedAt_0 : decode cX9_grantedAt 0 = .ok (.aload_n 0, 1) := by decide +kernel
theorem dX9_grantedAt_1 : decode cX9_grantedAt 1 = .ok (.iload_n 1, 1) := by decide +kernel
theorem dX9_grantedAt_2 : decode cX9_grantedAt 2 = .ok (.invokestatic 179, 3) := by decide +kernel
theorem dX9_grantedAt_5 : decode cX9_grantedAt 5 = .ok (.ifCond .ne 7, 3) := by decide +kernel
theorem dX9_grantedAt_8 : decode cX9_grantedAt 8 = .ok (.iconst 1, 1) := by decide +kernel
theorem dX9_grantedAt_9 : decode cX9_grantedAt 9 = .ok (.goto 17, 3) := by decide +kernel
theorem dX9_grantedAt_12 : decode cX9_grantedAt 12 = .ok (.aload_n 0, 1) := by decide +kernel
theorem dX9_grantedAt_13 : decode cX9_grantedAt 13 = .ok (.iload_n 1, 1) := by decide +kernel
theorem dX9_grantedAt_14 : decode cX9_grantedAt 14 = .ok (.invokevirtual 182, 3) := by decide +kernel
theorem dX9_grantedAt_17 : decode cX9_grantedAt 17 = .ok (.iconst (-1), 1) := by decide +kernel
theorem dX9_grantedAt_18 : decode cX9_grantedAt 18 = .ok (.if_icmp .ne 7, 3) := by decide +kernel
theorem dX9_grantedAt_21 : decode cX9_grantedAt 21 = .ok (.iconst 2, 1) := by decide +kernel
theorem dX9_grantedAt_22 : decode cX9_grantedAt 22 = .ok (.goto 4, 3) := by decide +kernel
theorem dX9_grantedAt_25 : decode cX9_grantedAt 25 = .ok (.iconst 0, 1) := by decide +kernel
theorem dX9_grantedAt_26 : decode cX9_grantedAt 26 = .ok (.invokevirtual 54, 3) := by decide +kernel
theorem dX9_grantedAt_29 : decode cX9_grantedAt 29 = .ok (.ifCond .eq 5, 3) := by decide +kernel
theorem dX9_grantedAt_32 : decode cX9_grantedAt 32 = .ok (.iconst 0, 1) := by decide +kernel
theorem dX9_grantedAt_33 : decode cX9_grantedAt 33 = .ok (.ireturn, 1) := by decide +kernel
theorem dX9_grantedAt_34 : decode cX9_grantedAt 34 = .ok (.aload_n 0, 1) := by decide +kernel
theorem dX9_grantedAt_35 : decode cX9_grantedAt 35 = .ok (.invokevirtual 227, 3) := by decide +kernel
theorem dX9_grantedAt_38 : decode cX9_grantedAt 38 = .ok (.sipush 2000, 3) := by decide +kernel
theorem dX9_grantedAt_41 : decode cX9_grantedAt 41 = .ok (.istore_n 2, 1) := by decide +kernel
theorem dX9_grantedAt_42 : decode cX9_grantedAt 42 = .ok (.iload_n 2, 1) := by decide +kernel
theorem dX9_grantedAt_43 : decode cX9_grantedAt 43 = .ok (.ifCond .le 22, 3) := by decide +kernel
theorem dX9_grantedAt_46 : decode cX9_grantedAt 46 = .ok (.aload_n 0, 1) := by decide +kernel
theorem dX9_grantedAt_47 : decode cX9_grantedAt 47 = .ok (.iload_n 1, 1) := by decide +kernel
theorem dX9_grantedAt_48 : decode cX9_grantedAt 48 = .ok (.invokevirtual 182, 3) := by decide +kernel
theorem dX9_grantedAt_51 : decode cX9_grantedAt 51 = .ok (.iconst (-1), 1) := by decide +kernel
theorem dX9_grantedAt_52 : decode cX9_grantedAt 52 = .ok (.if_icmp .eq 13, 3) := by decide +kernel
theorem dX9_grantedAt_55 : decode cX9_grantedAt 55 = .ok (.aload_n 0, 1) := by decide +kernel
theorem dX9_grantedAt_56 : decode cX9_grantedAt 56 = .ok (.invokevirtual 233, 3) := by decide +kernel
theorem dX9_grantedAt_59 : decode cX9_grantedAt 59 = .ok (.iinc 2 (-1), 3) := by decide +kernel
theorem dX9_grantedAt_62 : decode cX9_grantedAt 62 = .ok (.goto (-20), 3) := by decide +kernel
theorem dX9_grantedAt_65 : decode cX9_grantedAt 65 = .ok (.aload_n 0, 1) := by decide +kernel
theorem dX9_grantedAt_66 : decode cX9_grantedAt 66 = .ok (.iload_n 1, 1) := by decide +kernel
theorem dX9_grantedAt_67 : decode cX9_grantedAt 67 = .ok (.invokevirtual 182, 3) := by decide +kernel
theorem dX9_grantedAt_70 : decode cX9_grantedAt 70 = .ok (.iconst (-1), 1) := by decide +kernel
theorem dX9_grantedAt_71 : decode cX9_grantedAt 71 = .ok (.if_icmp .ne 12, 3) := by decide +kernel
theorem dX9_grantedAt_74 : decode cX9_grantedAt 74 = .ok (.aload_n 0, 1) := by decide +kernel
theorem dX9_grantedAt_75 : decode cX9_grantedAt 75 = .ok (.getfield 7, 3) := by decide +kernel
theorem dX9_grantedAt_78 : decode cX9_grantedAt 78 = .ok (.iconst 0, 1) := by decide +kernel
theorem dX9_grantedAt_79 : decode cX9_grantedAt 79 = .ok (.iaload, 1) := by decide +kernel
theorem dX9_grantedAt_80 : decode cX9_grantedAt 80 = .ok (.goto 4, 3) := by decide +kernel
theorem dX9_grantedAt_83 : decode cX9_grantedAt 83 = .ok (.iconst (-1), 1) := by decide +kernel
theorem dX9_grantedAt_84 : decode cX9_grantedAt 84 = .ok (.istore_n 3, 1) := by decide +kernel
theorem dX9_grantedAt_85 : decode cX9_grantedAt 85 = .ok (.aload_n 0, 1) := by decide +kernel
theorem dX9_grantedAt_86 : decode cX9_grantedAt 86 = .ok (.invokevirtual 230, 3) := by decide +kernel
theorem dX9_grantedAt_89 : decode cX9_grantedAt 89 = .ok (.iload_n 3, 1) := by decide +kernel
theorem dX9_grantedAt_90 : decode cX9_grantedAt 90 = .ok (.ireturn, 1) := by decide +kernel
theorem dX9_waitsFor_0 : decode cX9_waitsFor 0 = .ok (.aload_n 0, 1) := by decide +kernel
theorem dX9_waitsFor_1 : decode cX9_waitsFor 1 = .ok (.iload_n 1, 1) := by decide +kernel
theorem dX9_waitsFor_2 : decode cX9_waitsFor 2 = .ok (.invokestatic 179, 3) := by decide +kernel
theorem dX9_waitsFor_5 : decode cX9_waitsFor 5 = .ok (.ifCond .ne 7, 3) := by decide +kernel
theorem dX9_waitsFor_8 : decode cX9_waitsFor 8 = .ok (.iconst 1, 1) := by decide +kernel
theorem dX9_waitsFor_9 : decode cX9_waitsFor 9 = .ok (.goto 17, 3) := by decide +kernel
theorem dX9_waitsFor_12 : decode cX9_waitsFor 12 = .ok (.aload_n 0, 1) := by decide +kernel
theorem dX9_waitsFor_13 : decode cX9_waitsFor 13 = .ok (.iload_n 1, 1) := by decide +kernel
theorem dX9_waitsFor_14 : decode cX9_waitsFor 14 = .ok (.invokevirtual 182, 3) := by decide +kernel
theorem dX9_waitsFor_17 : decode cX9_waitsFor 17 = .ok (.iconst (-1), 1) := by decide +kernel
theorem dX9_waitsFor_18 : decode cX9_waitsFor 18 = .ok (.if_icmp .ne 7, 3) := by decide +kernel
theorem dX9_waitsFor_21 : decode cX9_waitsFor 21 = .ok (.iconst 2, 1) := by decide +kernel
theorem dX9_waitsFor_22 : decode cX9_waitsFor 22 = .ok (.goto 4, 3) := by decide +kernel
theorem dX9_waitsFor_25 : decode cX9_waitsFor 25 = .ok (.iconst 0, 1) := by decide +kernel
theorem dX9_waitsFor_26 : decode cX9_waitsFor 26 = .ok (.invokevirtual 54, 3) := by decide +kernel
theorem dX9_waitsFor_29 : decode cX9_waitsFor 29 = .ok (.ifCond .eq 5, 3) := by decide +kernel
theorem dX9_waitsFor_32 : decode cX9_waitsFor 32 = .ok (.iconst 0, 1) := by decide +kernel
theorem dX9_waitsFor_33 : decode cX9_waitsFor 33 = .ok (.ireturn, 1) := by decide +kernel
theorem dX9_waitsFor_34 : decode cX9_waitsFor 34 = .ok (.aload_n 0, 1) := by decide +kernel
theorem dX9_waitsFor_35 : decode cX9_waitsFor 35 = .ok (.iload_n 1, 1) := by decide +kernel
theorem dX9_waitsFor_36 : decode cX9_waitsFor 36 = .ok (.invokevirtual 182, 3) := by decide +kernel
theorem dX9_waitsFor_39 : decode cX9_waitsFor 39 = .ok (.istore_n 2, 1) := by decide +kernel
theorem dX9_waitsFor_40 : decode cX9_waitsFor 40 = .ok (.aload_n 0, 1) := by decide +kernel
theorem dX9_waitsFor_41 : decode cX9_waitsFor 41 = .ok (.getfield 7, 3) := by decide +kernel
theorem dX9_waitsFor_44 : decode cX9_waitsFor 44 = .ok (.iload_n 2, 1) := by decide +kernel
theorem dX9_waitsFor_45 : decode cX9_waitsFor 45 = .ok (.iconst 1, 1) := by decide +kernel
theorem dX9_waitsFor_46 : decode cX9_waitsFor 46 = .ok (.invokestatic 83, 3) := by decide +kernel
theorem dX9_waitsFor_49 : decode cX9_waitsFor 49 = .ok (.iaload, 1) := by decide +kernel
theorem dX9_waitsFor_50 : decode cX9_waitsFor 50 = .ok (.istore_n 3, 1) := by decide +kernel
theorem dX9_waitsFor_51 : decode cX9_waitsFor 51 = .ok (.aload_n 0, 1) := by decide +kernel
theorem dX9_waitsFor_52 : decode cX9_waitsFor 52 = .ok (.getfield 7, 3) := by decide +kernel
theorem dX9_waitsFor_55 : decode cX9_waitsFor 55 = .ok (.iload_n 2, 1) := by decide +kernel
theorem dX9_waitsFor_56 : decode cX9_waitsFor 56 = .ok (.iconst 3, 1) := by decide +kernel
theorem dX9_waitsFor_57 : decode cX9_waitsFor 57 = .ok (.invokestatic 83, 3) := by decide +kernel
theorem dX9_waitsFor_60 : decode cX9_waitsFor 60 = .ok (.iaload, 1) := by decide +kernel
theorem dX9_waitsFor_61 : decode cX9_waitsFor 61 = .ok (.istore 4, 2) := by decide +kernel
theorem dX9_waitsFor_63 : decode cX9_waitsFor 63 = .ok (.iconst 0, 1) := by decide +kernel
theorem dX9_waitsFor_64 : decode cX9_waitsFor 64 = .ok (.istore 5, 2) := by decide +kernel
theorem dX9_waitsFor_66 : decode cX9_waitsFor 66 = .ok (.iconst 0, 1) := by decide +kernel
theorem dX9_waitsFor_67 : decode cX9_waitsFor 67 = .ok (.istore 6, 2) := by decide +kernel
theorem dX9_waitsFor_69 : decode cX9_waitsFor 69 = .ok (.iload 6, 2) := by decide +kernel
theorem dX9_waitsFor_71 : decode cX9_waitsFor 71 = .ok (.bipush 10, 2) := by decide +kernel
theorem dX9_waitsFor_73 : decode cX9_waitsFor 73 = .ok (.if_icmp .ge 40, 3) := by decide +kernel
theorem dX9_waitsFor_76 : decode cX9_waitsFor 76 = .ok (.iload 5, 2) := by decide +kernel
theorem dX9_waitsFor_78 : decode cX9_waitsFor 78 = .ok (.aload_n 0, 1) := by decide +kernel
theorem dX9_waitsFor_79 : decode cX9_waitsFor 79 = .ok (.iload_n 1, 1) := by decide +kernel
theorem dX9_waitsFor_80 : decode cX9_waitsFor 80 = .ok (.iload_n 3, 1) := by decide +kernel
theorem dX9_waitsFor_81 : decode cX9_waitsFor 81 = .ok (.iload 4, 2) := by decide +kernel
theorem dX9_waitsFor_83 : decode cX9_waitsFor 83 = .ok (.iload 6, 2) := by decide +kernel
theorem dX9_waitsFor_85 : decode cX9_waitsFor 85 = .ok (.invokevirtual 99, 3) := by decide +kernel
theorem dX9_waitsFor_88 : decode cX9_waitsFor 88 = .ok (.ifCond .eq 15, 3) := by decide +kernel
theorem dX9_waitsFor_91 : decode cX9_waitsFor 91 = .ok (.iconst 1, 1) := by decide +kernel
theorem dX9_waitsFor_92 : decode cX9_waitsFor 92 = .ok (.aload_n 0, 1) := by decide +kernel
theorem dX9_waitsFor_93 : decode cX9_waitsFor 93 = .ok (.iload 6, 2) := by decide +kernel
theorem dX9_waitsFor_95 : decode cX9_waitsFor 95 = .ok (.iconst 1, 1) := by decide +kernel
theorem dX9_waitsFor_96 : decode cX9_waitsFor 96 = .ok (.invokevirtual 73, 3) := by decide +kernel
theorem dX9_waitsFor_99 : decode cX9_waitsFor 99 = .ok (.ishl, 1) := by decide +kernel
theorem dX9_waitsFor_100 : decode cX9_waitsFor 100 = .ok (.goto 4, 3) := by decide +kernel
theorem dX9_waitsFor_103 : decode cX9_waitsFor 103 = .ok (.iconst 0, 1) := by decide +kernel
theorem dX9_waitsFor_104 : decode cX9_waitsFor 104 = .ok (.ior, 1) := by decide +kernel
theorem dX9_waitsFor_105 : decode cX9_waitsFor 105 = .ok (.istore 5, 2) := by decide +kernel
theorem dX9_waitsFor_107 : decode cX9_waitsFor 107 = .ok (.iinc 6 1, 3) := by decide +kernel
theorem dX9_waitsFor_110 : decode cX9_waitsFor 110 = .ok (.goto (-41), 3) := by decide +kernel
theorem dX9_waitsFor_113 : decode cX9_waitsFor 113 = .ok (.iconst 0, 1) := by decide +kernel
theorem dX9_waitsFor_114 : decode cX9_waitsFor 114 = .ok (.istore 6, 2) := by decide +kernel
theorem dX9_waitsFor_116 : decode cX9_waitsFor 116 = .ok (.iload 6, 2) := by decide +kernel
theorem dX9_waitsFor_118 : decode cX9_waitsFor 118 = .ok (.iload_n 2, 1) := by decide +kernel
theorem dX9_waitsFor_119 : decode cX9_waitsFor 119 = .ok (.if_icmp .ge 43, 3) := by decide +kernel
theorem dX9_waitsFor_122 : decode cX9_waitsFor 122 = .ok (.iload 5, 2) := by decide +kernel
theorem dX9_waitsFor_124 : decode cX9_waitsFor 124 = .ok (.aload_n 0, 1) := by decide +kernel
theorem dX9_waitsFor_125 : decode cX9_waitsFor 125 = .ok (.iload 6, 2) := by decide +kernel
theorem dX9_waitsFor_127 : decode cX9_waitsFor 127 = .ok (.iload_n 3, 1) := by decide +kernel
theorem dX9_waitsFor_128 : decode cX9_waitsFor 128 = .ok (.iload 4, 2) := by decide +kernel
theorem dX9_waitsFor_130 : decode cX9_waitsFor 130 = .ok (.invokevirtual 113, 3) := by decide +kernel
theorem dX9_waitsFor_133 : decode cX9_waitsFor 133 = .ok (.ifCond .eq 19, 3) := by decide +kernel
theorem dX9_waitsFor_136 : decode cX9_waitsFor 136 = .ok (.iconst 1, 1) := by decide +kernel
theorem dX9_waitsFor_137 : decode cX9_waitsFor 137 = .ok (.aload_n 0, 1) := by decide +kernel
theorem dX9_waitsFor_138 : decode cX9_waitsFor 138 = .ok (.getfield 7, 3) := by decide +kernel
theorem dX9_waitsFor_141 : decode cX9_waitsFor 141 = .ok (.iload 6, 2) := by decide +kernel
theorem dX9_waitsFor_143 : decode cX9_waitsFor 143 = .ok (.iconst 0, 1) := by decide +kernel
theorem dX9_waitsFor_144 : decode cX9_waitsFor 144 = .ok (.invokestatic 83, 3) := by decide +kernel
theorem dX9_waitsFor_147 : decode cX9_waitsFor 147 = .ok (.iaload, 1) := by decide +kernel
theorem dX9_waitsFor_148 : decode cX9_waitsFor 148 = .ok (.ishl, 1) := by decide +kernel
theorem dX9_waitsFor_149 : decode cX9_waitsFor 149 = .ok (.goto 4, 3) := by decide +kernel
theorem dX9_waitsFor_152 : decode cX9_waitsFor 152 = .ok (.iconst 0, 1) := by decide +kernel
theorem dX9_waitsFor_153 : decode cX9_waitsFor 153 = .ok (.ior, 1) := by decide +kernel
theorem dX9_waitsFor_154 : decode cX9_waitsFor 154 = .ok (.istore 5, 2) := by decide +kernel
theorem dX9_waitsFor_156 : decode cX9_waitsFor 156 = .ok (.iinc 6 1, 3) := by decide +kernel
theorem dX9_waitsFor_159 : decode cX9_waitsFor 159 = .ok (.goto (-43), 3) := by decide +kernel
theorem dX9_waitsFor_162 : decode cX9_waitsFor 162 = .ok (.iload 5, 2) := by decide +kernel
theorem dX9_waitsFor_164 : decode cX9_waitsFor 164 = .ok (.ireturn, 1) := by decide +kernel
theorem dX9_entries_0 : decode cX9_entries 0 = .ok (.aload_n 0, 1) := by decide +kernel
theorem dX9_entries_1 : decode cX9_entries 1 = .ok (.iconst 0, 1) := by decide +kernel
theorem dX9_entries_2 : decode cX9_entries 2 = .ok (.putfield 47, 3) := by decide +kernel
theorem dX9_entries_5 : decode cX9_entries 5 = .ok (.aload_n 0, 1) := by decide +kernel
theorem dX9_entries_6 : decode cX9_entries 6 = .ok (.getfield 7, 3) := by decide +kernel
theorem dX9_entries_9 : decode cX9_entries 9 = .ok (.sipush 2701, 3) := by decide +kernel
theorem dX9_entries_12 : decode cX9_entries 12 = .ok (.iaload, 1) := by decide +kernel
theorem dX9_entries_13 : decode cX9_entries 13 = .ok (.ireturn, 1) := by decide +kernel
theorem dX9_entry_0 : decode cX9_entry 0 = .ok (.aload_n 0, 1) := by decide +kernel
theorem dX9_entry_1 : decode cX9_entry 1 = .ok (.iload_n 1, 1) := by decide +kernel
theorem dX9_entry_2 : decode cX9_entry 2 = .ok (.iconst 0, 1) := by decide +kernel
theorem dX9_entry_3 : decode cX9_entry 3 = .ok (.aload_n 0, 1) := by decide +kernel
theorem dX9_entry_4 : decode cX9_entry 4 = .ok (.getfield 7, 3) := by decide +kernel
theorem dX9_entry_7 : decode cX9_entry 7 = .ok (.sipush 2701, 3) := by decide +kernel
theorem dX9_entry_10 : decode cX9_entry 10 = .ok (.iaload, 1) := by decide +kernel
theorem dX9_entry_11 : decode cX9_entry 11 = .ok (.iconst 1, 1) := by decide +kernel
theorem dX9_entry_12 : decode cX9_entry 12 = .ok (.isub, 1) := by decide +kernel
theorem dX9_entry_13 : decode cX9_entry 13 = .ok (.invokestatic 58, 3) := by decide +kernel
theorem dX9_entry_16 : decode cX9_entry 16 = .ok (.ifCond .ne 7, 3) := by decide +kernel
theorem dX9_entry_19 : decode cX9_entry 19 = .ok (.iconst 1, 1) := by decide +kernel
theorem dX9_entry_20 : decode cX9_entry 20 = .ok (.goto 17, 3) := by decide +kernel
theorem dX9_entry_23 : decode cX9_entry 23 = .ok (.iload_n 2, 1) := by decide +kernel
theorem dX9_entry_24 : decode cX9_entry 24 = .ok (.iconst 0, 1) := by decide +kernel
theorem dX9_entry_25 : decode cX9_entry 25 = .ok (.iconst 5, 1) := by decide +kernel
theorem dX9_entry_26 : decode cX9_entry 26 = .ok (.invokestatic 58, 3) := by decide +kernel
theorem dX9_entry_29 : decode cX9_entry 29 = .ok (.ifCond .eq 7, 3) := by decide +kernel
theorem dX9_entry_32 : decode cX9_entry 32 = .ok (.iconst 0, 1) := by decide +kernel
theorem dX9_entry_33 : decode cX9_entry 33 = .ok (.goto 4, 3) := by decide +kernel
theorem dX9_entry_36 : decode cX9_entry 36 = .ok (.iconst 2, 1) := by decide +kernel
theorem dX9_entry_37 : decode cX9_entry 37 = .ok (.invokevirtual 54, 3) := by decide +kernel
theorem dX9_entry_40 : decode cX9_entry 40 = .ok (.ifCond .eq 7, 3) := by decide +kernel
theorem dX9_entry_43 : decode cX9_entry 43 = .ok (.iconst 0, 1) := by decide +kernel
theorem dX9_entry_44 : decode cX9_entry 44 = .ok (.goto 18, 3) := by decide +kernel
theorem dX9_entry_47 : decode cX9_entry 47 = .ok (.aload_n 0, 1) := by decide +kernel
theorem dX9_entry_48 : decode cX9_entry 48 = .ok (.getfield 7, 3) := by decide +kernel
theorem dX9_entry_51 : decode cX9_entry 51 = .ok (.sipush 2702, 3) := by decide +kernel
theorem dX9_entry_54 : decode cX9_entry 54 = .ok (.bipush 6, 2) := by decide +kernel
theorem dX9_entry_56 : decode cX9_entry 56 = .ok (.iload_n 1, 1) := by decide +kernel
theorem dX9_entry_57 : decode cX9_entry 57 = .ok (.imul, 1) := by decide +kernel
theorem dX9_entry_58 : decode cX9_entry 58 = .ok (.iadd, 1) := by decide +kernel
theorem dX9_entry_59 : decode cX9_entry 59 = .ok (.iload_n 2, 1) := by decide +kernel
theorem dX9_entry_60 : decode cX9_entry 60 = .ok (.iadd, 1) := by decide +kernel
theorem dX9_entry_61 : decode cX9_entry 61 = .ok (.iaload, 1) := by decide +kernel
theorem dX9_entry_62 : decode cX9_entry 62 = .ok (.ireturn, 1) := by decide +kernel
theorem dX9_blame_0 : decode cX9_blame 0 = .ok (.aload_n 0, 1) := by decide +kernel
theorem dX9_blame_1 : decode cX9_blame 1 = .ok (.aload_n 0, 1) := by decide +kernel
theorem dX9_blame_2 : decode cX9_blame 2 = .ok (.iload_n 1, 1) := by decide +kernel
theorem dX9_blame_3 : decode cX9_blame 3 = .ok (.iload_n 2, 1) := by decide +kernel
theorem dX9_blame_4 : decode cX9_blame 4 = .ok (.invokevirtual 167, 3) := by decide +kernel
theorem dX9_blame_7 : decode cX9_blame 7 = .ok (.ifCond .eq 7, 3) := by decide +kernel
theorem dX9_blame_10 : decode cX9_blame 10 = .ok (.iconst 0, 1) := by decide +kernel
theorem dX9_blame_11 : decode cX9_blame 11 = .ok (.goto 4, 3) := by decide +kernel
theorem dX9_blame_14 : decode cX9_blame 14 = .ok (.iconst 1, 1) := by decide +kernel
theorem dX9_blame_15 : decode cX9_blame 15 = .ok (.invokevirtual 54, 3) := by decide +kernel
theorem dX9_blame_18 : decode cX9_blame 18 = .ok (.ifCond .eq 5, 3) := by decide +kernel
theorem dX9_blame_21 : decode cX9_blame 21 = .ok (.iconst 0, 1) := by decide +kernel
theorem dX9_blame_22 : decode cX9_blame 22 = .ok (.ireturn, 1) := by decide +kernel
theorem dX9_blame_23 : decode cX9_blame 23 = .ok (.iconst (-1), 1) := by decide +kernel
theorem dX9_blame_24 : decode cX9_blame 24 = .ok (.istore_n 3, 1) := by decide +kernel
theorem dX9_blame_25 : decode cX9_blame 25 = .ok (.iconst 0, 1) := by decide +kernel
theorem dX9_blame_26 : decode cX9_blame 26 = .ok (.istore 4, 2) := by decide +kernel
theorem dX9_blame_28 : decode cX9_blame 28 = .ok (.iload 4, 2) := by decide +kernel
theorem dX9_blame_30 : decode cX9_blame 30 = .ok (.aload_n 0, 1) := by decide +kernel
theorem dX9_blame_31 : decode cX9_blame 31 = .ok (.getfield 7, 3) := by decide +kernel
theorem dX9_blame_34 : decode cX9_blame 34 = .ok (.sipush 2701, 3) := by decide +kernel
theorem dX9_blame_37 : decode cX9_blame 37 = .ok (.iaload, 1) := by decide +kernel
theorem dX9_blame_38 : decode cX9_blame 38 = .ok (.if_icmp .ge 60, 3) := by decide +kernel
theorem dX9_blame_41 : decode cX9_blame 41 = .ok (.sipush 2702, 3) := by decide +kernel
theorem dX9_blame_44 : decode cX9_blame 44 = .ok (.bipush 6, 2) := by decide +kernel
theorem dX9_blame_46 : decode cX9_blame 46 = .ok (.iload 4, 2) := by decide +kernel
theorem dX9_blame_48 : decode cX9_blame 48 = .ok (.imul, 1) := by decide +kernel
theorem dX9_blame_49 : decode cX9_blame 49 = .ok (.iadd, 1) := by decide +kernel
theorem dX9_blame_50 : decode cX9_blame 50 = .ok (.istore 5, 2) := by decide +kernel
theorem dX9_blame_52 : decode cX9_blame 52 = .ok (.aload_n 0, 1) := by decide +kernel
theorem dX9_blame_53 : decode cX9_blame 53 = .ok (.getfield 7, 3) := by decide +kernel
theorem dX9_blame_56 : decode cX9_blame 56 = .ok (.iload 5, 2) := by decide +kernel
theorem dX9_blame_58 : decode cX9_blame 58 = .ok (.iconst 1, 1) := by decide +kernel
theorem dX9_blame_59 : decode cX9_blame 59 = .ok (.iadd, 1) := by decide +kernel
theorem dX9_blame_60 : decode cX9_blame 60 = .ok (.iaload, 1) := by decide +kernel
theorem dX9_blame_61 : decode cX9_blame 61 = .ok (.iload_n 1, 1) := by decide +kernel
theorem dX9_blame_62 : decode cX9_blame 62 = .ok (.if_icmp .ne 28, 3) := by decide +kernel
theorem dX9_blame_65 : decode cX9_blame 65 = .ok (.aload_n 0, 1) := by decide +kernel
theorem dX9_blame_66 : decode cX9_blame 66 = .ok (.getfield 7, 3) := by decide +kernel
theorem dX9_blame_69 : decode cX9_blame 69 = .ok (.iload 5, 2) := by decide +kernel
theorem dX9_blame_71 : decode cX9_blame 71 = .ok (.iconst 2, 1) := by decide +kernel
theorem dX9_blame_72 : decode cX9_blame 72 = .ok (.iadd, 1) := by decide +kernel
theorem dX9_blame_73 : decode cX9_blame 73 = .ok (.iaload, 1) := by decide +kernel
theorem dX9_blame_74 : decode cX9_blame 74 = .ok (.iload_n 2, 1) := by decide +kernel
theorem dX9_blame_75 : decode cX9_blame 75 = .ok (.if_icmp .ne 15, 3) := by decide +kernel
theorem dX9_blame_78 : decode cX9_blame 78 = .ok (.aload_n 0, 1) := by decide +kernel
theorem dX9_blame_79 : decode cX9_blame 79 = .ok (.getfield 7, 3) := by decide +kernel
theorem dX9_blame_82 : decode cX9_blame 82 = .ok (.iload 5, 2) := by decide +kernel
theorem dX9_blame_84 : decode cX9_blame 84 = .ok (.iconst 5, 1) := by decide +kernel
theorem dX9_blame_85 : decode cX9_blame 85 = .ok (.iadd, 1) := by decide +kernel
theorem dX9_blame_86 : decode cX9_blame 86 = .ok (.iaload, 1) := by decide +kernel
theorem dX9_blame_87 : decode cX9_blame 87 = .ok (.goto 4, 3) := by decide +kernel
theorem dX9_blame_90 : decode cX9_blame 90 = .ok (.iload_n 3, 1) := by decide +kernel
theorem dX9_blame_91 : decode cX9_blame 91 = .ok (.istore_n 3, 1) := by decide +kernel
theorem dX9_blame_92 : decode cX9_blame 92 = .ok (.iinc 4 1, 3) := by decide +kernel
theorem dX9_blame_95 : decode cX9_blame 95 = .ok (.goto (-67), 3) := by decide +kernel
theorem dX9_blame_98 : decode cX9_blame 98 = .ok (.iload_n 3, 1) := by decide +kernel
theorem dX9_blame_99 : decode cX9_blame 99 = .ok (.ireturn, 1) := by decide +kernel
theorem dX9_isTick_0 : decode cX9_isTick 0 = .ok (.iload_n 1, 1) := by decide +kernel
theorem dX9_isTick_1 : decode cX9_isTick 1 = .ok (.iconst 0, 1) := by decide +kernel
theorem dX9_isTick_2 : decode cX9_isTick 2 = .ok (.aload_n 0, 1) := by decide +kernel
theorem dX9_isTick_3 : decode cX9_isTick 3 = .ok (.getfield 7, 3) := by decide +kernel
theorem dX9_isTick_6 : decode cX9_isTick 6 = .ok (.iconst 0, 1) := by decide +kernel
theorem dX9_isTick_7 : decode cX9_isTick 7 = .ok (.iaload, 1) := by decide +kernel
theorem dX9_isTick_8 : decode cX9_isTick 8 = .ok (.invokestatic 58, 3) := by decide +kernel
theorem dX9_isTick_11 : decode cX9_isTick 11 = .ok (.ireturn, 1) := by decide +kernel
theorem dX9_lineAt_0 : decode cX9_lineAt 0 = .ok (.aload_n 0, 1) := by decide +kernel
theorem dX9_lineAt_1 : decode cX9_lineAt 1 = .ok (.aload_n 0, 1) := by decide +kernel
theorem dX9_lineAt_2 : decode cX9_lineAt 2 = .ok (.iload_n 1, 1) := by decide +kernel
theorem dX9_lineAt_3 : decode cX9_lineAt 3 = .ok (.iload_n 2, 1) := by decide +kernel
theorem dX9_lineAt_4 : decode cX9_lineAt 4 = .ok (.invokevirtual 167, 3) := by decide +kernel
theorem dX9_lineAt_7 : decode cX9_lineAt 7 = .ok (.ifCond .ne 7, 3) := by decide +kernel
theorem dX9_lineAt_10 : decode cX9_lineAt 10 = .ok (.iconst 1, 1) := by decide +kernel
theorem dX9_lineAt_11 : decode cX9_lineAt 11 = .ok (.goto 16, 3) := by decide +kernel
theorem dX9_lineAt_14 : decode cX9_lineAt 14 = .ok (.aload_n 0, 1) := by decide +kernel
theorem dX9_lineAt_15 : decode cX9_lineAt 15 = .ok (.iload_n 3, 1) := by decide +kernel
theorem dX9_lineAt_16 : decode cX9_lineAt 16 = .ok (.invokevirtual 236, 3) := by decide +kernel
theorem dX9_lineAt_19 : decode cX9_lineAt 19 = .ok (.ifCond .eq 7, 3) := by decide +kernel
theorem dX9_lineAt_22 : decode cX9_lineAt 22 = .ok (.iconst 0, 1) := by decide +kernel
theorem dX9_lineAt_23 : decode cX9_lineAt 23 = .ok (.goto 4, 3) := by decide +kernel
theorem dX9_lineAt_26 : decode cX9_lineAt 26 = .ok (.iconst 2, 1) := by decide +kernel
theorem dX9_lineAt_27 : decode cX9_lineAt 27 = .ok (.invokevirtual 54, 3) := by decide +kernel
theorem dX9_lineAt_30 : decode cX9_lineAt 30 = .ok (.ifCond .eq 7, 3) := by decide +kernel
theorem dX9_lineAt_33 : decode cX9_lineAt 33 = .ok (.iconst 0, 1) := by decide +kernel
theorem dX9_lineAt_34 : decode cX9_lineAt 34 = .ok (.goto 10, 3) := by decide +kernel
theorem dX9_lineAt_37 : decode cX9_lineAt 37 = .ok (.aload_n 0, 1) := by decide +kernel
theorem dX9_lineAt_38 : decode cX9_lineAt 38 = .ok (.iload_n 1, 1) := by decide +kernel
theorem dX9_lineAt_39 : decode cX9_lineAt 39 = .ok (.iload_n 2, 1) := by decide +kernel
theorem dX9_lineAt_40 : decode cX9_lineAt 40 = .ok (.iload_n 3, 1) := by decide +kernel
theorem dX9_lineAt_41 : decode cX9_lineAt 41 = .ok (.invokevirtual 239, 3) := by decide +kernel
theorem dX9_lineAt_44 : decode cX9_lineAt 44 = .ok (.ireturn, 1) := by decide +kernel
theorem dX9_revert_0 : decode cX9_revert 0 = .ok (.aload_n 0, 1) := by decide +kernel
theorem dX9_revert_1 : decode cX9_revert 1 = .ok (.aload_n 0, 1) := by decide +kernel
theorem dX9_revert_2 : decode cX9_revert 2 = .ok (.iload_n 1, 1) := by decide +kernel
theorem dX9_revert_3 : decode cX9_revert 3 = .ok (.invokevirtual 102, 3) := by decide +kernel
theorem dX9_revert_6 : decode cX9_revert 6 = .ok (.ifCond .ne 7, 3) := by decide +kernel
theorem dX9_revert_9 : decode cX9_revert 9 = .ok (.iconst 1, 1) := by decide +kernel
theorem dX9_revert_10 : decode cX9_revert 10 = .ok (.goto 28, 3) := by decide +kernel
theorem dX9_revert_13 : decode cX9_revert 13 = .ok (.aload_n 0, 1) := by decide +kernel
theorem dX9_revert_14 : decode cX9_revert 14 = .ok (.iload_n 2, 1) := by decide +kernel
theorem dX9_revert_15 : decode cX9_revert 15 = .ok (.invokevirtual 236, 3) := by decide +kernel
theorem dX9_revert_18 : decode cX9_revert 18 = .ok (.ifCond .ne 7, 3) := by decide +kernel
theorem dX9_revert_21 : decode cX9_revert 21 = .ok (.iconst 2, 1) := by decide +kernel
theorem dX9_revert_22 : decode cX9_revert 22 = .ok (.goto 16, 3) := by decide +kernel
theorem dX9_revert_25 : decode cX9_revert 25 = .ok (.aload_n 0, 1) := by decide +kernel
theorem dX9_revert_26 : decode cX9_revert 26 = .ok (.iload_n 1, 1) := by decide +kernel
theorem dX9_revert_27 : decode cX9_revert 27 = .ok (.invokevirtual 215, 3) := by decide +kernel
theorem dX9_revert_30 : decode cX9_revert 30 = .ok (.ifCond .eq 7, 3) := by decide +kernel
theorem dX9_revert_33 : decode cX9_revert 33 = .ok (.iconst 3, 1) := by decide +kernel
theorem dX9_revert_34 : decode cX9_revert 34 = .ok (.goto 4, 3) := by decide +kernel
theorem dX9_revert_37 : decode cX9_revert 37 = .ok (.iconst 0, 1) := by decide +kernel
theorem dX9_revert_38 : decode cX9_revert 38 = .ok (.invokevirtual 54, 3) := by decide +kernel
theorem dX9_revert_41 : decode cX9_revert 41 = .ok (.ifCond .eq 5, 3) := by decide +kernel
theorem dX9_revert_44 : decode cX9_revert 44 = .ok (.iconst 0, 1) := by decide +kernel
theorem dX9_revert_45 : decode cX9_revert 45 = .ok (.ireturn, 1) := by decide +kernel
theorem dX9_revert_46 : decode cX9_revert 46 = .ok (.aload_n 0, 1) := by decide +kernel
theorem dX9_revert_47 : decode cX9_revert 47 = .ok (.invokevirtual 145, 3) := by decide +kernel
theorem dX9_revert_50 : decode cX9_revert 50 = .ok (.aload_n 0, 1) := by decide +kernel
theorem dX9_revert_51 : decode cX9_revert 51 = .ok (.invokevirtual 173, 3) := by decide +kernel
theorem dX9_revert_54 : decode cX9_revert 54 = .ok (.iconst 0, 1) := by decide +kernel
theorem dX9_revert_55 : decode cX9_revert 55 = .ok (.istore_n 3, 1) := by decide +kernel
theorem dX9_revert_56 : decode cX9_revert 56 = .ok (.iload_n 3, 1) := by decide +kernel
theorem dX9_revert_57 : decode cX9_revert 57 = .ok (.bipush 20, 2) := by decide +kernel
theorem dX9_revert_59 : decode cX9_revert 59 = .ok (.if_icmp .ge 62, 3) := by decide +kernel
theorem dX9_revert_62 : decode cX9_revert 62 = .ok (.iconst 0, 1) := by decide +kernel
theorem dX9_revert_63 : decode cX9_revert 63 = .ok (.istore 4, 2) := by decide +kernel
theorem dX9_revert_65 : decode cX9_revert 65 = .ok (.iload 4, 2) := by decide +kernel
theorem dX9_revert_67 : decode cX9_revert 67 = .ok (.bipush 6, 2) := by decide +kernel
theorem dX9_revert_69 : decode cX9_revert 69 = .ok (.if_icmp .ge 46, 3) := by decide +kernel
theorem dX9_revert_72 : decode cX9_revert 72 = .ok (.aload_n 0, 1) := by decide +kernel
theorem dX9_revert_73 : decode cX9_revert 73 = .ok (.iload_n 3, 1) := by decide +kernel
theorem dX9_revert_74 : decode cX9_revert 74 = .ok (.invokevirtual 102, 3) := by decide +kernel
theorem dX9_revert_77 : decode cX9_revert 77 = .ok (.ifCond .eq 38, 3) := by decide +kernel
theorem dX9_revert_80 : decode cX9_revert 80 = .ok (.aload_n 0, 1) := by decide +kernel
theorem dX9_revert_81 : decode cX9_revert 81 = .ok (.iload_n 3, 1) := by decide +kernel
theorem dX9_revert_82 : decode cX9_revert 82 = .ok (.iload_n 1, 1) := by decide +kernel
theorem dX9_revert_83 : decode cX9_revert 83 = .ok (.invokevirtual 62, 3) := by decide +kernel
theorem dX9_revert_86 : decode cX9_revert 86 = .ok (.ifCond .eq 29, 3) := by decide +kernel
theorem dX9_revert_89 : decode cX9_revert 89 = .ok (.aload_n 0, 1) := by decide +kernel
theorem dX9_revert_90 : decode cX9_revert 90 = .ok (.getfield 25, 3) := by decide +kernel
theorem dX9_revert_93 : decode cX9_revert 93 = .ok (.bipush 6, 2) := by decide +kernel
theorem dX9_revert_95 : decode cX9_revert 95 = .ok (.iload_n 3, 1) := by decide +kernel
theorem dX9_revert_96 : decode cX9_revert 96 = .ok (.imul, 1) := by decide +kernel
theorem dX9_revert_97 : decode cX9_revert 97 = .ok (.iload 4, 2) := by decide +kernel
theorem dX9_revert_99 : decode cX9_revert 99 = .ok (.iadd, 1) := by decide +kernel
theorem dX9_revert_100 : decode cX9_revert 100 = .ok (.aload_n 0, 1) := by decide +kernel
theorem dX9_revert_101 : decode cX9_revert 101 = .ok (.iload_n 3, 1) := by decide +kernel
theorem dX9_revert_102 : decode cX9_revert 102 = .ok (.iload 4, 2) := by decide +kernel
theorem dX9_revert_104 : decode cX9_revert 104 = .ok (.iload_n 2, 1) := by decide +kernel
theorem dX9_revert_105 : decode cX9_revert 105 = .ok (.invokevirtual 239, 3) := by decide +kernel
theorem dX9_revert_108 : decode cX9_revert 108 = .ok (.iastore, 1) := by decide +kernel
theorem dX9_revert_109 : decode cX9_revert 109 = .ok (.iinc 4 1, 3) := by decide +kernel
theorem dX9_revert_112 : decode cX9_revert 112 = .ok (.goto (-47), 3) := by decide +kernel
theorem dX9_revert_115 : decode cX9_revert 115 = .ok (.iinc 3 1, 3) := by decide +kernel
theorem dX9_revert_118 : decode cX9_revert 118 = .ok (.goto (-62), 3) := by decide +kernel
theorem dX9_revert_121 : decode cX9_revert 121 = .ok (.aload_n 0, 1) := by decide +kernel
theorem dX9_revert_122 : decode cX9_revert 122 = .ok (.iconst (-1), 1) := by decide +kernel
theorem dX9_revert_123 : decode cX9_revert 123 = .ok (.invokevirtual 176, 3) := by decide +kernel
theorem dX9_revert_126 : decode cX9_revert 126 = .ok (.ireturn, 1) := by decide +kernel
theorem dX9_waiting_0 : decode cX9_waiting 0 = .ok (.aload_n 0, 1) := by decide +kernel
theorem dX9_waiting_1 : decode cX9_waiting 1 = .ok (.iconst 0, 1) := by decide +kernel
theorem dX9_waiting_2 : decode cX9_waiting 2 = .ok (.putfield 47, 3) := by decide +kernel
theorem dX9_waiting_5 : decode cX9_waiting 5 = .ok (.aload_n 0, 1) := by decide +kernel
theorem dX9_waiting_6 : decode cX9_waiting 6 = .ok (.invokevirtual 79, 3) := by decide +kernel
theorem dX9_waiting_9 : decode cX9_waiting 9 = .ok (.ireturn, 1) := by decide +kernel
theorem dX9_waitingAt_0 : decode cX9_waitingAt 0 = .ok (.aload_n 0, 1) := by decide +kernel
theorem dX9_waitingAt_1 : decode cX9_waitingAt 1 = .ok (.iload_n 1, 1) := by decide +kernel
theorem dX9_waitingAt_2 : decode cX9_waitingAt 2 = .ok (.iconst 0, 1) := by decide +kernel
theorem dX9_waitingAt_3 : decode cX9_waitingAt 3 = .ok (.aload_n 0, 1) := by decide +kernel
theorem dX9_waitingAt_4 : decode cX9_waitingAt 4 = .ok (.invokevirtual 79, 3) := by decide +kernel
theorem dX9_waitingAt_7 : decode cX9_waitingAt 7 = .ok (.iconst 1, 1) := by decide +kernel
theorem dX9_waitingAt_8 : decode cX9_waitingAt 8 = .ok (.isub, 1) := by decide +kernel
theorem dX9_waitingAt_9 : decode cX9_waitingAt 9 = .ok (.invokestatic 58, 3) := by decide +kernel
theorem dX9_waitingAt_12 : decode cX9_waitingAt 12 = .ok (.ifCond .ne 7, 3) := by decide +kernel
theorem dX9_waitingAt_15 : decode cX9_waitingAt 15 = .ok (.iconst 1, 1) := by decide +kernel
theorem dX9_waitingAt_16 : decode cX9_waitingAt 16 = .ok (.goto 17, 3) := by decide +kernel
theorem dX9_waitingAt_19 : decode cX9_waitingAt 19 = .ok (.iload_n 2, 1) := by decide +kernel
theorem dX9_waitingAt_20 : decode cX9_waitingAt 20 = .ok (.iconst 0, 1) := by decide +kernel
theorem dX9_waitingAt_21 : decode cX9_waitingAt 21 = .ok (.iconst 3, 1) := by decide +kernel
theorem dX9_waitingAt_22 : decode cX9_waitingAt 22 = .ok (.invokestatic 58, 3) := by decide +kernel
theorem dX9_waitingAt_25 : decode cX9_waitingAt 25 = .ok (.ifCond .eq 7, 3) := by decide +kernel
theorem dX9_waitingAt_28 : decode cX9_waitingAt 28 = .ok (.iconst 0, 1) := by decide +kernel
theorem dX9_waitingAt_29 : decode cX9_waitingAt 29 = .ok (.goto 4, 3) := by decide +kernel
theorem dX9_waitingAt_32 : decode cX9_waitingAt 32 = .ok (.iconst 2, 1) := by decide +kernel
theorem dX9_waitingAt_33 : decode cX9_waitingAt 33 = .ok (.invokevirtual 54, 3) := by decide +kernel
theorem dX9_waitingAt_36 : decode cX9_waitingAt 36 = .ok (.ifCond .eq 7, 3) := by decide +kernel
theorem dX9_waitingAt_39 : decode cX9_waitingAt 39 = .ok (.iconst 0, 1) := by decide +kernel
theorem dX9_waitingAt_40 : decode cX9_waitingAt 40 = .ok (.goto 13, 3) := by decide +kernel
theorem dX9_waitingAt_43 : decode cX9_waitingAt 43 = .ok (.aload_n 0, 1) := by decide +kernel
theorem dX9_waitingAt_44 : decode cX9_waitingAt 44 = .ok (.getfield 7, 3) := by decide +kernel
theorem dX9_waitingAt_47 : decode cX9_waitingAt 47 = .ok (.iload_n 1, 1) := by decide +kernel
theorem dX9_waitingAt_48 : decode cX9_waitingAt 48 = .ok (.iload_n 2, 1) := by decide +kernel
theorem dX9_waitingAt_49 : decode cX9_waitingAt 49 = .ok (.invokestatic 83, 3) := by decide +kernel
theorem dX9_waitingAt_52 : decode cX9_waitingAt 52 = .ok (.iaload, 1) := by decide +kernel
theorem dX9_waitingAt_53 : decode cX9_waitingAt 53 = .ok (.ireturn, 1) := by decide +kernel
theorem dX9_passes_0 : decode cX9_passes 0 = .ok (.iconst 0, 1) := by decide +kernel
theorem dX9_passes_1 : decode cX9_passes 1 = .ok (.istore_n 2, 1) := by decide +kernel
theorem dX9_passes_2 : decode cX9_passes 2 = .ok (.iload_n 2, 1) := by decide +kernel
theorem dX9_passes_3 : decode cX9_passes 3 = .ok (.iload_n 1, 1) := by decide +kernel
theorem dX9_passes_4 : decode cX9_passes 4 = .ok (.if_icmp .ge 13, 3) := by decide +kernel
theorem dX9_passes_7 : decode cX9_passes 7 = .ok (.aload_n 0, 1) := by decide +kernel
theorem dX9_passes_8 : decode cX9_passes 8 = .ok (.invokevirtual 233, 3) := by decide +kernel
theorem dX9_passes_11 : decode cX9_passes 11 = .ok (.iinc 2 1, 3) := by decide +kernel
theorem dX9_passes_14 : decode cX9_passes 14 = .ok (.goto (-12), 3) := by decide +kernel
theorem dX9_passes_17 : decode cX9_passes 17 = .ok (.aload_n 0, 1) := by decide +kernel
theorem dX9_passes_18 : decode cX9_passes 18 = .ok (.getfield 7, 3) := by decide +kernel
theorem dX9_passes_21 : decode cX9_passes 21 = .ok (.iconst 0, 1) := by decide +kernel
theorem dX9_passes_22 : decode cX9_passes 22 = .ok (.iaload, 1) := by decide +kernel
theorem dX9_passes_23 : decode cX9_passes 23 = .ok (.ireturn, 1) := by decide +kernel
theorem dX9_pass_0 : decode cX9_pass 0 = .ok (.aload_n 0, 1) := by decide +kernel
theorem dX9_pass_1 : decode cX9_pass 1 = .ok (.iload_n 1, 1) := by decide +kernel
theorem dX9_pass_2 : decode cX9_pass 2 = .ok (.iconst 0, 1) := by decide +kernel
theorem dX9_pass_3 : decode cX9_pass 3 = .ok (.sipush 1000, 3) := by decide +kernel
theorem dX9_pass_6 : decode cX9_pass 6 = .ok (.invokestatic 58, 3) := by decide +kernel
theorem dX9_pass_9 : decode cX9_pass 9 = .ok (.ifCond .eq 7, 3) := by decide +kernel
theorem dX9_pass_12 : decode cX9_pass 12 = .ok (.iconst 0, 1) := by decide +kernel
theorem dX9_pass_13 : decode cX9_pass 13 = .ok (.goto 4, 3) := by decide +kernel
theorem dX9_pass_16 : decode cX9_pass 16 = .ok (.iconst 1, 1) := by decide +kernel
theorem dX9_pass_17 : decode cX9_pass 17 = .ok (.invokevirtual 54, 3) := by decide +kernel
theorem dX9_pass_20 : decode cX9_pass 20 = .ok (.ifCond .eq 5, 3) := by decide +kernel
theorem dX9_pass_23 : decode cX9_pass 23 = .ok (.iconst 0, 1) := by decide +kernel
theorem dX9_pass_24 : decode cX9_pass 24 = .ok (.ireturn, 1) := by decide +kernel
theorem dX9_pass_25 : decode cX9_pass 25 = .ok (.aload_n 0, 1) := by decide +kernel
theorem dX9_pass_26 : decode cX9_pass 26 = .ok (.invokevirtual 145, 3) := by decide +kernel
theorem dX9_pass_29 : decode cX9_pass 29 = .ok (.aload_n 0, 1) := by decide +kernel
theorem dX9_pass_30 : decode cX9_pass 30 = .ok (.iload_n 1, 1) := by decide +kernel
theorem dX9_pass_31 : decode cX9_pass 31 = .ok (.invokevirtual 242, 3) := by decide +kernel
theorem dX9_pass_34 : decode cX9_pass 34 = .ok (.ireturn, 1) := by decide +kernel
theorem dX9_useBits_0 : decode cX9_useBits 0 = .ok (.aload_n 0, 1) := by decide +kernel
theorem dX9_useBits_1 : decode cX9_useBits 1 = .ok (.iload_n 1, 1) := by decide +kernel
theorem dX9_useBits_2 : decode cX9_useBits 2 = .ok (.invokestatic 179, 3) := by decide +kernel
theorem dX9_useBits_5 : decode cX9_useBits 5 = .ok (.ifCond .eq 7, 3) := by decide +kernel
theorem dX9_useBits_8 : decode cX9_useBits 8 = .ok (.iconst 0, 1) := by decide +kernel
theorem dX9_useBits_9 : decode cX9_useBits 9 = .ok (.goto 4, 3) := by decide +kernel
theorem dX9_useBits_12 : decode cX9_useBits 12 = .ok (.iconst 1, 1) := by decide +kernel
theorem dX9_useBits_13 : decode cX9_useBits 13 = .ok (.invokevirtual 54, 3) := by decide +kernel
theorem dX9_useBits_16 : decode cX9_useBits 16 = .ok (.ifCond .ne 12, 3) := by decide +kernel
theorem dX9_useBits_19 : decode cX9_useBits 19 = .ok (.aload_n 0, 1) := by decide +kernel
theorem dX9_useBits_20 : decode cX9_useBits 20 = .ok (.getfield 7, 3) := by decide +kernel
theorem dX9_useBits_23 : decode cX9_useBits 23 = .ok (.iconst 0, 1) := by decide +kernel
theorem dX9_useBits_24 : decode cX9_useBits 24 = .ok (.iaload, 1) := by decide +kernel
theorem dX9_useBits_25 : decode cX9_useBits 25 = .ok (.ifCond .ne 5, 3) := by decide +kernel
theorem dX9_useBits_28 : decode cX9_useBits 28 = .ok (.iconst 0, 1) := by decide +kernel
theorem dX9_useBits_29 : decode cX9_useBits 29 = .ok (.ireturn, 1) := by decide +kernel
theorem dX9_useBits_30 : decode cX9_useBits 30 = .ok (.aload_n 0, 1) := by decide +kernel
theorem dX9_useBits_31 : decode cX9_useBits 31 = .ok (.getfield 7, 3) := by decide +kernel
theorem dX9_useBits_34 : decode cX9_useBits 34 = .ok (.sipush 2695, 3) := by decide +kernel
theorem dX9_useBits_37 : decode cX9_useBits 37 = .ok (.iload_n 1, 1) := by decide +kernel
theorem dX9_useBits_38 : decode cX9_useBits 38 = .ok (.iadd, 1) := by decide +kernel
theorem dX9_useBits_39 : decode cX9_useBits 39 = .ok (.iaload, 1) := by decide +kernel
theorem dX9_useBits_40 : decode cX9_useBits 40 = .ok (.i2f, 1) := by decide +kernel
theorem dX9_useBits_41 : decode cX9_useBits 41 = .ok (.aload_n 0, 1) := by decide +kernel
theorem dX9_useBits_42 : decode cX9_useBits 42 = .ok (.getfield 7, 3) := by decide +kernel
theorem dX9_useBits_45 : decode cX9_useBits 45 = .ok (.iconst 0, 1) := by decide +kernel
theorem dX9_useBits_46 : decode cX9_useBits 46 = .ok (.iaload, 1) := by decide +kernel
theorem dX9_useBits_47 : decode cX9_useBits 47 = .ok (.i2f, 1) := by decide +kernel
theorem dX9_useBits_48 : decode cX9_useBits 48 = .ok (.fdiv, 1) := by decide +kernel
theorem dX9_useBits_49 : decode cX9_useBits 49 = .ok (.invokestatic 245, 3) := by decide +kernel
theorem dX9_useBits_52 : decode cX9_useBits 52 = .ok (.ireturn, 1) := by decide +kernel
theorem dX9_append_0 : decode cX9_append 0 = .ok (.aload_n 0, 1) := by decide +kernel
theorem dX9_append_1 : decode cX9_append 1 = .ok (.iload_n 1, 1) := by decide +kernel
theorem dX9_append_2 : decode cX9_append 2 = .ok (.iconst 0, 1) := by decide +kernel
theorem dX9_append_3 : decode cX9_append 3 = .ok (.bipush 127, 2) := by decide +kernel
theorem dX9_append_5 : decode cX9_append 5 = .ok (.invokestatic 58, 3) := by decide +kernel
theorem dX9_append_8 : decode cX9_append 8 = .ok (.ifCond .ne 7, 3) := by decide +kernel
theorem dX9_append_11 : decode cX9_append 11 = .ok (.iconst 1, 1) := by decide +kernel
theorem dX9_append_12 : decode cX9_append 12 = .ok (.goto 17, 3) := by decide +kernel
theorem dX9_append_15 : decode cX9_append 15 = .ok (.aload_n 0, 1) := by decide +kernel
theorem dX9_append_16 : decode cX9_append 16 = .ok (.getfield 251, 3) := by decide +kernel
theorem dX9_append_19 : decode cX9_append 19 = .ok (.bipush 120, 2) := by decide +kernel
theorem dX9_append_21 : decode cX9_append 21 = .ok (.if_icmp .ne 7, 3) := by decide +kernel
theorem dX9_append_24 : decode cX9_append 24 = .ok (.iconst 2, 1) := by decide +kernel
theorem dX9_append_25 : decode cX9_append 25 = .ok (.goto 4, 3) := by decide +kernel
theorem dX9_append_28 : decode cX9_append 28 = .ok (.iconst 0, 1) := by decide +kernel
theorem dX9_append_29 : decode cX9_append 29 = .ok (.invokevirtual 54, 3) := by decide +kernel
theorem dX9_append_32 : decode cX9_append 32 = .ok (.ifCond .eq 5, 3) := by decide +kernel
theorem dX9_append_35 : decode cX9_append 35 = .ok (.iconst 0, 1) := by decide +kernel
theorem dX9_append_36 : decode cX9_append 36 = .ok (.ireturn, 1) := by decide +kernel
theorem dX9_append_37 : decode cX9_append 37 = .ok (.aload_n 0, 1) := by decide +kernel
theorem dX9_append_38 : decode cX9_append 38 = .ok (.getfield 19, 3) := by decide +kernel
theorem dX9_append_41 : decode cX9_append 41 = .ok (.aload_n 0, 1) := by decide +kernel
theorem dX9_append_42 : decode cX9_append 42 = .ok (.getfield 251, 3) := by decide +kernel
theorem dX9_append_45 : decode cX9_append 45 = .ok (.iload_n 1, 1) := by decide +kernel
theorem dX9_append_46 : decode cX9_append 46 = .ok (.iastore, 1) := by decide +kernel
theorem dX9_append_47 : decode cX9_append 47 = .ok (.aload_n 0, 1) := by decide +kernel
theorem dX9_append_48 : decode cX9_append 48 = .ok (.dup, 1) := by decide +kernel
theorem dX9_append_49 : decode cX9_append 49 = .ok (.getfield 251, 3) := by decide +kernel
theorem dX9_append_52 : decode cX9_append 52 = .ok (.iconst 1, 1) := by decide +kernel
theorem dX9_append_53 : decode cX9_append 53 = .ok (.iadd, 1) := by decide +kernel
theorem dX9_append_54 : decode cX9_append 54 = .ok (.putfield 251, 3) := by decide +kernel
theorem dX9_append_57 : decode cX9_append 57 = .ok (.aload_n 0, 1) := by decide +kernel
theorem dX9_append_58 : decode cX9_append 58 = .ok (.getfield 251, 3) := by decide +kernel
theorem dX9_append_61 : decode cX9_append 61 = .ok (.ireturn, 1) := by decide +kernel
theorem dX9_clearText_0 : decode cX9_clearText 0 = .ok (.aload_n 0, 1) := by decide +kernel
theorem dX9_clearText_1 : decode cX9_clearText 1 = .ok (.iconst 0, 1) := by decide +kernel
theorem dX9_clearText_2 : decode cX9_clearText 2 = .ok (.putfield 47, 3) := by decide +kernel
theorem dX9_clearText_5 : decode cX9_clearText 5 = .ok (.aload_n 0, 1) := by decide +kernel
theorem dX9_clearText_6 : decode cX9_clearText 6 = .ok (.getfield 251, 3) := by decide +kernel
theorem dX9_clearText_9 : decode cX9_clearText 9 = .ok (.istore_n 1, 1) := by decide +kernel
theorem dX9_clearText_10 : decode cX9_clearText 10 = .ok (.aload_n 0, 1) := by decide +kernel
theorem dX9_clearText_11 : decode cX9_clearText 11 = .ok (.iconst 0, 1) := by decide +kernel
theorem dX9_clearText_12 : decode cX9_clearText 12 = .ok (.putfield 251, 3) := by decide +kernel
theorem dX9_clearText_15 : decode cX9_clearText 15 = .ok (.iload_n 1, 1) := by decide +kernel
theorem dX9_clearText_16 : decode cX9_clearText 16 = .ok (.ireturn, 1) := by decide +kernel
theorem dX9_isAt_0 : decode cX9_isAt 0 = .ok (.aload_n 0, 1) := by decide +kernel
theorem dX9_isAt_1 : decode cX9_isAt 1 = .ok (.getfield 254, 3) := by decide +kernel
theorem dX9_isAt_4 : decode cX9_isAt 4 = .ok (.aload_n 0, 1) := by decide +kernel
theorem dX9_isAt_5 : decode cX9_isAt 5 = .ok (.getfield 251, 3) := by decide +kernel
theorem dX9_isAt_8 : decode cX9_isAt 8 = .ok (.if_icmp .ge 24, 3) := by decide +kernel
theorem dX9_isAt_11 : decode cX9_isAt 11 = .ok (.aload_n 0, 1) := by decide +kernel
theorem dX9_isAt_12 : decode cX9_isAt 12 = .ok (.getfield 19, 3) := by decide +kernel
theorem dX9_isAt_15 : decode cX9_isAt 15 = .ok (.aload_n 0, 1) := by decide +kernel
theorem dX9_isAt_16 : decode cX9_isAt 16 = .ok (.getfield 254, 3) := by decide +kernel
theorem dX9_isAt_19 : decode cX9_isAt 19 = .ok (.iaload, 1) := by decide +kernel
theorem dX9_isAt_20 : decode cX9_isAt 20 = .ok (.iload_n 1, 1) := by decide +kernel
theorem dX9_isAt_21 : decode cX9_isAt 21 = .ok (.iload_n 2, 1) := by decide +kernel
theorem dX9_isAt_22 : decode cX9_isAt 22 = .ok (.invokestatic 58, 3) := by decide +kernel
theorem dX9_isAt_25 : decode cX9_isAt 25 = .ok (.ifCond .eq 7, 3) := by decide +kernel
theorem dX9_isAt_28 : decode cX9_isAt 28 = .ok (.iconst 1, 1) := by decide +kernel
theorem dX9_isAt_29 : decode cX9_isAt 29 = .ok (.goto 4, 3) := by decide +kernel
theorem dX9_isAt_32 : decode cX9_isAt 32 = .ok (.iconst 0, 1) := by decide +kernel
theorem dX9_isAt_33 : decode cX9_isAt 33 = .ok (.ireturn, 1) := by decide +kernel
theorem dX9_manyOf_0 : decode cX9_manyOf 0 = .ok (.iload_n 0, 1) := by decide +kernel
theorem dX9_manyOf_1 : decode cX9_manyOf 1 = .ok (.tableswitch 85 98 113 #[83, 85, 83, 79, 85, 81, 85, 85, 85, 85, 85, 85, 85, 85, 83, 79], 79) := by decide +kernel
theorem dX9_manyOf_80 : decode cX9_manyOf 80 = .ok (.iconst 4, 1) := by decide +kernel
theorem dX9_manyOf_81 : decode cX9_manyOf 81 = .ok (.ireturn, 1) := by decide +kernel
theorem dX9_manyOf_82 : decode cX9_manyOf 82 = .ok (.iconst 2, 1) := by decide +kernel
theorem dX9_manyOf_83 : decode cX9_manyOf 83 = .ok (.ireturn, 1) := by decide +kernel
theorem dX9_manyOf_84 : decode cX9_manyOf 84 = .ok (.iconst 1, 1) := by decide +kernel
theorem dX9_manyOf_85 : decode cX9_manyOf 85 = .ok (.ireturn, 1) := by decide +kernel
theorem dX9_manyOf_86 : decode cX9_manyOf 86 = .ok (.iconst 0, 1) := by decide +kernel
theorem dX9_manyOf_87 : decode cX9_manyOf 87 = .ok (.ireturn, 1) := by decide +kernel
theorem dX9_readsNumber_0 : decode cX9_readsNumber 0 = .ok (.aload_n 0, 1) := by decide +kernel
theorem dX9_readsNumber_1 : decode cX9_readsNumber 1 = .ok (.bipush 32, 2) := by decide +kernel
theorem dX9_readsNumber_3 : decode cX9_readsNumber 3 = .ok (.bipush 32, 2) := by decide +kernel
theorem dX9_readsNumber_5 : decode cX9_readsNumber 5 = .ok (.invokevirtual 257, 3) := by decide +kernel
theorem dX9_readsNumber_8 : decode cX9_readsNumber 8 = .ok (.ifCond .ne 5, 3) := by decide +kernel
theorem dX9_readsNumber_11 : decode cX9_readsNumber 11 = .ok (.iconst 0, 1) := by decide +kernel
theorem dX9_readsNumber_12 : decode cX9_readsNumber 12 = .ok (.ireturn, 1) := by decide +kernel
theorem dX9_readsNumber_13 : decode cX9_readsNumber 13 = .ok (.aload_n 0, 1) := by decide +kernel
theorem dX9_readsNumber_14 : decode cX9_readsNumber 14 = .ok (.dup, 1) := by decide +kernel
theorem dX9_readsNumber_15 : decode cX9_readsNumber 15 = .ok (.getfield 254, 3) := by decide +kernel
theorem dX9_readsNumber_18 : decode cX9_readsNumber 18 = .ok (.iconst 1, 1) := by decide +kernel
theorem dX9_readsNumber_19 : decode cX9_readsNumber 19 = .ok (.iadd, 1) := by decide +kernel
theorem dX9_readsNumber_20 : decode cX9_readsNumber 20 = .ok (.putfield 254, 3) := by decide +kernel
theorem dX9_readsNumber_23 : decode cX9_readsNumber 23 = .ok (.iconst 0, 1) := by decide +kernel
theorem dX9_readsNumber_24 : decode cX9_readsNumber 24 = .ok (.istore_n 2, 1) := by decide +kernel
theorem dX9_readsNumber_25 : decode cX9_readsNumber 25 = .ok (.iconst 0, 1) := by decide +kernel
theorem dX9_readsNumber_26 : decode cX9_readsNumber 26 = .ok (.istore_n 3, 1) := by decide +kernel
theorem dX9_readsNumber_27 : decode cX9_readsNumber 27 = .ok (.iload_n 3, 1) := by decide +kernel
theorem dX9_readsNumber_28 : decode cX9_readsNumber 28 = .ok (.iconst 4, 1) := by decide +kernel
theorem dX9_readsNumber_29 : decode cX9_readsNumber 29 = .ok (.if_icmp .ge 48, 3) := by decide +kernel
theorem dX9_readsNumber_32 : decode cX9_readsNumber 32 = .ok (.aload_n 0, 1) := by decide +kernel
theorem dX9_readsNumber_33 : decode cX9_readsNumber 33 = .ok (.bipush 48, 2) := by decide +kernel
theorem dX9_readsNumber_35 : decode cX9_readsNumber 35 = .ok (.bipush 57, 2) := by decide +kernel
theorem dX9_readsNumber_37 : decode cX9_readsNumber 37 = .ok (.invokevirtual 257, 3) := by decide +kernel
theorem dX9_readsNumber_40 : decode cX9_readsNumber 40 = .ok (.ifCond .eq 37, 3) := by decide +kernel
theorem dX9_readsNumber_43 : decode cX9_readsNumber 43 = .ok (.bipush 10, 2) := by decide +kernel
theorem dX9_readsNumber_45 : decode cX9_readsNumber 45 = .ok (.iload_n 2, 1) := by decide +kernel
theorem dX9_readsNumber_46 : decode cX9_readsNumber 46 = .ok (.imul, 1) := by decide +kernel
theorem dX9_readsNumber_47 : decode cX9_readsNumber 47 = .ok (.aload_n 0, 1) := by decide +kernel
theorem dX9_readsNumber_48 : decode cX9_readsNumber 48 = .ok (.getfield 19, 3) := by decide +kernel
theorem dX9_readsNumber_51 : decode cX9_readsNumber 51 = .ok (.aload_n 0, 1) := by decide +kernel
theorem dX9_readsNumber_52 : decode cX9_readsNumber 52 = .ok (.getfield 254, 3) := by decide +kernel
theorem dX9_readsNumber_55 : decode cX9_readsNumber 55 = .ok (.iaload, 1) := by decide +kernel
theorem dX9_readsNumber_56 : decode cX9_readsNumber 56 = .ok (.iadd, 1) := by decide +kernel
theorem dX9_readsNumber_57 : decode cX9_readsNumber 57 = .ok (.bipush 48, 2) := by decide +kernel
theorem dX9_readsNumber_59 : decode cX9_readsNumber 59 = .ok (.isub, 1) := by decide +kernel
theorem dX9_readsNumber_60 : decode cX9_readsNumber 60 = .ok (.istore_n 2, 1) := by decide +kernel
theorem dX9_readsNumber_61 : decode cX9_readsNumber 61 = .ok (.aload_n 0, 1) := by decide +kernel
theorem dX9_readsNumber_62 : decode cX9_readsNumber 62 = .ok (.dup, 1) := by decide +kernel
theorem dX9_readsNumber_63 : decode cX9_readsNumber 63 = .ok (.getfield 254, 3) := by decide +kernel
theorem dX9_readsNumber_66 : decode cX9_readsNumber 66 = .ok (.iconst 1, 1) := by decide +kernel
theorem dX9_readsNumber_67 : decode cX9_readsNumber 67 = .ok (.iadd, 1) := by decide +kernel
theorem dX9_readsNumber_68 : decode cX9_readsNumber 68 = .ok (.putfield 254, 3) := by decide +kernel
theorem dX9_readsNumber_71 : decode cX9_readsNumber 71 = .ok (.iinc 3 1, 3) := by decide +kernel
theorem dX9_readsNumber_74 : decode cX9_readsNumber 74 = .ok (.goto (-47), 3) := by decide +kernel
theorem dX9_readsNumber_77 : decode cX9_readsNumber 77 = .ok (.aload_n 0, 1) := by decide +kernel
theorem dX9_readsNumber_78 : decode cX9_readsNumber 78 = .ok (.getfield 35, 3) := by decide +kernel
theorem dX9_readsNumber_81 : decode cX9_readsNumber 81 = .ok (.iload_n 1, 1) := by decide +kernel
theorem dX9_readsNumber_82 : decode cX9_readsNumber 82 = .ok (.iload_n 2, 1) := by decide +kernel
theorem dX9_readsNumber_83 : decode cX9_readsNumber 83 = .ok (.iastore, 1) := by decide +kernel
theorem dX9_readsNumber_84 : decode cX9_readsNumber 84 = .ok (.iload_n 3, 1) := by decide +kernel
theorem dX9_readsNumber_85 : decode cX9_readsNumber 85 = .ok (.ifCond .le 7, 3) := by decide +kernel
theorem dX9_readsNumber_88 : decode cX9_readsNumber 88 = .ok (.iconst 1, 1) := by decide +kernel
theorem dX9_readsNumber_89 : decode cX9_readsNumber 89 = .ok (.goto 4, 3) := by decide +kernel
theorem dX9_readsNumber_92 : decode cX9_readsNumber 92 = .ok (.iconst 0, 1) := by decide +kernel
theorem dX9_readsNumber_93 : decode cX9_readsNumber 93 = .ok (.ireturn, 1) := by decide +kernel
theorem dX9_readsOrder_0 : decode cX9_readsOrder 0 = .ok (.aload_n 0, 1) := by decide +kernel
theorem dX9_readsOrder_1 : decode cX9_readsOrder 1 = .ok (.getfield 19, 3) := by decide +kernel
theorem dX9_readsOrder_4 : decode cX9_readsOrder 4 = .ok (.aload_n 0, 1) := by decide +kernel
theorem dX9_readsOrder_5 : decode cX9_readsOrder 5 = .ok (.getfield 254, 3) := by decide +kernel
theorem dX9_readsOrder_8 : decode cX9_readsOrder 8 = .ok (.iaload, 1) := by decide +kernel
theorem dX9_readsOrder_9 : decode cX9_readsOrder 9 = .ok (.istore_n 1, 1) := by decide +kernel
theorem dX9_readsOrder_10 : decode cX9_readsOrder 10 = .ok (.iload_n 1, 1) := by decide +kernel
theorem dX9_readsOrder_11 : decode cX9_readsOrder 11 = .ok (.invokestatic 260, 3) := by decide +kernel
theorem dX9_readsOrder_14 : decode cX9_readsOrder 14 = .ok (.istore_n 2, 1) := by decide +kernel
theorem dX9_readsOrder_15 : decode cX9_readsOrder 15 = .ok (.iload_n 2, 1) := by decide +kernel
theorem dX9_readsOrder_16 : decode cX9_readsOrder 16 = .ok (.ifCond .le 7, 3) := by decide +kernel
theorem dX9_readsOrder_19 : decode cX9_readsOrder 19 = .ok (.iconst 1, 1) := by decide +kernel
theorem dX9_readsOrder_20 : decode cX9_readsOrder 20 = .ok (.goto 4, 3) := by decide +kernel
theorem dX9_readsOrder_23 : decode cX9_readsOrder 23 = .ok (.iconst 0, 1) := by decide +kernel
theorem dX9_readsOrder_24 : decode cX9_readsOrder 24 = .ok (.istore_n 3, 1) := by decide +kernel
theorem dX9_readsOrder_25 : decode cX9_readsOrder 25 = .ok (.aload_n 0, 1) := by decide +kernel
theorem dX9_readsOrder_26 : decode cX9_readsOrder 26 = .ok (.dup, 1) := by decide +kernel
theorem dX9_readsOrder_27 : decode cX9_readsOrder 27 = .ok (.getfield 254, 3) := by decide +kernel
theorem dX9_readsOrder_30 : decode cX9_readsOrder 30 = .ok (.iload_n 3, 1) := by decide +kernel
theorem dX9_readsOrder_31 : decode cX9_readsOrder 31 = .ok (.ifCond .eq 7, 3) := by decide +kernel
theorem dX9_readsOrder_34 : decode cX9_readsOrder 34 = .ok (.iconst 1, 1) := by decide +kernel
theorem dX9_readsOrder_35 : decode cX9_readsOrder 35 = .ok (.goto 4, 3) := by decide +kernel
theorem dX9_readsOrder_38 : decode cX9_readsOrder 38 = .ok (.iconst 0, 1) := by decide +kernel
theorem dX9_readsOrder_39 : decode cX9_readsOrder 39 = .ok (.iadd, 1) := by decide +kernel
theorem dX9_readsOrder_40 : decode cX9_readsOrder 40 = .ok (.putfield 254, 3) := by decide +kernel
theorem dX9_readsOrder_43 : decode cX9_readsOrder 43 = .ok (.iconst 0, 1) := by decide +kernel
theorem dX9_readsOrder_44 : decode cX9_readsOrder 44 = .ok (.istore 4, 2) := by decide +kernel
theorem dX9_readsOrder_46 : decode cX9_readsOrder 46 = .ok (.iload 4, 2) := by decide +kernel
theorem dX9_readsOrder_48 : decode cX9_readsOrder 48 = .ok (.iload_n 2, 1) := by decide +kernel
theorem dX9_readsOrder_49 : decode cX9_readsOrder 49 = .ok (.if_icmp .ge 27, 3) := by decide +kernel
theorem dX9_readsOrder_52 : decode cX9_readsOrder 52 = .ok (.iload_n 3, 1) := by decide +kernel
theorem dX9_readsOrder_53 : decode cX9_readsOrder 53 = .ok (.ifCond .eq 23, 3) := by decide +kernel
theorem dX9_readsOrder_56 : decode cX9_readsOrder 56 = .ok (.aload_n 0, 1) := by decide +kernel
theorem dX9_readsOrder_57 : decode cX9_readsOrder 57 = .ok (.iconst 4, 1) := by decide +kernel
theorem dX9_readsOrder_58 : decode cX9_readsOrder 58 = .ok (.aload_n 0, 1) := by decide +kernel
theorem dX9_readsOrder_59 : decode cX9_readsOrder 59 = .ok (.getfield 263, 3) := by decide +kernel
theorem dX9_readsOrder_62 : decode cX9_readsOrder 62 = .ok (.imul, 1) := by decide +kernel
theorem dX9_readsOrder_63 : decode cX9_readsOrder 63 = .ok (.iload 4, 2) := by decide +kernel
theorem dX9_readsOrder_65 : decode cX9_readsOrder 65 = .ok (.iadd, 1) := by decide +kernel
theorem dX9_readsOrder_66 : decode cX9_readsOrder 66 = .ok (.invokevirtual 266, 3) := by decide +kernel
theorem dX9_readsOrder_69 : decode cX9_readsOrder 69 = .ok (.istore_n 3, 1) := by decide +kernel
theorem dX9_readsOrder_70 : decode cX9_readsOrder 70 = .ok (.iinc 4 1, 3) := by decide +kernel
theorem dX9_readsOrder_73 : decode cX9_readsOrder 73 = .ok (.goto (-27), 3) := by decide +kernel
theorem dX9_readsOrder_76 : decode cX9_readsOrder 76 = .ok (.iload_n 3, 1) := by decide +kernel
theorem dX9_readsOrder_77 : decode cX9_readsOrder 77 = .ok (.ifCond .eq 18, 3) := by decide +kernel
theorem dX9_readsOrder_80 : decode cX9_readsOrder 80 = .ok (.aload_n 0, 1) := by decide +kernel
theorem dX9_readsOrder_81 : decode cX9_readsOrder 81 = .ok (.bipush 59, 2) := by decide +kernel
theorem dX9_readsOrder_83 : decode cX9_readsOrder 83 = .ok (.bipush 59, 2) := by decide +kernel
theorem dX9_readsOrder_85 : decode cX9_readsOrder 85 = .ok (.invokevirtual 257, 3) := by decide +kernel
theorem dX9_readsOrder_88 : decode cX9_readsOrder 88 = .ok (.ifCond .eq 7, 3) := by decide +kernel
theorem dX9_readsOrder_91 : decode cX9_readsOrder 91 = .ok (.iconst 1, 1) := by decide +kernel
theorem dX9_readsOrder_92 : decode cX9_readsOrder 92 = .ok (.goto 4, 3) := by decide +kernel
theorem dX9_readsOrder_95 : decode cX9_readsOrder 95 = .ok (.iconst 0, 1) := by decide +kernel
theorem dX9_readsOrder_96 : decode cX9_readsOrder 96 = .ok (.istore_n 3, 1) := by decide +kernel
theorem dX9_readsOrder_97 : decode cX9_readsOrder 97 = .ok (.iload_n 3, 1) := by decide +kernel
theorem dX9_readsOrder_98 : decode cX9_readsOrder 98 = .ok (.ifCond .eq 33, 3) := by decide +kernel
theorem dX9_readsOrder_101 : decode cX9_readsOrder 101 = .ok (.aload_n 0, 1) := by decide +kernel
theorem dX9_readsOrder_102 : decode cX9_readsOrder 102 = .ok (.getfield 32, 3) := by decide +kernel
theorem dX9_readsOrder_105 : decode cX9_readsOrder 105 = .ok (.aload_n 0, 1) := by decide +kernel
theorem dX9_readsOrder_106 : decode cX9_readsOrder 106 = .ok (.getfield 263, 3) := by decide +kernel
theorem dX9_readsOrder_109 : decode cX9_readsOrder 109 = .ok (.iload_n 1, 1) := by decide +kernel
theorem dX9_readsOrder_110 : decode cX9_readsOrder 110 = .ok (.iastore, 1) := by decide +kernel
theorem dX9_readsOrder_111 : decode cX9_readsOrder 111 = .ok (.aload_n 0, 1) := by decide +kernel
theorem dX9_readsOrder_112 : decode cX9_readsOrder 112 = .ok (.dup, 1) := by decide +kernel
theorem dX9_readsOrder_113 : decode cX9_readsOrder 113 = .ok (.getfield 263, 3) := by decide +kernel
theorem dX9_readsOrder_116 : decode cX9_readsOrder 116 = .ok (.iconst 1, 1) := by decide +kernel
theorem dX9_readsOrder_117 : decode cX9_readsOrder 117 = .ok (.iadd, 1) := by decide +kernel
theorem dX9_readsOrder_118 : decode cX9_readsOrder 118 = .ok (.putfield 263, 3) := by decide +kernel
theorem dX9_readsOrder_121 : decode cX9_readsOrder 121 = .ok (.aload_n 0, 1) := by decide +kernel
theorem dX9_readsOrder_122 : decode cX9_readsOrder 122 = .ok (.dup, 1) := by decide +kernel
theorem dX9_readsOrder_123 : decode cX9_readsOrder 123 = .ok (.getfield 254, 3) := by decide +kernel
