theorem dL_areApart_179 : decode cL_areApart 179 = .ok (.iconst 0, 1) := by decide +kernel
theorem dL_areApart_180 : decode cL_areApart 180 = .ok (.istore_n 1, 1) := by decide +kernel
theorem dL_areApart_181 : decode cL_areApart 181 = .ok (.iinc 2 1, 3) := by decide +kernel
theorem dL_areApart_184 : decode cL_areApart 184 = .ok (.goto (-180), 3) := by decide +kernel
theorem dL_areApart_187 : decode cL_areApart 187 = .ok (.iload_n 1, 1) := by decide +kernel
theorem dL_areApart_188 : decode cL_areApart 188 = .ok (.ireturn, 1) := by decide +kernel
theorem dL_isTree_0 : decode cL_isTree 0 = .ok (.iconst 0, 1) := by decide +kernel
theorem dL_isTree_1 : decode cL_isTree 1 = .ok (.istore_n 1, 1) := by decide +kernel
theorem dL_isTree_2 : decode cL_isTree 2 = .ok (.iconst 0, 1) := by decide +kernel
theorem dL_isTree_3 : decode cL_isTree 3 = .ok (.istore_n 2, 1) := by decide +kernel
theorem dL_isTree_4 : decode cL_isTree 4 = .ok (.aload_n 0, 1) := by decide +kernel
theorem dL_isTree_5 : decode cL_isTree 5 = .ok (.iconst 0, 1) := by decide +kernel
theorem dL_isTree_6 : decode cL_isTree 6 = .ok (.iconst 0, 1) := by decide +kernel
theorem dL_isTree_7 : decode cL_isTree 7 = .ok (.invokestatic 135, 3) := by decide +kernel
theorem dL_isTree_10 : decode cL_isTree 10 = .ok (.iconst (-1), 1) := by decide +kernel
theorem dL_isTree_11 : decode cL_isTree 11 = .ok (.if_icmp .ne 16, 3) := by decide +kernel
theorem dL_isTree_14 : decode cL_isTree 14 = .ok (.aload_n 0, 1) := by decide +kernel
theorem dL_isTree_15 : decode cL_isTree 15 = .ok (.iconst 0, 1) := by decide +kernel
theorem dL_isTree_16 : decode cL_isTree 16 = .ok (.iconst 2, 1) := by decide +kernel
theorem dL_isTree_17 : decode cL_isTree 17 = .ok (.invokestatic 135, 3) := by decide +kernel
theorem dL_isTree_20 : decode cL_isTree 20 = .ok (.ifCond .ne 7, 3) := by decide +kernel
theorem dL_isTree_23 : decode cL_isTree 23 = .ok (.iconst 1, 1) := by decide +kernel
theorem dL_isTree_24 : decode cL_isTree 24 = .ok (.goto 4, 3) := by decide +kernel
theorem dL_isTree_27 : decode cL_isTree 27 = .ok (.iconst 0, 1) := by decide +kernel
theorem dL_isTree_28 : decode cL_isTree 28 = .ok (.istore_n 3, 1) := by decide +kernel
theorem dL_isTree_29 : decode cL_isTree 29 = .ok (.iconst 0, 1) := by decide +kernel
theorem dL_isTree_30 : decode cL_isTree 30 = .ok (.istore 4, 2) := by decide +kernel
theorem dL_isTree_32 : decode cL_isTree 32 = .ok (.iload 4, 2) := by decide +kernel
theorem dL_isTree_34 : decode cL_isTree 34 = .ok (.bipush 20, 2) := by decide +kernel
theorem dL_isTree_36 : decode cL_isTree 36 = .ok (.if_icmp .ge 167, 3) := by decide +kernel
theorem dL_isTree_39 : decode cL_isTree 39 = .ok (.iload_n 3, 1) := by decide +kernel
theorem dL_isTree_40 : decode cL_isTree 40 = .ok (.ifCond .eq 163, 3) := by decide +kernel
theorem dL_isTree_43 : decode cL_isTree 43 = .ok (.aload_n 0, 1) := by decide +kernel
theorem dL_isTree_44 : decode cL_isTree 44 = .ok (.iload 4, 2) := by decide +kernel
theorem dL_isTree_46 : decode cL_isTree 46 = .ok (.iconst 0, 1) := by decide +kernel
theorem dL_isTree_47 : decode cL_isTree 47 = .ok (.invokestatic 135, 3) := by decide +kernel
theorem dL_isTree_50 : decode cL_isTree 50 = .ok (.bipush (-2), 2) := by decide +kernel
theorem dL_isTree_52 : decode cL_isTree 52 = .ok (.if_icmp .le 145, 3) := by decide +kernel
theorem dL_isTree_55 : decode cL_isTree 55 = .ok (.iinc 1 1, 3) := by decide +kernel
theorem dL_isTree_58 : decode cL_isTree 58 = .ok (.iconst 0, 1) := by decide +kernel
theorem dL_isTree_59 : decode cL_isTree 59 = .ok (.istore 5, 2) := by decide +kernel
theorem dL_isTree_61 : decode cL_isTree 61 = .ok (.iconst 0, 1) := by decide +kernel
theorem dL_isTree_62 : decode cL_isTree 62 = .ok (.istore 6, 2) := by decide +kernel
theorem dL_isTree_64 : decode cL_isTree 64 = .ok (.iload 6, 2) := by decide +kernel
theorem dL_isTree_66 : decode cL_isTree 66 = .ok (.aload_n 0, 1) := by decide +kernel
theorem dL_isTree_67 : decode cL_isTree 67 = .ok (.iload 4, 2) := by decide +kernel
theorem dL_isTree_69 : decode cL_isTree 69 = .ok (.iconst 1, 1) := by decide +kernel
theorem dL_isTree_70 : decode cL_isTree 70 = .ok (.invokestatic 135, 3) := by decide +kernel
theorem dL_isTree_73 : decode cL_isTree 73 = .ok (.if_icmp .ge 74, 3) := by decide +kernel
theorem dL_isTree_76 : decode cL_isTree 76 = .ok (.iload_n 3, 1) := by decide +kernel
theorem dL_isTree_77 : decode cL_isTree 77 = .ok (.ifCond .eq 70, 3) := by decide +kernel
theorem dL_isTree_80 : decode cL_isTree 80 = .ok (.aload_n 0, 1) := by decide +kernel
theorem dL_isTree_81 : decode cL_isTree 81 = .ok (.iload 4, 2) := by decide +kernel
theorem dL_isTree_83 : decode cL_isTree 83 = .ok (.iload 6, 2) := by decide +kernel
theorem dL_isTree_85 : decode cL_isTree 85 = .ok (.invokestatic 161, 3) := by decide +kernel
theorem dL_isTree_88 : decode cL_isTree 88 = .ok (.istore 7, 2) := by decide +kernel
theorem dL_isTree_90 : decode cL_isTree 90 = .ok (.iload 5, 2) := by decide +kernel
theorem dL_isTree_92 : decode cL_isTree 92 = .ok (.iconst 1, 1) := by decide +kernel
theorem dL_isTree_93 : decode cL_isTree 93 = .ok (.aload_n 0, 1) := by decide +kernel
theorem dL_isTree_94 : decode cL_isTree 94 = .ok (.iload 7, 2) := by decide +kernel
theorem dL_isTree_96 : decode cL_isTree 96 = .ok (.iconst 4, 1) := by decide +kernel
theorem dL_isTree_97 : decode cL_isTree 97 = .ok (.invokestatic 135, 3) := by decide +kernel
theorem dL_isTree_100 : decode cL_isTree 100 = .ok (.iadd, 1) := by decide +kernel
theorem dL_isTree_101 : decode cL_isTree 101 = .ok (.iadd, 1) := by decide +kernel
theorem dL_isTree_102 : decode cL_isTree 102 = .ok (.istore 5, 2) := by decide +kernel
theorem dL_isTree_104 : decode cL_isTree 104 = .ok (.aload_n 0, 1) := by decide +kernel
theorem dL_isTree_105 : decode cL_isTree 105 = .ok (.iload 7, 2) := by decide +kernel
theorem dL_isTree_107 : decode cL_isTree 107 = .ok (.iconst 0, 1) := by decide +kernel
theorem dL_isTree_108 : decode cL_isTree 108 = .ok (.invokestatic 135, 3) := by decide +kernel
theorem dL_isTree_111 : decode cL_isTree 111 = .ok (.iload 4, 2) := by decide +kernel
theorem dL_isTree_113 : decode cL_isTree 113 = .ok (.if_icmp .ne 26, 3) := by decide +kernel
theorem dL_isTree_116 : decode cL_isTree 116 = .ok (.aload_n 0, 1) := by decide +kernel
theorem dL_isTree_117 : decode cL_isTree 117 = .ok (.iload 7, 2) := by decide +kernel
theorem dL_isTree_119 : decode cL_isTree 119 = .ok (.iconst 2, 1) := by decide +kernel
theorem dL_isTree_120 : decode cL_isTree 120 = .ok (.invokestatic 135, 3) := by decide +kernel
theorem dL_isTree_123 : decode cL_isTree 123 = .ok (.aload_n 0, 1) := by decide +kernel
theorem dL_isTree_124 : decode cL_isTree 124 = .ok (.iload 4, 2) := by decide +kernel
theorem dL_isTree_126 : decode cL_isTree 126 = .ok (.iconst 2, 1) := by decide +kernel
theorem dL_isTree_127 : decode cL_isTree 127 = .ok (.invokestatic 135, 3) := by decide +kernel
theorem dL_isTree_130 : decode cL_isTree 130 = .ok (.iconst 1, 1) := by decide +kernel
theorem dL_isTree_131 : decode cL_isTree 131 = .ok (.iadd, 1) := by decide +kernel
theorem dL_isTree_132 : decode cL_isTree 132 = .ok (.if_icmp .ne 7, 3) := by decide +kernel
theorem dL_isTree_135 : decode cL_isTree 135 = .ok (.iconst 1, 1) := by decide +kernel
theorem dL_isTree_136 : decode cL_isTree 136 = .ok (.goto 4, 3) := by decide +kernel
theorem dL_isTree_139 : decode cL_isTree 139 = .ok (.iconst 0, 1) := by decide +kernel
theorem dL_isTree_140 : decode cL_isTree 140 = .ok (.istore_n 3, 1) := by decide +kernel
theorem dL_isTree_141 : decode cL_isTree 141 = .ok (.iinc 6 1, 3) := by decide +kernel
theorem dL_isTree_144 : decode cL_isTree 144 = .ok (.goto (-80), 3) := by decide +kernel
theorem dL_isTree_147 : decode cL_isTree 147 = .ok (.iload_n 2, 1) := by decide +kernel
theorem dL_isTree_148 : decode cL_isTree 148 = .ok (.aload_n 0, 1) := by decide +kernel
theorem dL_isTree_149 : decode cL_isTree 149 = .ok (.iload 4, 2) := by decide +kernel
theorem dL_isTree_151 : decode cL_isTree 151 = .ok (.iconst 1, 1) := by decide +kernel
theorem dL_isTree_152 : decode cL_isTree 152 = .ok (.invokestatic 135, 3) := by decide +kernel
theorem dL_isTree_155 : decode cL_isTree 155 = .ok (.iadd, 1) := by decide +kernel
theorem dL_isTree_156 : decode cL_isTree 156 = .ok (.istore_n 2, 1) := by decide +kernel
theorem dL_isTree_157 : decode cL_isTree 157 = .ok (.iload_n 3, 1) := by decide +kernel
theorem dL_isTree_158 : decode cL_isTree 158 = .ok (.ifCond .eq 37, 3) := by decide +kernel
theorem dL_isTree_161 : decode cL_isTree 161 = .ok (.iload 5, 2) := by decide +kernel
theorem dL_isTree_163 : decode cL_isTree 163 = .ok (.aload_n 0, 1) := by decide +kernel
theorem dL_isTree_164 : decode cL_isTree 164 = .ok (.iload 4, 2) := by decide +kernel
theorem dL_isTree_166 : decode cL_isTree 166 = .ok (.iconst 4, 1) := by decide +kernel
theorem dL_isTree_167 : decode cL_isTree 167 = .ok (.invokestatic 135, 3) := by decide +kernel
theorem dL_isTree_170 : decode cL_isTree 170 = .ok (.if_icmp .ne 25, 3) := by decide +kernel
theorem dL_isTree_173 : decode cL_isTree 173 = .ok (.aload_n 0, 1) := by decide +kernel
theorem dL_isTree_174 : decode cL_isTree 174 = .ok (.iload 4, 2) := by decide +kernel
theorem dL_isTree_176 : decode cL_isTree 176 = .ok (.aload_n 0, 1) := by decide +kernel
theorem dL_isTree_177 : decode cL_isTree 177 = .ok (.iload 4, 2) := by decide +kernel
theorem dL_isTree_179 : decode cL_isTree 179 = .ok (.iconst 1, 1) := by decide +kernel
theorem dL_isTree_180 : decode cL_isTree 180 = .ok (.invokestatic 135, 3) := by decide +kernel
theorem dL_isTree_183 : decode cL_isTree 183 = .ok (.invokestatic 161, 3) := by decide +kernel
theorem dL_isTree_186 : decode cL_isTree 186 = .ok (.bipush (-53), 2) := by decide +kernel
theorem dL_isTree_188 : decode cL_isTree 188 = .ok (.if_icmp .ne 7, 3) := by decide +kernel
theorem dL_isTree_191 : decode cL_isTree 191 = .ok (.iconst 1, 1) := by decide +kernel
theorem dL_isTree_192 : decode cL_isTree 192 = .ok (.goto 4, 3) := by decide +kernel
theorem dL_isTree_195 : decode cL_isTree 195 = .ok (.iconst 0, 1) := by decide +kernel
theorem dL_isTree_196 : decode cL_isTree 196 = .ok (.istore_n 3, 1) := by decide +kernel
theorem dL_isTree_197 : decode cL_isTree 197 = .ok (.iinc 4 1, 3) := by decide +kernel
theorem dL_isTree_200 : decode cL_isTree 200 = .ok (.goto (-168), 3) := by decide +kernel
theorem dL_isTree_203 : decode cL_isTree 203 = .ok (.iload_n 3, 1) := by decide +kernel
theorem dL_isTree_204 : decode cL_isTree 204 = .ok (.ifCond .eq 22, 3) := by decide +kernel
theorem dL_isTree_207 : decode cL_isTree 207 = .ok (.iload_n 1, 1) := by decide +kernel
theorem dL_isTree_208 : decode cL_isTree 208 = .ok (.aload_n 0, 1) := by decide +kernel
theorem dL_isTree_209 : decode cL_isTree 209 = .ok (.invokevirtual 118, 3) := by decide +kernel
theorem dL_isTree_212 : decode cL_isTree 212 = .ok (.if_icmp .ne 14, 3) := by decide +kernel
theorem dL_isTree_215 : decode cL_isTree 215 = .ok (.iload_n 2, 1) := by decide +kernel
theorem dL_isTree_216 : decode cL_isTree 216 = .ok (.iload_n 1, 1) := by decide +kernel
theorem dL_isTree_217 : decode cL_isTree 217 = .ok (.iconst 1, 1) := by decide +kernel
theorem dL_isTree_218 : decode cL_isTree 218 = .ok (.isub, 1) := by decide +kernel
theorem dL_isTree_219 : decode cL_isTree 219 = .ok (.if_icmp .ne 7, 3) := by decide +kernel
theorem dL_isTree_222 : decode cL_isTree 222 = .ok (.iconst 1, 1) := by decide +kernel
theorem dL_isTree_223 : decode cL_isTree 223 = .ok (.goto 4, 3) := by decide +kernel
theorem dL_isTree_226 : decode cL_isTree 226 = .ok (.iconst 0, 1) := by decide +kernel
theorem dL_isTree_227 : decode cL_isTree 227 = .ok (.ireturn, 1) := by decide +kernel
theorem dL_isTold_0 : decode cL_isTold 0 = .ok (.iconst 1, 1) := by decide +kernel
theorem dL_isTold_1 : decode cL_isTold 1 = .ok (.istore_n 1, 1) := by decide +kernel
theorem dL_isTold_2 : decode cL_isTold 2 = .ok (.aload_n 0, 1) := by decide +kernel
theorem dL_isTold_3 : decode cL_isTold 3 = .ok (.invokevirtual 121, 3) := by decide +kernel
theorem dL_isTold_6 : decode cL_isTold 6 = .ok (.istore_n 2, 1) := by decide +kernel
theorem dL_isTold_7 : decode cL_isTold 7 = .ok (.iconst 0, 1) := by decide +kernel
theorem dL_isTold_8 : decode cL_isTold 8 = .ok (.istore_n 3, 1) := by decide +kernel
theorem dL_isTold_9 : decode cL_isTold 9 = .ok (.iload_n 3, 1) := by decide +kernel
theorem dL_isTold_10 : decode cL_isTold 10 = .ok (.iload_n 2, 1) := by decide +kernel
theorem dL_isTold_11 : decode cL_isTold 11 = .ok (.if_icmp .ge 197, 3) := by decide +kernel
theorem dL_isTold_14 : decode cL_isTold 14 = .ok (.iload_n 1, 1) := by decide +kernel
theorem dL_isTold_15 : decode cL_isTold 15 = .ok (.ifCond .eq 193, 3) := by decide +kernel
theorem dL_isTold_18 : decode cL_isTold 18 = .ok (.aload_n 0, 1) := by decide +kernel
theorem dL_isTold_19 : decode cL_isTold 19 = .ok (.iload_n 3, 1) := by decide +kernel
theorem dL_isTold_20 : decode cL_isTold 20 = .ok (.iconst 1, 1) := by decide +kernel
theorem dL_isTold_21 : decode cL_isTold 21 = .ok (.invokestatic 185, 3) := by decide +kernel
theorem dL_isTold_24 : decode cL_isTold 24 = .ok (.istore 4, 2) := by decide +kernel
theorem dL_isTold_26 : decode cL_isTold 26 = .ok (.aload_n 0, 1) := by decide +kernel
theorem dL_isTold_27 : decode cL_isTold 27 = .ok (.iload_n 3, 1) := by decide +kernel
theorem dL_isTold_28 : decode cL_isTold 28 = .ok (.iconst 2, 1) := by decide +kernel
theorem dL_isTold_29 : decode cL_isTold 29 = .ok (.invokestatic 185, 3) := by decide +kernel
theorem dL_isTold_32 : decode cL_isTold 32 = .ok (.istore 5, 2) := by decide +kernel
theorem dL_isTold_34 : decode cL_isTold 34 = .ok (.iconst 1, 1) := by decide +kernel
theorem dL_isTold_35 : decode cL_isTold 35 = .ok (.istore 6, 2) := by decide +kernel
theorem dL_isTold_37 : decode cL_isTold 37 = .ok (.iload_n 3, 1) := by decide +kernel
theorem dL_isTold_38 : decode cL_isTold 38 = .ok (.iconst 1, 1) := by decide +kernel
theorem dL_isTold_39 : decode cL_isTold 39 = .ok (.iadd, 1) := by decide +kernel
theorem dL_isTold_40 : decode cL_isTold 40 = .ok (.istore 7, 2) := by decide +kernel
theorem dL_isTold_42 : decode cL_isTold 42 = .ok (.iload 7, 2) := by decide +kernel
theorem dL_isTold_44 : decode cL_isTold 44 = .ok (.iload_n 2, 1) := by decide +kernel
theorem dL_isTold_45 : decode cL_isTold 45 = .ok (.if_icmp .ge 93, 3) := by decide +kernel
theorem dL_isTold_48 : decode cL_isTold 48 = .ok (.aload_n 0, 1) := by decide +kernel
theorem dL_isTold_49 : decode cL_isTold 49 = .ok (.iload 7, 2) := by decide +kernel
theorem dL_isTold_51 : decode cL_isTold 51 = .ok (.iconst 1, 1) := by decide +kernel
theorem dL_isTold_52 : decode cL_isTold 52 = .ok (.invokestatic 185, 3) := by decide +kernel
theorem dL_isTold_55 : decode cL_isTold 55 = .ok (.iload 4, 2) := by decide +kernel
theorem dL_isTold_57 : decode cL_isTold 57 = .ok (.if_icmp .ne 19, 3) := by decide +kernel
theorem dL_isTold_60 : decode cL_isTold 60 = .ok (.aload_n 0, 1) := by decide +kernel
theorem dL_isTold_61 : decode cL_isTold 61 = .ok (.iload 7, 2) := by decide +kernel
theorem dL_isTold_63 : decode cL_isTold 63 = .ok (.iconst 2, 1) := by decide +kernel
theorem dL_isTold_64 : decode cL_isTold 64 = .ok (.invokestatic 185, 3) := by decide +kernel
theorem dL_isTold_67 : decode cL_isTold 67 = .ok (.iload 5, 2) := by decide +kernel
theorem dL_isTold_69 : decode cL_isTold 69 = .ok (.if_icmp .ne 7, 3) := by decide +kernel
theorem dL_isTold_72 : decode cL_isTold 72 = .ok (.iconst 1, 1) := by decide +kernel
theorem dL_isTold_73 : decode cL_isTold 73 = .ok (.goto 4, 3) := by decide +kernel
theorem dL_isTold_76 : decode cL_isTold 76 = .ok (.iconst 0, 1) := by decide +kernel
theorem dL_isTold_77 : decode cL_isTold 77 = .ok (.istore 8, 2) := by decide +kernel
theorem dL_isTold_79 : decode cL_isTold 79 = .ok (.iload_n 1, 1) := by decide +kernel
theorem dL_isTold_80 : decode cL_isTold 80 = .ok (.ifCond .eq 33, 3) := by decide +kernel
theorem dL_isTold_83 : decode cL_isTold 83 = .ok (.iload 6, 2) := by decide +kernel
theorem dL_isTold_85 : decode cL_isTold 85 = .ok (.ifCond .eq 24, 3) := by decide +kernel
theorem dL_isTold_88 : decode cL_isTold 88 = .ok (.iload 8, 2) := by decide +kernel
theorem dL_isTold_90 : decode cL_isTold 90 = .ok (.ifCond .eq 19, 3) := by decide +kernel
theorem dL_isTold_93 : decode cL_isTold 93 = .ok (.aload_n 0, 1) := by decide +kernel
theorem dL_isTold_94 : decode cL_isTold 94 = .ok (.iload 7, 2) := by decide +kernel
theorem dL_isTold_96 : decode cL_isTold 96 = .ok (.iconst 3, 1) := by decide +kernel
theorem dL_isTold_97 : decode cL_isTold 97 = .ok (.invokestatic 185, 3) := by decide +kernel
theorem dL_isTold_100 : decode cL_isTold 100 = .ok (.aload_n 0, 1) := by decide +kernel
theorem dL_isTold_101 : decode cL_isTold 101 = .ok (.iload_n 3, 1) := by decide +kernel
theorem dL_isTold_102 : decode cL_isTold 102 = .ok (.iconst 4, 1) := by decide +kernel
theorem dL_isTold_103 : decode cL_isTold 103 = .ok (.invokestatic 185, 3) := by decide +kernel
theorem dL_isTold_106 : decode cL_isTold 106 = .ok (.if_icmp .ne 7, 3) := by decide +kernel
theorem dL_isTold_109 : decode cL_isTold 109 = .ok (.iconst 1, 1) := by decide +kernel
theorem dL_isTold_110 : decode cL_isTold 110 = .ok (.goto 4, 3) := by decide +kernel
theorem dL_isTold_113 : decode cL_isTold 113 = .ok (.iconst 0, 1) := by decide +kernel
theorem dL_isTold_114 : decode cL_isTold 114 = .ok (.istore_n 1, 1) := by decide +kernel
theorem dL_isTold_115 : decode cL_isTold 115 = .ok (.iload 6, 2) := by decide +kernel
theorem dL_isTold_117 : decode cL_isTold 117 = .ok (.ifCond .eq 12, 3) := by decide +kernel
theorem dL_isTold_120 : decode cL_isTold 120 = .ok (.iload 8, 2) := by decide +kernel
theorem dL_isTold_122 : decode cL_isTold 122 = .ok (.ifCond .ne 7, 3) := by decide +kernel
theorem dL_isTold_125 : decode cL_isTold 125 = .ok (.iconst 1, 1) := by decide +kernel
theorem dL_isTold_126 : decode cL_isTold 126 = .ok (.goto 4, 3) := by decide +kernel
theorem dL_isTold_129 : decode cL_isTold 129 = .ok (.iconst 0, 1) := by decide +kernel
theorem dL_isTold_130 : decode cL_isTold 130 = .ok (.istore 6, 2) := by decide +kernel
theorem dL_isTold_132 : decode cL_isTold 132 = .ok (.iinc 7 1, 3) := by decide +kernel
theorem dL_isTold_135 : decode cL_isTold 135 = .ok (.goto (-93), 3) := by decide +kernel
theorem dL_isTold_138 : decode cL_isTold 138 = .ok (.iload_n 1, 1) := by decide +kernel
theorem dL_isTold_139 : decode cL_isTold 139 = .ok (.ifCond .eq 61, 3) := by decide +kernel
theorem dL_isTold_142 : decode cL_isTold 142 = .ok (.iload 6, 2) := by decide +kernel
theorem dL_isTold_144 : decode cL_isTold 144 = .ok (.ifCond .eq 37, 3) := by decide +kernel
theorem dL_isTold_147 : decode cL_isTold 147 = .ok (.aload_n 0, 1) := by decide +kernel
theorem dL_isTold_148 : decode cL_isTold 148 = .ok (.iload 4, 2) := by decide +kernel
theorem dL_isTold_150 : decode cL_isTold 150 = .ok (.iload 5, 2) := by decide +kernel
theorem dL_isTold_152 : decode cL_isTold 152 = .ok (.invokestatic 138, 3) := by decide +kernel
theorem dL_isTold_155 : decode cL_isTold 155 = .ok (.aload_n 0, 1) := by decide +kernel
theorem dL_isTold_156 : decode cL_isTold 156 = .ok (.iload_n 3, 1) := by decide +kernel
theorem dL_isTold_157 : decode cL_isTold 157 = .ok (.iconst 4, 1) := by decide +kernel
theorem dL_isTold_158 : decode cL_isTold 158 = .ok (.invokestatic 185, 3) := by decide +kernel
theorem dL_isTold_161 : decode cL_isTold 161 = .ok (.if_icmp .ne 39, 3) := by decide +kernel
theorem dL_isTold_164 : decode cL_isTold 164 = .ok (.aload_n 0, 1) := by decide +kernel
theorem dL_isTold_165 : decode cL_isTold 165 = .ok (.iload 4, 2) := by decide +kernel
theorem dL_isTold_167 : decode cL_isTold 167 = .ok (.iload 5, 2) := by decide +kernel
theorem dL_isTold_169 : decode cL_isTold 169 = .ok (.invokestatic 187, 3) := by decide +kernel
theorem dL_isTold_172 : decode cL_isTold 172 = .ok (.aload_n 0, 1) := by decide +kernel
theorem dL_isTold_173 : decode cL_isTold 173 = .ok (.iload_n 3, 1) := by decide +kernel
theorem dL_isTold_174 : decode cL_isTold 174 = .ok (.iconst 5, 1) := by decide +kernel
theorem dL_isTold_175 : decode cL_isTold 175 = .ok (.invokestatic 185, 3) := by decide +kernel
theorem dL_isTold_178 : decode cL_isTold 178 = .ok (.if_icmp .ne 22, 3) := by decide +kernel
theorem dL_isTold_181 : decode cL_isTold 181 = .ok (.aload_n 0, 1) := by decide +kernel
theorem dL_isTold_182 : decode cL_isTold 182 = .ok (.iload_n 3, 1) := by decide +kernel
theorem dL_isTold_183 : decode cL_isTold 183 = .ok (.iconst 3, 1) := by decide +kernel
theorem dL_isTold_184 : decode cL_isTold 184 = .ok (.invokestatic 185, 3) := by decide +kernel
theorem dL_isTold_187 : decode cL_isTold 187 = .ok (.aload_n 0, 1) := by decide +kernel
theorem dL_isTold_188 : decode cL_isTold 188 = .ok (.iload_n 3, 1) := by decide +kernel
theorem dL_isTold_189 : decode cL_isTold 189 = .ok (.iconst 4, 1) := by decide +kernel
theorem dL_isTold_190 : decode cL_isTold 190 = .ok (.invokestatic 185, 3) := by decide +kernel
theorem dL_isTold_193 : decode cL_isTold 193 = .ok (.if_icmp .eq 7, 3) := by decide +kernel
theorem dL_isTold_196 : decode cL_isTold 196 = .ok (.iconst 1, 1) := by decide +kernel
theorem dL_isTold_197 : decode cL_isTold 197 = .ok (.goto 4, 3) := by decide +kernel
theorem dL_isTold_200 : decode cL_isTold 200 = .ok (.iconst 0, 1) := by decide +kernel
theorem dL_isTold_201 : decode cL_isTold 201 = .ok (.istore_n 1, 1) := by decide +kernel
theorem dL_isTold_202 : decode cL_isTold 202 = .ok (.iinc 3 1, 3) := by decide +kernel
theorem dL_isTold_205 : decode cL_isTold 205 = .ok (.goto (-196), 3) := by decide +kernel
theorem dL_isTold_208 : decode cL_isTold 208 = .ok (.iload_n 1, 1) := by decide +kernel
theorem dL_isTold_209 : decode cL_isTold 209 = .ok (.ireturn, 1) := by decide +kernel
theorem dL_isGranted_0 : decode cL_isGranted 0 = .ok (.aload_n 0, 1) := by decide +kernel
theorem dL_isGranted_1 : decode cL_isGranted 1 = .ok (.invokestatic 151, 3) := by decide +kernel
theorem dL_isGranted_4 : decode cL_isGranted 4 = .ok (.lstore_n 1, 1) := by decide +kernel
theorem dL_isGranted_5 : decode cL_isGranted 5 = .ok (.iconst 1, 1) := by decide +kernel
theorem dL_isGranted_6 : decode cL_isGranted 6 = .ok (.istore_n 3, 1) := by decide +kernel
theorem dL_isGranted_7 : decode cL_isGranted 7 = .ok (.iconst 0, 1) := by decide +kernel
theorem dL_isGranted_8 : decode cL_isGranted 8 = .ok (.istore 4, 2) := by decide +kernel
theorem dL_isGranted_10 : decode cL_isGranted 10 = .ok (.iload 4, 2) := by decide +kernel
theorem dL_isGranted_12 : decode cL_isGranted 12 = .ok (.aload_n 0, 1) := by decide +kernel
theorem dL_isGranted_13 : decode cL_isGranted 13 = .ok (.invokevirtual 124, 3) := by decide +kernel
theorem dL_isGranted_16 : decode cL_isGranted 16 = .ok (.if_icmp .ge 147, 3) := by decide +kernel
theorem dL_isGranted_19 : decode cL_isGranted 19 = .ok (.iload_n 3, 1) := by decide +kernel
theorem dL_isGranted_20 : decode cL_isGranted 20 = .ok (.ifCond .eq 143, 3) := by decide +kernel
theorem dL_isGranted_23 : decode cL_isGranted 23 = .ok (.aload_n 0, 1) := by decide +kernel
theorem dL_isGranted_24 : decode cL_isGranted 24 = .ok (.iload 4, 2) := by decide +kernel
theorem dL_isGranted_26 : decode cL_isGranted 26 = .ok (.iconst 0, 1) := by decide +kernel
theorem dL_isGranted_27 : decode cL_isGranted 27 = .ok (.invokestatic 147, 3) := by decide +kernel
theorem dL_isGranted_30 : decode cL_isGranted 30 = .ok (.istore 5, 2) := by decide +kernel
theorem dL_isGranted_32 : decode cL_isGranted 32 = .ok (.aload_n 0, 1) := by decide +kernel
theorem dL_isGranted_33 : decode cL_isGranted 33 = .ok (.iconst 0, 1) := by decide +kernel
theorem dL_isGranted_34 : decode cL_isGranted 34 = .ok (.invokestatic 127, 3) := by decide +kernel
theorem dL_isGranted_37 : decode cL_isGranted 37 = .ok (.istore 6, 2) := by decide +kernel
theorem dL_isGranted_39 : decode cL_isGranted 39 = .ok (.aload_n 0, 1) := by decide +kernel
theorem dL_isGranted_40 : decode cL_isGranted 40 = .ok (.invokestatic 132, 3) := by decide +kernel
theorem dL_isGranted_43 : decode cL_isGranted 43 = .ok (.ifCond .lt 7, 3) := by decide +kernel
theorem dL_isGranted_46 : decode cL_isGranted 46 = .ok (.iconst 1, 1) := by decide +kernel
theorem dL_isGranted_47 : decode cL_isGranted 47 = .ok (.goto 4, 3) := by decide +kernel
theorem dL_isGranted_50 : decode cL_isGranted 50 = .ok (.iconst 0, 1) := by decide +kernel
theorem dL_isGranted_51 : decode cL_isGranted 51 = .ok (.istore_n 3, 1) := by decide +kernel
theorem dL_isGranted_52 : decode cL_isGranted 52 = .ok (.aload_n 0, 1) := by decide +kernel
theorem dL_isGranted_53 : decode cL_isGranted 53 = .ok (.iload 5, 2) := by decide +kernel
theorem dL_isGranted_55 : decode cL_isGranted 55 = .ok (.invokestatic 183, 3) := by decide +kernel
theorem dL_isGranted_58 : decode cL_isGranted 58 = .ok (.istore 7, 2) := by decide +kernel
theorem dL_isGranted_60 : decode cL_isGranted 60 = .ok (.iload_n 3, 1) := by decide +kernel
theorem dL_isGranted_61 : decode cL_isGranted 61 = .ok (.ifCond .eq 96, 3) := by decide +kernel
theorem dL_isGranted_64 : decode cL_isGranted 64 = .ok (.iload 7, 2) := by decide +kernel
theorem dL_isGranted_66 : decode cL_isGranted 66 = .ok (.ifCond .lt 91, 3) := by decide +kernel
theorem dL_isGranted_69 : decode cL_isGranted 69 = .ok (.iload 7, 2) := by decide +kernel
theorem dL_isGranted_71 : decode cL_isGranted 71 = .ok (.iload 6, 2) := by decide +kernel
theorem dL_isGranted_73 : decode cL_isGranted 73 = .ok (.isub, 1) := by decide +kernel
theorem dL_isGranted_74 : decode cL_isGranted 74 = .ok (.sipush 1000, 3) := by decide +kernel
theorem dL_isGranted_77 : decode cL_isGranted 77 = .ok (.if_icmp .gt 80, 3) := by decide +kernel
theorem dL_isGranted_80 : decode cL_isGranted 80 = .ok (.iload 7, 2) := by decide +kernel
theorem dL_isGranted_82 : decode cL_isGranted 82 = .ok (.iload 6, 2) := by decide +kernel
theorem dL_isGranted_84 : decode cL_isGranted 84 = .ok (.if_icmp .le 71, 3) := by decide +kernel
theorem dL_isGranted_87 : decode cL_isGranted 87 = .ok (.aload_n 0, 1) := by decide +kernel
theorem dL_isGranted_88 : decode cL_isGranted 88 = .ok (.iload 7, 2) := by decide +kernel
theorem dL_isGranted_90 : decode cL_isGranted 90 = .ok (.iload 6, 2) := by decide +kernel
theorem dL_isGranted_92 : decode cL_isGranted 92 = .ok (.isub, 1) := by decide +kernel
theorem dL_isGranted_93 : decode cL_isGranted 93 = .ok (.iconst 1, 1) := by decide +kernel
theorem dL_isGranted_94 : decode cL_isGranted 94 = .ok (.isub, 1) := by decide +kernel
theorem dL_isGranted_95 : decode cL_isGranted 95 = .ok (.invokestatic 127, 3) := by decide +kernel
theorem dL_isGranted_98 : decode cL_isGranted 98 = .ok (.iload 7, 2) := by decide +kernel
theorem dL_isGranted_100 : decode cL_isGranted 100 = .ok (.iconst 1, 1) := by decide +kernel
theorem dL_isGranted_101 : decode cL_isGranted 101 = .ok (.isub, 1) := by decide +kernel
theorem dL_isGranted_102 : decode cL_isGranted 102 = .ok (.if_icmp .ne 53, 3) := by decide +kernel
theorem dL_isGranted_105 : decode cL_isGranted 105 = .ok (.aload_n 0, 1) := by decide +kernel
theorem dL_isGranted_106 : decode cL_isGranted 106 = .ok (.iload 5, 2) := by decide +kernel
theorem dL_isGranted_108 : decode cL_isGranted 108 = .ok (.invokestatic 183, 3) := by decide +kernel
theorem dL_isGranted_111 : decode cL_isGranted 111 = .ok (.iload 7, 2) := by decide +kernel
theorem dL_isGranted_113 : decode cL_isGranted 113 = .ok (.if_icmp .ne 42, 3) := by decide +kernel
theorem dL_isGranted_116 : decode cL_isGranted 116 = .ok (.aload_n 0, 1) := by decide +kernel
theorem dL_isGranted_117 : decode cL_isGranted 117 = .ok (.iconst 1, 1) := by decide +kernel
theorem dL_isGranted_118 : decode cL_isGranted 118 = .ok (.invokestatic 127, 3) := by decide +kernel
theorem dL_isGranted_121 : decode cL_isGranted 121 = .ok (.iload 7, 2) := by decide +kernel
theorem dL_isGranted_123 : decode cL_isGranted 123 = .ok (.if_icmp .ne 32, 3) := by decide +kernel
theorem dL_isGranted_126 : decode cL_isGranted 126 = .ok (.aload_n 0, 1) := by decide +kernel
theorem dL_isGranted_127 : decode cL_isGranted 127 = .ok (.iload 5, 2) := by decide +kernel
theorem dL_isGranted_129 : decode cL_isGranted 129 = .ok (.invokestatic 183, 3) := by decide +kernel
theorem dL_isGranted_132 : decode cL_isGranted 132 = .ok (.bipush (-52), 2) := by decide +kernel
theorem dL_isGranted_134 : decode cL_isGranted 134 = .ok (.if_icmp .ne 21, 3) := by decide +kernel
theorem dL_isGranted_137 : decode cL_isGranted 137 = .ok (.aload_n 0, 1) := by decide +kernel
theorem dL_isGranted_138 : decode cL_isGranted 138 = .ok (.invokestatic 132, 3) := by decide +kernel
theorem dL_isGranted_141 : decode cL_isGranted 141 = .ok (.ifCond .lt 14, 3) := by decide +kernel
theorem dL_isGranted_144 : decode cL_isGranted 144 = .ok (.aload_n 0, 1) := by decide +kernel
theorem dL_isGranted_145 : decode cL_isGranted 145 = .ok (.invokestatic 132, 3) := by decide +kernel
theorem dL_isGranted_148 : decode cL_isGranted 148 = .ok (.ifCond .lt 7, 3) := by decide +kernel
theorem dL_isGranted_151 : decode cL_isGranted 151 = .ok (.iconst 1, 1) := by decide +kernel
theorem dL_isGranted_152 : decode cL_isGranted 152 = .ok (.goto 4, 3) := by decide +kernel
theorem dL_isGranted_155 : decode cL_isGranted 155 = .ok (.iconst 0, 1) := by decide +kernel
theorem dL_isGranted_156 : decode cL_isGranted 156 = .ok (.istore_n 3, 1) := by decide +kernel
theorem dL_isGranted_157 : decode cL_isGranted 157 = .ok (.iinc 4 1, 3) := by decide +kernel
theorem dL_isGranted_160 : decode cL_isGranted 160 = .ok (.goto (-150), 3) := by decide +kernel
theorem dL_isGranted_163 : decode cL_isGranted 163 = .ok (.iconst 0, 1) := by decide +kernel
theorem dL_isGranted_164 : decode cL_isGranted 164 = .ok (.istore 4, 2) := by decide +kernel
theorem dL_isGranted_166 : decode cL_isGranted 166 = .ok (.iload 4, 2) := by decide +kernel
theorem dL_isGranted_168 : decode cL_isGranted 168 = .ok (.bipush 10, 2) := by decide +kernel
theorem dL_isGranted_170 : decode cL_isGranted 170 = .ok (.if_icmp .ge 72, 3) := by decide +kernel
theorem dL_isGranted_173 : decode cL_isGranted 173 = .ok (.iload_n 3, 1) := by decide +kernel
theorem dL_isGranted_174 : decode cL_isGranted 174 = .ok (.ifCond .eq 68, 3) := by decide +kernel
theorem dL_isGranted_177 : decode cL_isGranted 177 = .ok (.aload_n 0, 1) := by decide +kernel
theorem dL_isGranted_178 : decode cL_isGranted 178 = .ok (.iload 4, 2) := by decide +kernel
theorem dL_isGranted_180 : decode cL_isGranted 180 = .ok (.invokestatic 181, 3) := by decide +kernel
theorem dL_isGranted_183 : decode cL_isGranted 183 = .ok (.istore 5, 2) := by decide +kernel
theorem dL_isGranted_185 : decode cL_isGranted 185 = .ok (.aload_n 0, 1) := by decide +kernel
theorem dL_isGranted_186 : decode cL_isGranted 186 = .ok (.iload 4, 2) := by decide +kernel
theorem dL_isGranted_188 : decode cL_isGranted 188 = .ok (.iconst 3, 1) := by decide +kernel
theorem dL_isGranted_189 : decode cL_isGranted 189 = .ok (.invokestatic 142, 3) := by decide +kernel
theorem dL_isGranted_192 : decode cL_isGranted 192 = .ok (.iconst 1, 1) := by decide +kernel
theorem dL_isGranted_193 : decode cL_isGranted 193 = .ok (.if_icmp .ne 43, 3) := by decide +kernel
theorem dL_isGranted_196 : decode cL_isGranted 196 = .ok (.aload_n 0, 1) := by decide +kernel
theorem dL_isGranted_197 : decode cL_isGranted 197 = .ok (.invokevirtual 124, 3) := by decide +kernel
theorem dL_isGranted_200 : decode cL_isGranted 200 = .ok (.istore 6, 2) := by decide +kernel
theorem dL_isGranted_202 : decode cL_isGranted 202 = .ok (.aload_n 0, 1) := by decide +kernel
theorem dL_isGranted_203 : decode cL_isGranted 203 = .ok (.iload 4, 2) := by decide +kernel
theorem dL_isGranted_205 : decode cL_isGranted 205 = .ok (.invokestatic 172, 3) := by decide +kernel
theorem dL_isGranted_208 : decode cL_isGranted 208 = .ok (.ifCond .lt 26, 3) := by decide +kernel
theorem dL_isGranted_211 : decode cL_isGranted 211 = .ok (.aload_n 0, 1) := by decide +kernel
theorem dL_isGranted_212 : decode cL_isGranted 212 = .ok (.invokevirtual 124, 3) := by decide +kernel
theorem dL_isGranted_215 : decode cL_isGranted 215 = .ok (.iload 6, 2) := by decide +kernel
theorem dL_isGranted_217 : decode cL_isGranted 217 = .ok (.iload 5, 2) := by decide +kernel
theorem dL_isGranted_219 : decode cL_isGranted 219 = .ok (.isub, 1) := by decide +kernel
theorem dL_isGranted_220 : decode cL_isGranted 220 = .ok (.if_icmp .ne 14, 3) := by decide +kernel
theorem dL_isGranted_223 : decode cL_isGranted 223 = .ok (.aload_n 0, 1) := by decide +kernel
theorem dL_isGranted_224 : decode cL_isGranted 224 = .ok (.invokestatic 132, 3) := by decide +kernel
theorem dL_isGranted_227 : decode cL_isGranted 227 = .ok (.ifCond .lt 7, 3) := by decide +kernel
theorem dL_isGranted_230 : decode cL_isGranted 230 = .ok (.iconst 1, 1) := by decide +kernel
theorem dL_isGranted_231 : decode cL_isGranted 231 = .ok (.goto 4, 3) := by decide +kernel
theorem dL_isGranted_234 : decode cL_isGranted 234 = .ok (.iconst 0, 1) := by decide +kernel
theorem dL_isGranted_235 : decode cL_isGranted 235 = .ok (.istore_n 3, 1) := by decide +kernel
theorem dL_isGranted_236 : decode cL_isGranted 236 = .ok (.iinc 4 1, 3) := by decide +kernel
theorem dL_isGranted_239 : decode cL_isGranted 239 = .ok (.goto (-73), 3) := by decide +kernel
theorem dL_isGranted_242 : decode cL_isGranted 242 = .ok (.iload_n 3, 1) := by decide +kernel
theorem dL_isGranted_243 : decode cL_isGranted 243 = .ok (.ifCond .eq 16, 3) := by decide +kernel
theorem dL_isGranted_246 : decode cL_isGranted 246 = .ok (.aload_n 0, 1) := by decide +kernel
theorem dL_isGranted_247 : decode cL_isGranted 247 = .ok (.invokestatic 151, 3) := by decide +kernel
theorem dL_isGranted_250 : decode cL_isGranted 250 = .ok (.lload_n 1, 1) := by decide +kernel
theorem dL_isGranted_251 : decode cL_isGranted 251 = .ok (.lcmp, 1) := by decide +kernel
theorem dL_isGranted_252 : decode cL_isGranted 252 = .ok (.ifCond .ne 7, 3) := by decide +kernel
theorem dL_isGranted_255 : decode cL_isGranted 255 = .ok (.iconst 1, 1) := by decide +kernel
theorem dL_isGranted_256 : decode cL_isGranted 256 = .ok (.goto 4, 3) := by decide +kernel
theorem dL_isGranted_259 : decode cL_isGranted 259 = .ok (.iconst 0, 1) := by decide +kernel
theorem dL_isGranted_260 : decode cL_isGranted 260 = .ok (.ireturn, 1) := by decide +kernel
theorem dL_comesBack_0 : decode cL_comesBack 0 = .ok (.aload_n 0, 1) := by decide +kernel
theorem dL_comesBack_1 : decode cL_comesBack 1 = .ok (.iload_n 1, 1) := by decide +kernel
theorem dL_comesBack_2 : decode cL_comesBack 2 = .ok (.iconst 0, 1) := by decide +kernel
theorem dL_comesBack_3 : decode cL_comesBack 3 = .ok (.invokestatic 142, 3) := by decide +kernel
theorem dL_comesBack_6 : decode cL_comesBack 6 = .ok (.ifCond .ge 19, 3) := by decide +kernel
theorem dL_comesBack_9 : decode cL_comesBack 9 = .ok (.aload_n 0, 1) := by decide +kernel
theorem dL_comesBack_10 : decode cL_comesBack 10 = .ok (.iload_n 1, 1) := by decide +kernel
theorem dL_comesBack_11 : decode cL_comesBack 11 = .ok (.invokestatic 201, 3) := by decide +kernel
theorem dL_comesBack_14 : decode cL_comesBack 14 = .ok (.bipush (-53), 2) := by decide +kernel
theorem dL_comesBack_16 : decode cL_comesBack 16 = .ok (.if_icmp .ne 7, 3) := by decide +kernel
theorem dL_comesBack_19 : decode cL_comesBack 19 = .ok (.iconst 1, 1) := by decide +kernel
theorem dL_comesBack_20 : decode cL_comesBack 20 = .ok (.goto 4, 3) := by decide +kernel
theorem dL_comesBack_23 : decode cL_comesBack 23 = .ok (.iconst 0, 1) := by decide +kernel
theorem dL_comesBack_24 : decode cL_comesBack 24 = .ok (.ireturn, 1) := by decide +kernel
theorem dL_comesBack_25 : decode cL_comesBack 25 = .ok (.aload_n 0, 1) := by decide +kernel
theorem dL_comesBack_26 : decode cL_comesBack 26 = .ok (.invokestatic 151, 3) := by decide +kernel
theorem dL_comesBack_29 : decode cL_comesBack 29 = .ok (.lstore_n 2, 1) := by decide +kernel
theorem dL_comesBack_30 : decode cL_comesBack 30 = .ok (.aload_n 0, 1) := by decide +kernel
theorem dL_comesBack_31 : decode cL_comesBack 31 = .ok (.iload_n 1, 1) := by decide +kernel
theorem dL_comesBack_32 : decode cL_comesBack 32 = .ok (.iconst 1, 1) := by decide +kernel
theorem dL_comesBack_33 : decode cL_comesBack 33 = .ok (.invokestatic 142, 3) := by decide +kernel
theorem dL_comesBack_36 : decode cL_comesBack 36 = .ok (.istore 4, 2) := by decide +kernel
theorem dL_comesBack_38 : decode cL_comesBack 38 = .ok (.aload_n 0, 1) := by decide +kernel
theorem dL_comesBack_39 : decode cL_comesBack 39 = .ok (.iload_n 1, 1) := by decide +kernel
theorem dL_comesBack_40 : decode cL_comesBack 40 = .ok (.invokestatic 201, 3) := by decide +kernel
theorem dL_comesBack_43 : decode cL_comesBack 43 = .ok (.istore 5, 2) := by decide +kernel
theorem dL_comesBack_45 : decode cL_comesBack 45 = .ok (.aload_n 0, 1) := by decide +kernel
theorem dL_comesBack_46 : decode cL_comesBack 46 = .ok (.iload_n 1, 1) := by decide +kernel
theorem dL_comesBack_47 : decode cL_comesBack 47 = .ok (.iconst 5, 1) := by decide +kernel
theorem dL_comesBack_48 : decode cL_comesBack 48 = .ok (.invokestatic 142, 3) := by decide +kernel
theorem dL_comesBack_51 : decode cL_comesBack 51 = .ok (.istore 6, 2) := by decide +kernel
theorem dL_comesBack_53 : decode cL_comesBack 53 = .ok (.aload_n 0, 1) := by decide +kernel
theorem dL_comesBack_54 : decode cL_comesBack 54 = .ok (.iload_n 1, 1) := by decide +kernel
theorem dL_comesBack_55 : decode cL_comesBack 55 = .ok (.iconst 0, 1) := by decide +kernel
theorem dL_comesBack_56 : decode cL_comesBack 56 = .ok (.invokestatic 142, 3) := by decide +kernel
theorem dL_comesBack_59 : decode cL_comesBack 59 = .ok (.istore 7, 2) := by decide +kernel
theorem dL_comesBack_61 : decode cL_comesBack 61 = .ok (.aload_n 0, 1) := by decide +kernel
theorem dL_comesBack_62 : decode cL_comesBack 62 = .ok (.iload_n 1, 1) := by decide +kernel
theorem dL_comesBack_63 : decode cL_comesBack 63 = .ok (.iconst 3, 1) := by decide +kernel
theorem dL_comesBack_64 : decode cL_comesBack 64 = .ok (.invokestatic 142, 3) := by decide +kernel
theorem dL_comesBack_67 : decode cL_comesBack 67 = .ok (.iconst 1, 1) := by decide +kernel
theorem dL_comesBack_68 : decode cL_comesBack 68 = .ok (.if_icmp .ne 16, 3) := by decide +kernel
theorem dL_comesBack_71 : decode cL_comesBack 71 = .ok (.aload_n 0, 1) := by decide +kernel
theorem dL_comesBack_72 : decode cL_comesBack 72 = .ok (.iload_n 1, 1) := by decide +kernel
theorem dL_comesBack_73 : decode cL_comesBack 73 = .ok (.iconst 4, 1) := by decide +kernel
theorem dL_comesBack_74 : decode cL_comesBack 74 = .ok (.invokestatic 142, 3) := by decide +kernel
theorem dL_comesBack_77 : decode cL_comesBack 77 = .ok (.ifCond .ne 7, 3) := by decide +kernel
theorem dL_comesBack_80 : decode cL_comesBack 80 = .ok (.iconst 1, 1) := by decide +kernel
theorem dL_comesBack_81 : decode cL_comesBack 81 = .ok (.goto 4, 3) := by decide +kernel
theorem dL_comesBack_84 : decode cL_comesBack 84 = .ok (.iconst 0, 1) := by decide +kernel
theorem dL_comesBack_85 : decode cL_comesBack 85 = .ok (.istore 8, 2) := by decide +kernel
theorem dL_comesBack_87 : decode cL_comesBack 87 = .ok (.aload_n 0, 1) := by decide +kernel
theorem dL_comesBack_88 : decode cL_comesBack 88 = .ok (.iload_n 1, 1) := by decide +kernel
theorem dL_comesBack_89 : decode cL_comesBack 89 = .ok (.iload 4, 2) := by decide +kernel
theorem dL_comesBack_91 : decode cL_comesBack 91 = .ok (.iconst 0, 1) := by decide +kernel
theorem dL_comesBack_92 : decode cL_comesBack 92 = .ok (.iconst 0, 1) := by decide +kernel
theorem dL_comesBack_93 : decode cL_comesBack 93 = .ok (.invokestatic 144, 3) := by decide +kernel
theorem dL_comesBack_96 : decode cL_comesBack 96 = .ok (.istore 9, 2) := by decide +kernel
theorem dL_comesBack_98 : decode cL_comesBack 98 = .ok (.aload_n 0, 1) := by decide +kernel
theorem dL_comesBack_99 : decode cL_comesBack 99 = .ok (.iload 4, 2) := by decide +kernel
theorem dL_comesBack_101 : decode cL_comesBack 101 = .ok (.iconst 0, 1) := by decide +kernel
theorem dL_comesBack_102 : decode cL_comesBack 102 = .ok (.invokestatic 138, 3) := by decide +kernel
theorem dL_comesBack_105 : decode cL_comesBack 105 = .ok (.istore 10, 2) := by decide +kernel
theorem dL_comesBack_107 : decode cL_comesBack 107 = .ok (.iload 5, 2) := by decide +kernel
theorem dL_comesBack_109 : decode cL_comesBack 109 = .ok (.iload 6, 2) := by decide +kernel
theorem dL_comesBack_111 : decode cL_comesBack 111 = .ok (.if_icmp .gt 7, 3) := by decide +kernel
theorem dL_comesBack_114 : decode cL_comesBack 114 = .ok (.iconst 1, 1) := by decide +kernel
theorem dL_comesBack_115 : decode cL_comesBack 115 = .ok (.goto 4, 3) := by decide +kernel
theorem dL_comesBack_118 : decode cL_comesBack 118 = .ok (.iconst 0, 1) := by decide +kernel
theorem dL_comesBack_119 : decode cL_comesBack 119 = .ok (.istore 11, 2) := by decide +kernel
theorem dL_comesBack_121 : decode cL_comesBack 121 = .ok (.iconst 0, 1) := by decide +kernel
theorem dL_comesBack_122 : decode cL_comesBack 122 = .ok (.istore 12, 2) := by decide +kernel
theorem dL_comesBack_124 : decode cL_comesBack 124 = .ok (.iload 12, 2) := by decide +kernel
theorem dL_comesBack_126 : decode cL_comesBack 126 = .ok (.iconst 3, 1) := by decide +kernel
theorem dL_comesBack_127 : decode cL_comesBack 127 = .ok (.if_icmp .ge 138, 3) := by decide +kernel
theorem dL_comesBack_130 : decode cL_comesBack 130 = .ok (.iload 11, 2) := by decide +kernel
theorem dL_comesBack_132 : decode cL_comesBack 132 = .ok (.ifCond .eq 133, 3) := by decide +kernel
theorem dL_comesBack_135 : decode cL_comesBack 135 = .ok (.aload_n 0, 1) := by decide +kernel
theorem dL_comesBack_136 : decode cL_comesBack 136 = .ok (.iload_n 1, 1) := by decide +kernel
theorem dL_comesBack_137 : decode cL_comesBack 137 = .ok (.iload 12, 2) := by decide +kernel
theorem dL_comesBack_139 : decode cL_comesBack 139 = .ok (.invokestatic 179, 3) := by decide +kernel
theorem dL_comesBack_142 : decode cL_comesBack 142 = .ok (.istore 13, 2) := by decide +kernel
theorem dL_comesBack_144 : decode cL_comesBack 144 = .ok (.iload 13, 2) := by decide +kernel
theorem dL_comesBack_146 : decode cL_comesBack 146 = .ok (.bipush (-52), 2) := by decide +kernel
theorem dL_comesBack_148 : decode cL_comesBack 148 = .ok (.if_icmp .ne 27, 3) := by decide +kernel
theorem dL_comesBack_151 : decode cL_comesBack 151 = .ok (.iload 8, 2) := by decide +kernel
theorem dL_comesBack_153 : decode cL_comesBack 153 = .ok (.ifCond .ne 16, 3) := by decide +kernel
theorem dL_comesBack_156 : decode cL_comesBack 156 = .ok (.aload_n 0, 1) := by decide +kernel
theorem dL_comesBack_157 : decode cL_comesBack 157 = .ok (.iload_n 1, 1) := by decide +kernel
theorem dL_comesBack_158 : decode cL_comesBack 158 = .ok (.iconst 3, 1) := by decide +kernel
theorem dL_comesBack_159 : decode cL_comesBack 159 = .ok (.invokestatic 142, 3) := by decide +kernel
theorem dL_comesBack_162 : decode cL_comesBack 162 = .ok (.ifCond .ne 7, 3) := by decide +kernel
theorem dL_comesBack_165 : decode cL_comesBack 165 = .ok (.iconst 1, 1) := by decide +kernel
theorem dL_comesBack_166 : decode cL_comesBack 166 = .ok (.goto 4, 3) := by decide +kernel
theorem dL_comesBack_169 : decode cL_comesBack 169 = .ok (.iconst 0, 1) := by decide +kernel
theorem dL_comesBack_170 : decode cL_comesBack 170 = .ok (.istore 11, 2) := by decide +kernel
theorem dL_comesBack_172 : decode cL_comesBack 172 = .ok (.goto 87, 3) := by decide +kernel
theorem dL_comesBack_175 : decode cL_comesBack 175 = .ok (.iload 13, 2) := by decide +kernel
theorem dL_comesBack_177 : decode cL_comesBack 177 = .ok (.ifCond .lt 79, 3) := by decide +kernel
theorem dL_comesBack_180 : decode cL_comesBack 180 = .ok (.iload 13, 2) := by decide +kernel
theorem dL_comesBack_182 : decode cL_comesBack 182 = .ok (.iload 6, 2) := by decide +kernel
theorem dL_comesBack_184 : decode cL_comesBack 184 = .ok (.if_icmp .gt 72, 3) := by decide +kernel
theorem dL_comesBack_187 : decode cL_comesBack 187 = .ok (.iload 12, 2) := by decide +kernel
theorem dL_comesBack_189 : decode cL_comesBack 189 = .ok (.ifCond .gt 8, 3) := by decide +kernel
theorem dL_comesBack_192 : decode cL_comesBack 192 = .ok (.iload 5, 2) := by decide +kernel
theorem dL_comesBack_194 : decode cL_comesBack 194 = .ok (.ifCond .ne 62, 3) := by decide +kernel
theorem dL_comesBack_197 : decode cL_comesBack 197 = .ok (.iload 8, 2) := by decide +kernel
theorem dL_comesBack_199 : decode cL_comesBack 199 = .ok (.ifCond .eq 22, 3) := by decide +kernel
theorem dL_comesBack_202 : decode cL_comesBack 202 = .ok (.aload_n 0, 1) := by decide +kernel
theorem dL_comesBack_203 : decode cL_comesBack 203 = .ok (.iload 4, 2) := by decide +kernel
theorem dL_comesBack_205 : decode cL_comesBack 205 = .ok (.iconst 0, 1) := by decide +kernel
theorem dL_comesBack_206 : decode cL_comesBack 206 = .ok (.invokestatic 138, 3) := by decide +kernel
theorem dL_comesBack_209 : decode cL_comesBack 209 = .ok (.iload 9, 2) := by decide +kernel
theorem dL_comesBack_211 : decode cL_comesBack 211 = .ok (.if_icmp .ne 45, 3) := by decide +kernel
theorem dL_comesBack_214 : decode cL_comesBack 214 = .ok (.iload 13, 2) := by decide +kernel
theorem dL_comesBack_216 : decode cL_comesBack 216 = .ok (.iload 6, 2) := by decide +kernel
theorem dL_comesBack_218 : decode cL_comesBack 218 = .ok (.if_icmp .ne 38, 3) := by decide +kernel
theorem dL_comesBack_221 : decode cL_comesBack 221 = .ok (.aload_n 0, 1) := by decide +kernel
theorem dL_comesBack_222 : decode cL_comesBack 222 = .ok (.iload 4, 2) := by decide +kernel
theorem dL_comesBack_224 : decode cL_comesBack 224 = .ok (.iconst 0, 1) := by decide +kernel
theorem dL_comesBack_225 : decode cL_comesBack 225 = .ok (.invokestatic 138, 3) := by decide +kernel
theorem dL_comesBack_228 : decode cL_comesBack 228 = .ok (.iload 10, 2) := by decide +kernel
theorem dL_comesBack_230 : decode cL_comesBack 230 = .ok (.if_icmp .eq 15, 3) := by decide +kernel
theorem dL_comesBack_233 : decode cL_comesBack 233 = .ok (.aload_n 0, 1) := by decide +kernel
theorem dL_comesBack_234 : decode cL_comesBack 234 = .ok (.iload 4, 2) := by decide +kernel
theorem dL_comesBack_236 : decode cL_comesBack 236 = .ok (.iconst 0, 1) := by decide +kernel
theorem dL_comesBack_237 : decode cL_comesBack 237 = .ok (.invokestatic 187, 3) := by decide +kernel
theorem dL_comesBack_240 : decode cL_comesBack 240 = .ok (.iload 7, 2) := by decide +kernel
theorem dL_comesBack_242 : decode cL_comesBack 242 = .ok (.if_icmp .ne 14, 3) := by decide +kernel
theorem dL_comesBack_245 : decode cL_comesBack 245 = .ok (.aload_n 0, 1) := by decide +kernel
theorem dL_comesBack_246 : decode cL_comesBack 246 = .ok (.invokestatic 132, 3) := by decide +kernel
theorem dL_comesBack_249 : decode cL_comesBack 249 = .ok (.ifCond .lt 7, 3) := by decide +kernel
theorem dL_comesBack_252 : decode cL_comesBack 252 = .ok (.iconst 1, 1) := by decide +kernel
theorem dL_comesBack_253 : decode cL_comesBack 253 = .ok (.goto 4, 3) := by decide +kernel
theorem dL_comesBack_256 : decode cL_comesBack 256 = .ok (.iconst 0, 1) := by decide +kernel
theorem dL_comesBack_257 : decode cL_comesBack 257 = .ok (.istore 11, 2) := by decide +kernel
theorem dL_comesBack_259 : decode cL_comesBack 259 = .ok (.iinc 12 1, 3) := by decide +kernel
theorem dL_comesBack_262 : decode cL_comesBack 262 = .ok (.goto (-138), 3) := by decide +kernel
theorem dL_comesBack_265 : decode cL_comesBack 265 = .ok (.iload 11, 2) := by decide +kernel
theorem dL_comesBack_267 : decode cL_comesBack 267 = .ok (.ifCond .eq 45, 3) := by decide +kernel
theorem dL_comesBack_270 : decode cL_comesBack 270 = .ok (.aload_n 0, 1) := by decide +kernel
theorem dL_comesBack_271 : decode cL_comesBack 271 = .ok (.iload_n 1, 1) := by decide +kernel
theorem dL_comesBack_272 : decode cL_comesBack 272 = .ok (.invokestatic 174, 3) := by decide +kernel
theorem dL_comesBack_275 : decode cL_comesBack 275 = .ok (.iload 6, 2) := by decide +kernel
theorem dL_comesBack_277 : decode cL_comesBack 277 = .ok (.if_icmp .ne 35, 3) := by decide +kernel
theorem dL_comesBack_280 : decode cL_comesBack 280 = .ok (.aload_n 0, 1) := by decide +kernel
theorem dL_comesBack_281 : decode cL_comesBack 281 = .ok (.iload 4, 2) := by decide +kernel
theorem dL_comesBack_283 : decode cL_comesBack 283 = .ok (.iconst 0, 1) := by decide +kernel
theorem dL_comesBack_284 : decode cL_comesBack 284 = .ok (.invokestatic 138, 3) := by decide +kernel
theorem dL_comesBack_287 : decode cL_comesBack 287 = .ok (.iload 10, 2) := by decide +kernel
theorem dL_comesBack_289 : decode cL_comesBack 289 = .ok (.if_icmp .ne 23, 3) := by decide +kernel
theorem dL_comesBack_292 : decode cL_comesBack 292 = .ok (.aload_n 0, 1) := by decide +kernel
theorem dL_comesBack_293 : decode cL_comesBack 293 = .ok (.invokestatic 132, 3) := by decide +kernel
theorem dL_comesBack_296 : decode cL_comesBack 296 = .ok (.ifCond .lt 16, 3) := by decide +kernel
theorem dL_comesBack_299 : decode cL_comesBack 299 = .ok (.aload_n 0, 1) := by decide +kernel
theorem dL_comesBack_300 : decode cL_comesBack 300 = .ok (.invokestatic 151, 3) := by decide +kernel
theorem dL_comesBack_303 : decode cL_comesBack 303 = .ok (.lload_n 2, 1) := by decide +kernel
theorem dL_comesBack_304 : decode cL_comesBack 304 = .ok (.lcmp, 1) := by decide +kernel
theorem dL_comesBack_305 : decode cL_comesBack 305 = .ok (.ifCond .ne 7, 3) := by decide +kernel
theorem dL_comesBack_308 : decode cL_comesBack 308 = .ok (.iconst 1, 1) := by decide +kernel
theorem dL_comesBack_309 : decode cL_comesBack 309 = .ok (.goto 4, 3) := by decide +kernel
theorem dL_comesBack_312 : decode cL_comesBack 312 = .ok (.iconst 0, 1) := by decide +kernel
theorem dL_comesBack_313 : decode cL_comesBack 313 = .ok (.ireturn, 1) := by decide +kernel
theorem dL_isPutBack_0 : decode cL_isPutBack 0 = .ok (.aload_n 0, 1) := by decide +kernel
theorem dL_isPutBack_1 : decode cL_isPutBack 1 = .ok (.iload_n 1, 1) := by decide +kernel
theorem dL_isPutBack_2 : decode cL_isPutBack 2 = .ok (.iconst 0, 1) := by decide +kernel
theorem dL_isPutBack_3 : decode cL_isPutBack 3 = .ok (.invokestatic 135, 3) := by decide +kernel
theorem dL_isPutBack_6 : decode cL_isPutBack 6 = .ok (.iconst (-1), 1) := by decide +kernel
theorem dL_isPutBack_7 : decode cL_isPutBack 7 = .ok (.if_icmp .ge 20, 3) := by decide +kernel
theorem dL_isPutBack_10 : decode cL_isPutBack 10 = .ok (.aload_n 0, 1) := by decide +kernel
theorem dL_isPutBack_11 : decode cL_isPutBack 11 = .ok (.iload_n 1, 1) := by decide +kernel
theorem dL_isPutBack_12 : decode cL_isPutBack 12 = .ok (.iconst 0, 1) := by decide +kernel
theorem dL_isPutBack_13 : decode cL_isPutBack 13 = .ok (.invokestatic 191, 3) := by decide +kernel
theorem dL_isPutBack_16 : decode cL_isPutBack 16 = .ok (.bipush (-53), 2) := by decide +kernel
theorem dL_isPutBack_18 : decode cL_isPutBack 18 = .ok (.if_icmp .ne 7, 3) := by decide +kernel
theorem dL_isPutBack_21 : decode cL_isPutBack 21 = .ok (.iconst 1, 1) := by decide +kernel
theorem dL_isPutBack_22 : decode cL_isPutBack 22 = .ok (.goto 4, 3) := by decide +kernel
theorem dL_isPutBack_25 : decode cL_isPutBack 25 = .ok (.iconst 0, 1) := by decide +kernel
theorem dL_isPutBack_26 : decode cL_isPutBack 26 = .ok (.ireturn, 1) := by decide +kernel
theorem dL_isPutBack_27 : decode cL_isPutBack 27 = .ok (.aload_n 0, 1) := by decide +kernel
theorem dL_isPutBack_28 : decode cL_isPutBack 28 = .ok (.iload_n 1, 1) := by decide +kernel
theorem dL_isPutBack_29 : decode cL_isPutBack 29 = .ok (.iconst 2, 1) := by decide +kernel
theorem dL_isPutBack_30 : decode cL_isPutBack 30 = .ok (.iload_n 2, 1) := by decide +kernel
theorem dL_isPutBack_31 : decode cL_isPutBack 31 = .ok (.invokestatic 189, 3) := by decide +kernel
theorem dL_isPutBack_34 : decode cL_isPutBack 34 = .ok (.istore_n 3, 1) := by decide +kernel
theorem dL_isPutBack_35 : decode cL_isPutBack 35 = .ok (.aload_n 0, 1) := by decide +kernel
theorem dL_isPutBack_36 : decode cL_isPutBack 36 = .ok (.invokevirtual 121, 3) := by decide +kernel
theorem dL_isPutBack_39 : decode cL_isPutBack 39 = .ok (.istore 4, 2) := by decide +kernel
theorem dL_isPutBack_41 : decode cL_isPutBack 41 = .ok (.aload_n 0, 1) := by decide +kernel
theorem dL_isPutBack_42 : decode cL_isPutBack 42 = .ok (.iload_n 1, 1) := by decide +kernel
theorem dL_isPutBack_43 : decode cL_isPutBack 43 = .ok (.iload_n 2, 1) := by decide +kernel
theorem dL_isPutBack_44 : decode cL_isPutBack 44 = .ok (.invokestatic 191, 3) := by decide +kernel
theorem dL_isPutBack_47 : decode cL_isPutBack 47 = .ok (.istore 5, 2) := by decide +kernel
theorem dL_isPutBack_49 : decode cL_isPutBack 49 = .ok (.iload 5, 2) := by decide +kernel
theorem dL_isPutBack_51 : decode cL_isPutBack 51 = .ok (.ifCond .ge 25, 3) := by decide +kernel
theorem dL_isPutBack_54 : decode cL_isPutBack 54 = .ok (.iload 5, 2) := by decide +kernel
theorem dL_isPutBack_56 : decode cL_isPutBack 56 = .ok (.bipush (-52), 2) := by decide +kernel
theorem dL_isPutBack_58 : decode cL_isPutBack 58 = .ok (.if_icmp .ne 16, 3) := by decide +kernel
theorem dL_isPutBack_61 : decode cL_isPutBack 61 = .ok (.aload_n 0, 1) := by decide +kernel
theorem dL_isPutBack_62 : decode cL_isPutBack 62 = .ok (.invokevirtual 121, 3) := by decide +kernel
theorem dL_isPutBack_65 : decode cL_isPutBack 65 = .ok (.iload 4, 2) := by decide +kernel
theorem dL_isPutBack_67 : decode cL_isPutBack 67 = .ok (.if_icmp .ne 7, 3) := by decide +kernel
theorem dL_isPutBack_70 : decode cL_isPutBack 70 = .ok (.iconst 1, 1) := by decide +kernel
theorem dL_isPutBack_71 : decode cL_isPutBack 71 = .ok (.goto 4, 3) := by decide +kernel
theorem dL_isPutBack_74 : decode cL_isPutBack 74 = .ok (.iconst 0, 1) := by decide +kernel
theorem dL_isPutBack_75 : decode cL_isPutBack 75 = .ok (.ireturn, 1) := by decide +kernel
theorem dL_isPutBack_76 : decode cL_isPutBack 76 = .ok (.aload_n 0, 1) := by decide +kernel
theorem dL_isPutBack_77 : decode cL_isPutBack 77 = .ok (.iload_n 1, 1) := by decide +kernel
theorem dL_isPutBack_78 : decode cL_isPutBack 78 = .ok (.iconst 2, 1) := by decide +kernel
theorem dL_isPutBack_79 : decode cL_isPutBack 79 = .ok (.invokestatic 138, 3) := by decide +kernel
theorem dL_isPutBack_82 : decode cL_isPutBack 82 = .ok (.iload_n 3, 1) := by decide +kernel
theorem dL_isPutBack_83 : decode cL_isPutBack 83 = .ok (.if_icmp .ne 30, 3) := by decide +kernel
theorem dL_isPutBack_86 : decode cL_isPutBack 86 = .ok (.iload 4, 2) := by decide +kernel
theorem dL_isPutBack_88 : decode cL_isPutBack 88 = .ok (.iload 5, 2) := by decide +kernel
theorem dL_isPutBack_90 : decode cL_isPutBack 90 = .ok (.iadd, 1) := by decide +kernel
theorem dL_isPutBack_91 : decode cL_isPutBack 91 = .ok (.sipush 150, 3) := by decide +kernel
theorem dL_isPutBack_94 : decode cL_isPutBack 94 = .ok (.if_icmp .gt 15, 3) := by decide +kernel
theorem dL_isPutBack_97 : decode cL_isPutBack 97 = .ok (.aload_n 0, 1) := by decide +kernel
theorem dL_isPutBack_98 : decode cL_isPutBack 98 = .ok (.invokevirtual 121, 3) := by decide +kernel
theorem dL_isPutBack_101 : decode cL_isPutBack 101 = .ok (.iload 4, 2) := by decide +kernel
theorem dL_isPutBack_103 : decode cL_isPutBack 103 = .ok (.iload 5, 2) := by decide +kernel
theorem dL_isPutBack_105 : decode cL_isPutBack 105 = .ok (.iadd, 1) := by decide +kernel
theorem dL_isPutBack_106 : decode cL_isPutBack 106 = .ok (.if_icmp .ne 7, 3) := by decide +kernel
theorem dL_isPutBack_109 : decode cL_isPutBack 109 = .ok (.iconst 1, 1) := by decide +kernel
theorem dL_isPutBack_110 : decode cL_isPutBack 110 = .ok (.goto 4, 3) := by decide +kernel
theorem dL_isPutBack_113 : decode cL_isPutBack 113 = .ok (.iconst 0, 1) := by decide +kernel
theorem dL_isPutBack_114 : decode cL_isPutBack 114 = .ok (.istore 6, 2) := by decide +kernel
theorem dL_isPutBack_116 : decode cL_isPutBack 116 = .ok (.iload 6, 2) := by decide +kernel
theorem dL_isPutBack_118 : decode cL_isPutBack 118 = .ok (.ifCond .eq 23, 3) := by decide +kernel
theorem dL_isPutBack_121 : decode cL_isPutBack 121 = .ok (.aload_n 0, 1) := by decide +kernel
theorem dL_isPutBack_122 : decode cL_isPutBack 122 = .ok (.invokestatic 132, 3) := by decide +kernel
theorem dL_isPutBack_125 : decode cL_isPutBack 125 = .ok (.ifCond .lt 16, 3) := by decide +kernel
theorem dL_isPutBack_128 : decode cL_isPutBack 128 = .ok (.aload_n 0, 1) := by decide +kernel
theorem dL_isPutBack_129 : decode cL_isPutBack 129 = .ok (.invokevirtual 121, 3) := by decide +kernel
theorem dL_isPutBack_132 : decode cL_isPutBack 132 = .ok (.iload 4, 2) := by decide +kernel
theorem dL_isPutBack_134 : decode cL_isPutBack 134 = .ok (.if_icmp .ne 7, 3) := by decide +kernel
theorem dL_isPutBack_137 : decode cL_isPutBack 137 = .ok (.iconst 1, 1) := by decide +kernel
theorem dL_isPutBack_138 : decode cL_isPutBack 138 = .ok (.goto 4, 3) := by decide +kernel
theorem dL_isPutBack_141 : decode cL_isPutBack 141 = .ok (.iconst 0, 1) := by decide +kernel
theorem dL_isPutBack_142 : decode cL_isPutBack 142 = .ok (.ireturn, 1) := by decide +kernel
theorem dL_types_0 : decode cL_types 0 = .ok (.aload_n 0, 1) := by decide +kernel
theorem dL_types_1 : decode cL_types 1 = .ok (.iload_n 1, 1) := by decide +kernel
theorem dL_types_2 : decode cL_types 2 = .ok (.invokestatic 193, 3) := by decide +kernel
theorem dL_types_5 : decode cL_types 5 = .ok (.ifCond .le 7, 3) := by decide +kernel
theorem dL_types_8 : decode cL_types 8 = .ok (.iconst 1, 1) := by decide +kernel
theorem dL_types_9 : decode cL_types 9 = .ok (.goto 4, 3) := by decide +kernel
theorem dL_types_12 : decode cL_types 12 = .ok (.iconst 0, 1) := by decide +kernel
theorem dL_types_13 : decode cL_types 13 = .ok (.istore 7, 2) := by decide +kernel
theorem dL_types_15 : decode cL_types 15 = .ok (.iconst 0, 1) := by decide +kernel
theorem dL_types_16 : decode cL_types 16 = .ok (.istore 8, 2) := by decide +kernel
theorem dL_types_18 : decode cL_types 18 = .ok (.iload 8, 2) := by decide +kernel
theorem dL_types_20 : decode cL_types 20 = .ok (.iload_n 2, 1) := by decide +kernel
theorem dL_types_21 : decode cL_types 21 = .ok (.if_icmp .ge 116, 3) := by decide +kernel
theorem dL_types_24 : decode cL_types 24 = .ok (.iload 7, 2) := by decide +kernel
theorem dL_types_26 : decode cL_types 26 = .ok (.ifCond .eq 111, 3) := by decide +kernel
theorem dL_types_29 : decode cL_types 29 = .ok (.iload 8, 2) := by decide +kernel
theorem dL_types_31 : decode cL_types 31 = .ok (.ifCond .ne 7, 3) := by decide +kernel
theorem dL_types_34 : decode cL_types 34 = .ok (.iload_n 3, 1) := by decide +kernel
theorem dL_types_35 : decode cL_types 35 = .ok (.goto 27, 3) := by decide +kernel
theorem dL_types_38 : decode cL_types 38 = .ok (.iload 8, 2) := by decide +kernel
theorem dL_types_40 : decode cL_types 40 = .ok (.iconst 1, 1) := by decide +kernel
theorem dL_types_41 : decode cL_types 41 = .ok (.if_icmp .ne 8, 3) := by decide +kernel
theorem dL_types_44 : decode cL_types 44 = .ok (.iload 4, 2) := by decide +kernel
theorem dL_types_46 : decode cL_types 46 = .ok (.goto 16, 3) := by decide +kernel
theorem dL_types_49 : decode cL_types 49 = .ok (.iload 8, 2) := by decide +kernel
theorem dL_types_51 : decode cL_types 51 = .ok (.iconst 2, 1) := by decide +kernel
theorem dL_types_52 : decode cL_types 52 = .ok (.if_icmp .ne 8, 3) := by decide +kernel
theorem dL_types_55 : decode cL_types 55 = .ok (.iload 5, 2) := by decide +kernel
theorem dL_types_57 : decode cL_types 57 = .ok (.goto 5, 3) := by decide +kernel
theorem dL_types_60 : decode cL_types 60 = .ok (.iload 6, 2) := by decide +kernel
theorem dL_types_62 : decode cL_types 62 = .ok (.istore 9, 2) := by decide +kernel
theorem dL_types_64 : decode cL_types 64 = .ok (.aload_n 0, 1) := by decide +kernel
theorem dL_types_65 : decode cL_types 65 = .ok (.bipush 32, 2) := by decide +kernel
theorem dL_types_67 : decode cL_types 67 = .ok (.invokestatic 193, 3) := by decide +kernel
theorem dL_types_70 : decode cL_types 70 = .ok (.ifCond .le 58, 3) := by decide +kernel
theorem dL_types_73 : decode cL_types 73 = .ok (.aload_n 0, 1) := by decide +kernel
theorem dL_types_74 : decode cL_types 74 = .ok (.bipush 48, 2) := by decide +kernel
theorem dL_types_76 : decode cL_types 76 = .ok (.iload 9, 2) := by decide +kernel
theorem dL_types_78 : decode cL_types 78 = .ok (.bipush 100, 2) := by decide +kernel
theorem dL_types_80 : decode cL_types 80 = .ok (.idiv, 1) := by decide +kernel
theorem dL_types_81 : decode cL_types 81 = .ok (.bipush 10, 2) := by decide +kernel
theorem dL_types_83 : decode cL_types 83 = .ok (.irem, 1) := by decide +kernel
theorem dL_types_84 : decode cL_types 84 = .ok (.iadd, 1) := by decide +kernel
theorem dL_types_85 : decode cL_types 85 = .ok (.invokestatic 193, 3) := by decide +kernel
theorem dL_types_88 : decode cL_types 88 = .ok (.ifCond .le 40, 3) := by decide +kernel
theorem dL_types_91 : decode cL_types 91 = .ok (.aload_n 0, 1) := by decide +kernel
theorem dL_types_92 : decode cL_types 92 = .ok (.bipush 48, 2) := by decide +kernel
theorem dL_types_94 : decode cL_types 94 = .ok (.iload 9, 2) := by decide +kernel
theorem dL_types_96 : decode cL_types 96 = .ok (.bipush 10, 2) := by decide +kernel
theorem dL_types_98 : decode cL_types 98 = .ok (.idiv, 1) := by decide +kernel
theorem dL_types_99 : decode cL_types 99 = .ok (.bipush 10, 2) := by decide +kernel
theorem dL_types_101 : decode cL_types 101 = .ok (.irem, 1) := by decide +kernel
theorem dL_types_102 : decode cL_types 102 = .ok (.iadd, 1) := by decide +kernel
theorem dL_types_103 : decode cL_types 103 = .ok (.invokestatic 193, 3) := by decide +kernel
theorem dL_types_106 : decode cL_types 106 = .ok (.ifCond .le 22, 3) := by decide +kernel
theorem dL_types_109 : decode cL_types 109 = .ok (.aload_n 0, 1) := by decide +kernel
theorem dL_types_110 : decode cL_types 110 = .ok (.bipush 48, 2) := by decide +kernel
theorem dL_types_112 : decode cL_types 112 = .ok (.iload 9, 2) := by decide +kernel
theorem dL_types_114 : decode cL_types 114 = .ok (.bipush 10, 2) := by decide +kernel
theorem dL_types_116 : decode cL_types 116 = .ok (.irem, 1) := by decide +kernel
theorem dL_types_117 : decode cL_types 117 = .ok (.iadd, 1) := by decide +kernel
theorem dL_types_118 : decode cL_types 118 = .ok (.invokestatic 193, 3) := by decide +kernel
theorem dL_types_121 : decode cL_types 121 = .ok (.ifCond .le 7, 3) := by decide +kernel
theorem dL_types_124 : decode cL_types 124 = .ok (.iconst 1, 1) := by decide +kernel
theorem dL_types_125 : decode cL_types 125 = .ok (.goto 4, 3) := by decide +kernel
theorem dL_types_128 : decode cL_types 128 = .ok (.iconst 0, 1) := by decide +kernel
theorem dL_types_129 : decode cL_types 129 = .ok (.istore 7, 2) := by decide +kernel
theorem dL_types_131 : decode cL_types 131 = .ok (.iinc 8 1, 3) := by decide +kernel
theorem dL_types_134 : decode cL_types 134 = .ok (.goto (-116), 3) := by decide +kernel
theorem dL_types_137 : decode cL_types 137 = .ok (.iload 7, 2) := by decide +kernel
theorem dL_types_139 : decode cL_types 139 = .ok (.ifCond .eq 16, 3) := by decide +kernel
theorem dL_types_142 : decode cL_types 142 = .ok (.aload_n 0, 1) := by decide +kernel
theorem dL_types_143 : decode cL_types 143 = .ok (.bipush 59, 2) := by decide +kernel
theorem dL_types_145 : decode cL_types 145 = .ok (.invokestatic 193, 3) := by decide +kernel
theorem dL_types_148 : decode cL_types 148 = .ok (.ifCond .le 7, 3) := by decide +kernel
theorem dL_types_151 : decode cL_types 151 = .ok (.iconst 1, 1) := by decide +kernel
theorem dL_types_152 : decode cL_types 152 = .ok (.goto 4, 3) := by decide +kernel
theorem dL_types_155 : decode cL_types 155 = .ok (.iconst 0, 1) := by decide +kernel
theorem dL_types_156 : decode cL_types 156 = .ok (.ireturn, 1) := by decide +kernel
theorem dL_areOrders_0 : decode cL_areOrders 0 = .ok (.aload_n 0, 1) := by decide +kernel
theorem dL_areOrders_1 : decode cL_areOrders 1 = .ok (.invokestatic 151, 3) := by decide +kernel
theorem dL_areOrders_4 : decode cL_areOrders 4 = .ok (.lstore 6, 2) := by decide +kernel
theorem dL_areOrders_6 : decode cL_areOrders 6 = .ok (.aload_n 0, 1) := by decide +kernel
theorem dL_areOrders_7 : decode cL_areOrders 7 = .ok (.invokevirtual 203, 3) := by decide +kernel
theorem dL_areOrders_10 : decode cL_areOrders 10 = .ok (.ifCond .lt 67, 3) := by decide +kernel
theorem dL_areOrders_13 : decode cL_areOrders 13 = .ok (.aload_n 0, 1) := by decide +kernel
theorem dL_areOrders_14 : decode cL_areOrders 14 = .ok (.bipush 112, 2) := by decide +kernel
theorem dL_areOrders_16 : decode cL_areOrders 16 = .ok (.iconst 1, 1) := by decide +kernel
theorem dL_areOrders_17 : decode cL_areOrders 17 = .ok (.iload 4, 2) := by decide +kernel
theorem dL_areOrders_19 : decode cL_areOrders 19 = .ok (.iconst 4, 1) := by decide +kernel
theorem dL_areOrders_20 : decode cL_areOrders 20 = .ok (.irem, 1) := by decide +kernel
theorem dL_areOrders_21 : decode cL_areOrders 21 = .ok (.iconst 0, 1) := by decide +kernel
theorem dL_areOrders_22 : decode cL_areOrders 22 = .ok (.iconst 0, 1) := by decide +kernel
theorem dL_areOrders_23 : decode cL_areOrders 23 = .ok (.iconst 0, 1) := by decide +kernel
theorem dL_areOrders_24 : decode cL_areOrders 24 = .ok (.invokestatic 206, 3) := by decide +kernel
theorem dL_areOrders_27 : decode cL_areOrders 27 = .ok (.ifCond .eq 50, 3) := by decide +kernel
theorem dL_areOrders_30 : decode cL_areOrders 30 = .ok (.aload_n 0, 1) := by decide +kernel
theorem dL_areOrders_31 : decode cL_areOrders 31 = .ok (.bipush 113, 2) := by decide +kernel
theorem dL_areOrders_33 : decode cL_areOrders 33 = .ok (.iconst 4, 1) := by decide +kernel
theorem dL_areOrders_34 : decode cL_areOrders 34 = .ok (.iload_n 1, 1) := by decide +kernel
theorem dL_areOrders_35 : decode cL_areOrders 35 = .ok (.iload_n 2, 1) := by decide +kernel
theorem dL_areOrders_36 : decode cL_areOrders 36 = .ok (.iconst 1, 1) := by decide +kernel
theorem dL_areOrders_37 : decode cL_areOrders 37 = .ok (.iload 4, 2) := by decide +kernel
theorem dL_areOrders_39 : decode cL_areOrders 39 = .ok (.bipush 9, 2) := by decide +kernel
theorem dL_areOrders_41 : decode cL_areOrders 41 = .ok (.irem, 1) := by decide +kernel
theorem dL_areOrders_42 : decode cL_areOrders 42 = .ok (.iadd, 1) := by decide +kernel
theorem dL_areOrders_43 : decode cL_areOrders 43 = .ok (.iload 5, 2) := by decide +kernel
theorem dL_areOrders_45 : decode cL_areOrders 45 = .ok (.ifCond .eq 7, 3) := by decide +kernel
theorem dL_areOrders_48 : decode cL_areOrders 48 = .ok (.iconst 1, 1) := by decide +kernel
theorem dL_areOrders_49 : decode cL_areOrders 49 = .ok (.goto 4, 3) := by decide +kernel
theorem dL_areOrders_52 : decode cL_areOrders 52 = .ok (.iconst 0, 1) := by decide +kernel
theorem dL_areOrders_53 : decode cL_areOrders 53 = .ok (.invokestatic 206, 3) := by decide +kernel
theorem dL_areOrders_56 : decode cL_areOrders 56 = .ok (.ifCond .eq 21, 3) := by decide +kernel
theorem dL_areOrders_59 : decode cL_areOrders 59 = .ok (.aload_n 0, 1) := by decide +kernel
theorem dL_areOrders_60 : decode cL_areOrders 60 = .ok (.bipush 98, 2) := by decide +kernel
theorem dL_areOrders_62 : decode cL_areOrders 62 = .ok (.iconst 1, 1) := by decide +kernel
theorem dL_areOrders_63 : decode cL_areOrders 63 = .ok (.iload_n 3, 1) := by decide +kernel
theorem dL_areOrders_64 : decode cL_areOrders 64 = .ok (.iconst 0, 1) := by decide +kernel
theorem dL_areOrders_65 : decode cL_areOrders 65 = .ok (.iconst 0, 1) := by decide +kernel
theorem dL_areOrders_66 : decode cL_areOrders 66 = .ok (.iconst 0, 1) := by decide +kernel
theorem dL_areOrders_67 : decode cL_areOrders 67 = .ok (.invokestatic 206, 3) := by decide +kernel
theorem dL_areOrders_70 : decode cL_areOrders 70 = .ok (.ifCond .eq 7, 3) := by decide +kernel
theorem dL_areOrders_73 : decode cL_areOrders 73 = .ok (.iconst 1, 1) := by decide +kernel
theorem dL_areOrders_74 : decode cL_areOrders 74 = .ok (.goto 4, 3) := by decide +kernel
theorem dL_areOrders_77 : decode cL_areOrders 77 = .ok (.iconst 0, 1) := by decide +kernel
theorem dL_areOrders_78 : decode cL_areOrders 78 = .ok (.istore 8, 2) := by decide +kernel
theorem dL_areOrders_80 : decode cL_areOrders 80 = .ok (.aload_n 0, 1) := by decide +kernel
theorem dL_areOrders_81 : decode cL_areOrders 81 = .ok (.invokevirtual 210, 3) := by decide +kernel
theorem dL_areOrders_84 : decode cL_areOrders 84 = .ok (.istore 9, 2) := by decide +kernel
theorem dL_areOrders_86 : decode cL_areOrders 86 = .ok (.aload_n 0, 1) := by decide +kernel
theorem dL_areOrders_87 : decode cL_areOrders 87 = .ok (.invokestatic 151, 3) := by decide +kernel
theorem dL_areOrders_90 : decode cL_areOrders 90 = .ok (.lstore 10, 2) := by decide +kernel
theorem dL_areOrders_92 : decode cL_areOrders 92 = .ok (.iload 8, 2) := by decide +kernel
theorem dL_areOrders_94 : decode cL_areOrders 94 = .ok (.ifCond .eq 57, 3) := by decide +kernel
theorem dL_areOrders_97 : decode cL_areOrders 97 = .ok (.iload 9, 2) := by decide +kernel
theorem dL_areOrders_99 : decode cL_areOrders 99 = .ok (.iconst 3, 1) := by decide +kernel
theorem dL_areOrders_100 : decode cL_areOrders 100 = .ok (.if_icmp .ne 13, 3) := by decide +kernel
theorem dL_areOrders_103 : decode cL_areOrders 103 = .ok (.aload_n 0, 1) := by decide +kernel
theorem dL_areOrders_104 : decode cL_areOrders 104 = .ok (.invokestatic 132, 3) := by decide +kernel
theorem dL_areOrders_107 : decode cL_areOrders 107 = .ok (.ifCond .lt 44, 3) := by decide +kernel
theorem dL_areOrders_110 : decode cL_areOrders 110 = .ok (.goto 27, 3) := by decide +kernel
theorem dL_areOrders_113 : decode cL_areOrders 113 = .ok (.iload 9, 2) := by decide +kernel
theorem dL_areOrders_115 : decode cL_areOrders 115 = .ok (.sipush (-1001), 3) := by decide +kernel
theorem dL_areOrders_118 : decode cL_areOrders 118 = .ok (.if_icmp .eq 11, 3) := by decide +kernel
theorem dL_areOrders_121 : decode cL_areOrders 121 = .ok (.iload 9, 2) := by decide +kernel
theorem dL_areOrders_123 : decode cL_areOrders 123 = .ok (.sipush (-1002), 3) := by decide +kernel
theorem dL_areOrders_126 : decode cL_areOrders 126 = .ok (.if_icmp .ne 25, 3) := by decide +kernel
theorem dL_areOrders_129 : decode cL_areOrders 129 = .ok (.lload 10, 2) := by decide +kernel
theorem dL_areOrders_131 : decode cL_areOrders 131 = .ok (.lload 6, 2) := by decide +kernel
theorem dL_areOrders_133 : decode cL_areOrders 133 = .ok (.lcmp, 1) := by decide +kernel
theorem dL_areOrders_134 : decode cL_areOrders 134 = .ok (.ifCond .ne 17, 3) := by decide +kernel
theorem dL_areOrders_137 : decode cL_areOrders 137 = .ok (.aload_n 0, 1) := by decide +kernel
theorem dL_areOrders_138 : decode cL_areOrders 138 = .ok (.invokestatic 151, 3) := by decide +kernel
theorem dL_areOrders_141 : decode cL_areOrders 141 = .ok (.lload 6, 2) := by decide +kernel
theorem dL_areOrders_143 : decode cL_areOrders 143 = .ok (.lcmp, 1) := by decide +kernel
theorem dL_areOrders_144 : decode cL_areOrders 144 = .ok (.ifCond .ne 7, 3) := by decide +kernel
theorem dL_areOrders_147 : decode cL_areOrders 147 = .ok (.iconst 1, 1) := by decide +kernel
theorem dL_areOrders_148 : decode cL_areOrders 148 = .ok (.goto 4, 3) := by decide +kernel
theorem dL_areOrders_151 : decode cL_areOrders 151 = .ok (.iconst 0, 1) := by decide +kernel
theorem dL_areOrders_152 : decode cL_areOrders 152 = .ok (.istore 8, 2) := by decide +kernel
theorem dL_areOrders_154 : decode cL_areOrders 154 = .ok (.iconst 0, 1) := by decide +kernel
theorem dL_areOrders_155 : decode cL_areOrders 155 = .ok (.istore 12, 2) := by decide +kernel
theorem dL_areOrders_157 : decode cL_areOrders 157 = .ok (.iload 8, 2) := by decide +kernel
theorem dL_areOrders_159 : decode cL_areOrders 159 = .ok (.ifCond .eq 51, 3) := by decide +kernel
theorem dL_areOrders_162 : decode cL_areOrders 162 = .ok (.aload_n 0, 1) := by decide +kernel
theorem dL_areOrders_163 : decode cL_areOrders 163 = .ok (.iload 4, 2) := by decide +kernel
theorem dL_areOrders_165 : decode cL_areOrders 165 = .ok (.iconst 4, 1) := by decide +kernel
theorem dL_areOrders_166 : decode cL_areOrders 166 = .ok (.irem, 1) := by decide +kernel
theorem dL_areOrders_167 : decode cL_areOrders 167 = .ok (.invokestatic 127, 3) := by decide +kernel
theorem dL_areOrders_170 : decode cL_areOrders 170 = .ok (.ifCond .lt 40, 3) := by decide +kernel
theorem dL_areOrders_173 : decode cL_areOrders 173 = .ok (.iconst 1, 1) := by decide +kernel
theorem dL_areOrders_174 : decode cL_areOrders 174 = .ok (.istore 12, 2) := by decide +kernel
theorem dL_areOrders_176 : decode cL_areOrders 176 = .ok (.aload_n 0, 1) := by decide +kernel
theorem dL_areOrders_177 : decode cL_areOrders 177 = .ok (.iload_n 1, 1) := by decide +kernel
theorem dL_areOrders_178 : decode cL_areOrders 178 = .ok (.iload_n 2, 1) := by decide +kernel
theorem dL_areOrders_179 : decode cL_areOrders 179 = .ok (.iconst 1, 1) := by decide +kernel
theorem dL_areOrders_180 : decode cL_areOrders 180 = .ok (.iload 4, 2) := by decide +kernel
theorem dL_areOrders_182 : decode cL_areOrders 182 = .ok (.bipush 9, 2) := by decide +kernel
theorem dL_areOrders_184 : decode cL_areOrders 184 = .ok (.irem, 1) := by decide +kernel
theorem dL_areOrders_185 : decode cL_areOrders 185 = .ok (.iadd, 1) := by decide +kernel
theorem dL_areOrders_186 : decode cL_areOrders 186 = .ok (.iload 5, 2) := by decide +kernel
theorem dL_areOrders_188 : decode cL_areOrders 188 = .ok (.invokestatic 166, 3) := by decide +kernel
theorem dL_areOrders_191 : decode cL_areOrders 191 = .ok (.iconst (-1), 1) := by decide +kernel
theorem dL_areOrders_192 : decode cL_areOrders 192 = .ok (.if_icmp .lt 18, 3) := by decide +kernel
theorem dL_areOrders_195 : decode cL_areOrders 195 = .ok (.aload_n 0, 1) := by decide +kernel
theorem dL_areOrders_196 : decode cL_areOrders 196 = .ok (.iload_n 3, 1) := by decide +kernel
theorem dL_areOrders_197 : decode cL_areOrders 197 = .ok (.invokestatic 172, 3) := by decide +kernel
theorem dL_areOrders_200 : decode cL_areOrders 200 = .ok (.ifCond .lt 7, 3) := by decide +kernel
theorem dL_areOrders_203 : decode cL_areOrders 203 = .ok (.iconst 3, 1) := by decide +kernel
theorem dL_areOrders_204 : decode cL_areOrders 204 = .ok (.goto 4, 3) := by decide +kernel
theorem dL_areOrders_207 : decode cL_areOrders 207 = .ok (.iconst 2, 1) := by decide +kernel
theorem dL_areOrders_208 : decode cL_areOrders 208 = .ok (.istore 12, 2) := by decide +kernel
theorem dL_areOrders_210 : decode cL_areOrders 210 = .ok (.iload 8, 2) := by decide +kernel
theorem dL_areOrders_212 : decode cL_areOrders 212 = .ok (.ifCond .eq 43, 3) := by decide +kernel
theorem dL_areOrders_215 : decode cL_areOrders 215 = .ok (.iload 9, 2) := by decide +kernel
theorem dL_areOrders_217 : decode cL_areOrders 217 = .ok (.iconst 3, 1) := by decide +kernel
theorem dL_areOrders_218 : decode cL_areOrders 218 = .ok (.if_icmp .ne 22, 3) := by decide +kernel
theorem dL_areOrders_221 : decode cL_areOrders 221 = .ok (.iload 12, 2) := by decide +kernel
theorem dL_areOrders_223 : decode cL_areOrders 223 = .ok (.iconst 3, 1) := by decide +kernel
theorem dL_areOrders_224 : decode cL_areOrders 224 = .ok (.if_icmp .ne 31, 3) := by decide +kernel
theorem dL_areOrders_227 : decode cL_areOrders 227 = .ok (.aload_n 0, 1) := by decide +kernel
theorem dL_areOrders_228 : decode cL_areOrders 228 = .ok (.invokestatic 151, 3) := by decide +kernel
theorem dL_areOrders_231 : decode cL_areOrders 231 = .ok (.lload 10, 2) := by decide +kernel
theorem dL_areOrders_233 : decode cL_areOrders 233 = .ok (.lcmp, 1) := by decide +kernel
theorem dL_areOrders_234 : decode cL_areOrders 234 = .ok (.ifCond .ne 21, 3) := by decide +kernel
theorem dL_areOrders_237 : decode cL_areOrders 237 = .ok (.goto 14, 3) := by decide +kernel
theorem dL_areOrders_240 : decode cL_areOrders 240 = .ok (.iload 12, 2) := by decide +kernel
theorem dL_areOrders_242 : decode cL_areOrders 242 = .ok (.sipush (-1000), 3) := by decide +kernel
theorem dL_areOrders_245 : decode cL_areOrders 245 = .ok (.iload 9, 2) := by decide +kernel
theorem dL_areOrders_247 : decode cL_areOrders 247 = .ok (.isub, 1) := by decide +kernel
theorem dL_areOrders_248 : decode cL_areOrders 248 = .ok (.if_icmp .ne 7, 3) := by decide +kernel
theorem dL_areOrders_251 : decode cL_areOrders 251 = .ok (.iconst 1, 1) := by decide +kernel
theorem dL_areOrders_252 : decode cL_areOrders 252 = .ok (.goto 4, 3) := by decide +kernel
theorem dL_areOrders_255 : decode cL_areOrders 255 = .ok (.iconst 0, 1) := by decide +kernel
theorem dL_areOrders_256 : decode cL_areOrders 256 = .ok (.istore 8, 2) := by decide +kernel
theorem dL_areOrders_258 : decode cL_areOrders 258 = .ok (.iconst 0, 1) := by decide +kernel
theorem dL_areOrders_259 : decode cL_areOrders 259 = .ok (.istore 13, 2) := by decide +kernel
theorem dL_areOrders_261 : decode cL_areOrders 261 = .ok (.iload 13, 2) := by decide +kernel
theorem dL_areOrders_263 : decode cL_areOrders 263 = .ok (.iload 12, 2) := by decide +kernel
theorem dL_areOrders_265 : decode cL_areOrders 265 = .ok (.if_icmp .ge 28, 3) := by decide +kernel
theorem dL_areOrders_268 : decode cL_areOrders 268 = .ok (.iload 8, 2) := by decide +kernel
theorem dL_areOrders_270 : decode cL_areOrders 270 = .ok (.ifCond .eq 23, 3) := by decide +kernel
theorem dL_areOrders_273 : decode cL_areOrders 273 = .ok (.aload_n 0, 1) := by decide +kernel
theorem dL_areOrders_274 : decode cL_areOrders 274 = .ok (.invokestatic 132, 3) := by decide +kernel
theorem dL_areOrders_277 : decode cL_areOrders 277 = .ok (.ifCond .lt 7, 3) := by decide +kernel
theorem dL_areOrders_280 : decode cL_areOrders 280 = .ok (.iconst 1, 1) := by decide +kernel
theorem dL_areOrders_281 : decode cL_areOrders 281 = .ok (.goto 4, 3) := by decide +kernel
theorem dL_areOrders_284 : decode cL_areOrders 284 = .ok (.iconst 0, 1) := by decide +kernel
theorem dL_areOrders_285 : decode cL_areOrders 285 = .ok (.istore 8, 2) := by decide +kernel
theorem dL_areOrders_287 : decode cL_areOrders 287 = .ok (.iinc 13 1, 3) := by decide +kernel
theorem dL_areOrders_290 : decode cL_areOrders 290 = .ok (.goto (-29), 3) := by decide +kernel
theorem dL_areOrders_293 : decode cL_areOrders 293 = .ok (.iload 8, 2) := by decide +kernel
theorem dL_areOrders_295 : decode cL_areOrders 295 = .ok (.ifCond .eq 24, 3) := by decide +kernel
theorem dL_areOrders_298 : decode cL_areOrders 298 = .ok (.aload_n 0, 1) := by decide +kernel
theorem dL_areOrders_299 : decode cL_areOrders 299 = .ok (.invokestatic 151, 3) := by decide +kernel
theorem dL_areOrders_302 : decode cL_areOrders 302 = .ok (.lload 6, 2) := by decide +kernel
theorem dL_areOrders_304 : decode cL_areOrders 304 = .ok (.lcmp, 1) := by decide +kernel
theorem dL_areOrders_305 : decode cL_areOrders 305 = .ok (.ifCond .ne 14, 3) := by decide +kernel
theorem dL_areOrders_308 : decode cL_areOrders 308 = .ok (.aload_n 0, 1) := by decide +kernel
theorem dL_areOrders_309 : decode cL_areOrders 309 = .ok (.invokevirtual 203, 3) := by decide +kernel
theorem dL_areOrders_312 : decode cL_areOrders 312 = .ok (.ifCond .le 7, 3) := by decide +kernel
theorem dL_areOrders_315 : decode cL_areOrders 315 = .ok (.iconst 1, 1) := by decide +kernel
theorem dL_areOrders_316 : decode cL_areOrders 316 = .ok (.goto 4, 3) := by decide +kernel
theorem dL_areOrders_319 : decode cL_areOrders 319 = .ok (.iconst 0, 1) := by decide +kernel
theorem dL_areOrders_320 : decode cL_areOrders 320 = .ok (.ireturn, 1) := by decide +kernel
theorem dL_law_0 : decode cL_law 0 = .ok (.new 10, 3) := by decide +kernel
theorem dL_law_3 : decode cL_law 3 = .ok (.dup, 1) := by decide +kernel
theorem dL_law_4 : decode cL_law 4 = .ok (.invokespecial 213, 3) := by decide +kernel
theorem dL_law_7 : decode cL_law 7 = .ok (.astore_n 1, 1) := by decide +kernel
theorem dL_law_8 : decode cL_law 8 = .ok (.aload_n 1, 1) := by decide +kernel
theorem dL_law_9 : decode cL_law 9 = .ok (.invokestatic 132, 3) := by decide +kernel
theorem dL_law_12 : decode cL_law 12 = .ok (.bipush (-52), 2) := by decide +kernel
theorem dL_law_14 : decode cL_law 14 = .ok (.if_icmp .ne 22, 3) := by decide +kernel
theorem dL_law_17 : decode cL_law 17 = .ok (.aload_n 1, 1) := by decide +kernel
theorem dL_law_18 : decode cL_law 18 = .ok (.iconst 0, 1) := by decide +kernel
theorem dL_law_19 : decode cL_law 19 = .ok (.invokestatic 127, 3) := by decide +kernel
theorem dL_law_22 : decode cL_law 22 = .ok (.ifCond .ne 14, 3) := by decide +kernel
theorem dL_law_25 : decode cL_law 25 = .ok (.aload_n 1, 1) := by decide +kernel
theorem dL_law_26 : decode cL_law 26 = .ok (.invokestatic 214, 3) := by decide +kernel
theorem dL_law_29 : decode cL_law 29 = .ok (.ifCond .eq 7, 3) := by decide +kernel
theorem dL_law_32 : decode cL_law 32 = .ok (.iconst 1, 1) := by decide +kernel
theorem dL_law_33 : decode cL_law 33 = .ok (.goto 4, 3) := by decide +kernel
theorem dL_law_36 : decode cL_law 36 = .ok (.iconst 0, 1) := by decide +kernel
theorem dL_law_37 : decode cL_law 37 = .ok (.istore_n 2, 1) := by decide +kernel
theorem dL_law_38 : decode cL_law 38 = .ok (.iconst 1, 1) := by decide +kernel
theorem dL_law_39 : decode cL_law 39 = .ok (.istore_n 3, 1) := by decide +kernel
theorem dL_law_40 : decode cL_law 40 = .ok (.iload_n 3, 1) := by decide +kernel
theorem dL_law_41 : decode cL_law 41 = .ok (.bipush 8, 2) := by decide +kernel
theorem dL_law_43 : decode cL_law 43 = .ok (.if_icmp .ge 41, 3) := by decide +kernel
theorem dL_law_46 : decode cL_law 46 = .ok (.iload_n 2, 1) := by decide +kernel
theorem dL_law_47 : decode cL_law 47 = .ok (.ifCond .eq 37, 3) := by decide +kernel
theorem dL_law_50 : decode cL_law 50 = .ok (.aload_n 1, 1) := by decide +kernel
theorem dL_law_51 : decode cL_law 51 = .ok (.aload_n 0, 1) := by decide +kernel
theorem dL_law_52 : decode cL_law 52 = .ok (.bipush 40, 2) := by decide +kernel
theorem dL_law_54 : decode cL_law 54 = .ok (.invokestatic 218, 3) := by decide +kernel
theorem dL_law_57 : decode cL_law 57 = .ok (.iconst 3, 1) := by decide +kernel
theorem dL_law_58 : decode cL_law 58 = .ok (.iload_n 3, 1) := by decide +kernel
theorem dL_law_59 : decode cL_law 59 = .ok (.imul, 1) := by decide +kernel
theorem dL_law_60 : decode cL_law 60 = .ok (.ishr, 1) := by decide +kernel
theorem dL_law_61 : decode cL_law 61 = .ok (.iload_n 3, 1) := by decide +kernel
theorem dL_law_62 : decode cL_law 62 = .ok (.invokestatic 222, 3) := by decide +kernel
theorem dL_law_65 : decode cL_law 65 = .ok (.invokestatic 155, 3) := by decide +kernel
theorem dL_law_68 : decode cL_law 68 = .ok (.iload_n 3, 1) := by decide +kernel
theorem dL_law_69 : decode cL_law 69 = .ok (.if_icmp .ne 7, 3) := by decide +kernel
theorem dL_law_72 : decode cL_law 72 = .ok (.iconst 1, 1) := by decide +kernel
theorem dL_law_73 : decode cL_law 73 = .ok (.goto 4, 3) := by decide +kernel
theorem dL_law_76 : decode cL_law 76 = .ok (.iconst 0, 1) := by decide +kernel
theorem dL_law_77 : decode cL_law 77 = .ok (.istore_n 2, 1) := by decide +kernel
theorem dL_law_78 : decode cL_law 78 = .ok (.iinc 3 1, 3) := by decide +kernel
theorem dL_law_81 : decode cL_law 81 = .ok (.goto (-41), 3) := by decide +kernel
theorem dL_law_84 : decode cL_law 84 = .ok (.iconst 0, 1) := by decide +kernel
theorem dL_law_85 : decode cL_law 85 = .ok (.istore_n 3, 1) := by decide +kernel
theorem dL_law_86 : decode cL_law 86 = .ok (.iload_n 3, 1) := by decide +kernel
theorem dL_law_87 : decode cL_law 87 = .ok (.bipush 22, 2) := by decide +kernel
theorem dL_law_89 : decode cL_law 89 = .ok (.if_icmp .ge 566, 3) := by decide +kernel
theorem dL_law_92 : decode cL_law 92 = .ok (.iload_n 2, 1) := by decide +kernel
theorem dL_law_93 : decode cL_law 93 = .ok (.ifCond .eq 562, 3) := by decide +kernel
theorem dL_law_96 : decode cL_law 96 = .ok (.aload_n 0, 1) := by decide +kernel
theorem dL_law_97 : decode cL_law 97 = .ok (.iload_n 3, 1) := by decide +kernel
theorem dL_law_98 : decode cL_law 98 = .ok (.invokestatic 218, 3) := by decide +kernel
theorem dL_law_101 : decode cL_law 101 = .ok (.istore 4, 2) := by decide +kernel
theorem dL_law_103 : decode cL_law 103 = .ok (.iload 4, 2) := by decide +kernel
theorem dL_law_105 : decode cL_law 105 = .ok (.iconst 5, 1) := by decide +kernel
theorem dL_law_106 : decode cL_law 106 = .ok (.ishr, 1) := by decide +kernel
theorem dL_law_107 : decode cL_law 107 = .ok (.bipush 6, 2) := by decide +kernel
theorem dL_law_109 : decode cL_law 109 = .ok (.invokestatic 222, 3) := by decide +kernel
theorem dL_law_112 : decode cL_law 112 = .ok (.istore 5, 2) := by decide +kernel
theorem dL_law_114 : decode cL_law 114 = .ok (.iload 4, 2) := by decide +kernel
theorem dL_law_116 : decode cL_law 116 = .ok (.bipush 8, 2) := by decide +kernel
theorem dL_law_118 : decode cL_law 118 = .ok (.ishr, 1) := by decide +kernel
theorem dL_law_119 : decode cL_law 119 = .ok (.bipush 8, 2) := by decide +kernel
theorem dL_law_121 : decode cL_law 121 = .ok (.invokestatic 222, 3) := by decide +kernel
theorem dL_law_124 : decode cL_law 124 = .ok (.istore 6, 2) := by decide +kernel
theorem dL_law_126 : decode cL_law 126 = .ok (.iload 4, 2) := by decide +kernel
theorem dL_law_128 : decode cL_law 128 = .ok (.bipush 11, 2) := by decide +kernel
theorem dL_law_130 : decode cL_law 130 = .ok (.ishr, 1) := by decide +kernel
theorem dL_law_131 : decode cL_law 131 = .ok (.bipush 6, 2) := by decide +kernel
theorem dL_law_133 : decode cL_law 133 = .ok (.invokestatic 222, 3) := by decide +kernel
theorem dL_law_136 : decode cL_law 136 = .ok (.istore 7, 2) := by decide +kernel
theorem dL_law_138 : decode cL_law 138 = .ok (.iload 4, 2) := by decide +kernel
theorem dL_law_140 : decode cL_law 140 = .ok (.bipush 14, 2) := by decide +kernel
theorem dL_law_142 : decode cL_law 142 = .ok (.ishr, 1) := by decide +kernel
theorem dL_law_143 : decode cL_law 143 = .ok (.sipush 1000, 3) := by decide +kernel
theorem dL_law_146 : decode cL_law 146 = .ok (.invokestatic 222, 3) := by decide +kernel
theorem dL_law_149 : decode cL_law 149 = .ok (.istore 8, 2) := by decide +kernel
theorem dL_law_151 : decode cL_law 151 = .ok (.iconst 0, 1) := by decide +kernel
theorem dL_law_152 : decode cL_law 152 = .ok (.istore 9, 2) := by decide +kernel
theorem dL_law_154 : decode cL_law 154 = .ok (.iload 4, 2) := by decide +kernel
theorem dL_law_156 : decode cL_law 156 = .ok (.bipush 13, 2) := by decide +kernel
theorem dL_law_158 : decode cL_law 158 = .ok (.invokestatic 222, 3) := by decide +kernel
theorem dL_law_161 : decode cL_law 161 = .ok (.tableswitch 293 0 11 #[63, 63, 63, 63, 99, 99, 118, 132, 149, 184, 222, 255], 63) := by decide +kernel
theorem dL_law_224 : decode cL_law 224 = .ok (.aload_n 1, 1) := by decide +kernel
theorem dL_law_225 : decode cL_law 225 = .ok (.iload 5, 2) := by decide +kernel
theorem dL_law_227 : decode cL_law 227 = .ok (.iload 6, 2) := by decide +kernel
theorem dL_law_229 : decode cL_law 229 = .ok (.iconst 1, 1) := by decide +kernel
theorem dL_law_230 : decode cL_law 230 = .ok (.iload 8, 2) := by decide +kernel
theorem dL_law_232 : decode cL_law 232 = .ok (.bipush 30, 2) := by decide +kernel
theorem dL_law_234 : decode cL_law 234 = .ok (.irem, 1) := by decide +kernel
theorem dL_law_235 : decode cL_law 235 = .ok (.iadd, 1) := by decide +kernel
theorem dL_law_236 : decode cL_law 236 = .ok (.iload 4, 2) := by decide +kernel
theorem dL_law_238 : decode cL_law 238 = .ok (.bipush 24, 2) := by decide +kernel
theorem dL_law_240 : decode cL_law 240 = .ok (.ishr, 1) := by decide +kernel
theorem dL_law_241 : decode cL_law 241 = .ok (.iconst 1, 1) := by decide +kernel
theorem dL_law_242 : decode cL_law 242 = .ok (.iand, 1) := by decide +kernel
theorem dL_law_243 : decode cL_law 243 = .ok (.iconst 1, 1) := by decide +kernel
theorem dL_law_244 : decode cL_law 244 = .ok (.if_icmp .ne 7, 3) := by decide +kernel
theorem dL_law_247 : decode cL_law 247 = .ok (.iconst 1, 1) := by decide +kernel
theorem dL_law_248 : decode cL_law 248 = .ok (.goto 4, 3) := by decide +kernel
theorem dL_law_251 : decode cL_law 251 = .ok (.iconst 0, 1) := by decide +kernel
theorem dL_law_252 : decode cL_law 252 = .ok (.invokestatic 166, 3) := by decide +kernel
theorem dL_law_255 : decode cL_law 255 = .ok (.istore 9, 2) := by decide +kernel
theorem dL_law_257 : decode cL_law 257 = .ok (.goto 206, 3) := by decide +kernel
theorem dL_law_260 : decode cL_law 260 = .ok (.aload_n 1, 1) := by decide +kernel
theorem dL_law_261 : decode cL_law 261 = .ok (.iload 7, 2) := by decide +kernel
theorem dL_law_263 : decode cL_law 263 = .ok (.iload 6, 2) := by decide +kernel
theorem dL_law_265 : decode cL_law 265 = .ok (.iload 8, 2) := by decide +kernel
theorem dL_law_267 : decode cL_law 267 = .ok (.iconst 3, 1) := by decide +kernel
theorem dL_law_268 : decode cL_law 268 = .ok (.irem, 1) := by decide +kernel
theorem dL_law_269 : decode cL_law 269 = .ok (.iload 8, 2) := by decide +kernel
theorem dL_law_271 : decode cL_law 271 = .ok (.invokestatic 176, 3) := by decide +kernel
theorem dL_law_274 : decode cL_law 274 = .ok (.istore 9, 2) := by decide +kernel
theorem dL_law_276 : decode cL_law 276 = .ok (.goto 187, 3) := by decide +kernel
theorem dL_law_279 : decode cL_law 279 = .ok (.aload_n 1, 1) := by decide +kernel
theorem dL_law_280 : decode cL_law 280 = .ok (.iload 8, 2) := by decide +kernel
theorem dL_law_282 : decode cL_law 282 = .ok (.bipush 12, 2) := by decide +kernel
theorem dL_law_284 : decode cL_law 284 = .ok (.irem, 1) := by decide +kernel
theorem dL_law_285 : decode cL_law 285 = .ok (.invokestatic 127, 3) := by decide +kernel
theorem dL_law_288 : decode cL_law 288 = .ok (.istore 9, 2) := by decide +kernel
theorem dL_law_290 : decode cL_law 290 = .ok (.goto 173, 3) := by decide +kernel
theorem dL_law_293 : decode cL_law 293 = .ok (.aload_n 1, 1) := by decide +kernel
theorem dL_law_294 : decode cL_law 294 = .ok (.iload 6, 2) := by decide +kernel
theorem dL_law_296 : decode cL_law 296 = .ok (.iload 8, 2) := by decide +kernel
theorem dL_law_298 : decode cL_law 298 = .ok (.iconst 3, 1) := by decide +kernel
theorem dL_law_299 : decode cL_law 299 = .ok (.irem, 1) := by decide +kernel
theorem dL_law_300 : decode cL_law 300 = .ok (.iload 8, 2) := by decide +kernel
theorem dL_law_302 : decode cL_law 302 = .ok (.invokestatic 163, 3) := by decide +kernel
theorem dL_law_305 : decode cL_law 305 = .ok (.istore 9, 2) := by decide +kernel
theorem dL_law_307 : decode cL_law 307 = .ok (.goto 156, 3) := by decide +kernel
theorem dL_law_310 : decode cL_law 310 = .ok (.iload 4, 2) := by decide +kernel
theorem dL_law_312 : decode cL_law 312 = .ok (.bipush 24, 2) := by decide +kernel
theorem dL_law_314 : decode cL_law 314 = .ok (.ishr, 1) := by decide +kernel
theorem dL_law_315 : decode cL_law 315 = .ok (.iconst 1, 1) := by decide +kernel
theorem dL_law_316 : decode cL_law 316 = .ok (.iand, 1) := by decide +kernel
theorem dL_law_317 : decode cL_law 317 = .ok (.iconst 1, 1) := by decide +kernel
theorem dL_law_318 : decode cL_law 318 = .ok (.if_icmp .ne 16, 3) := by decide +kernel
theorem dL_law_321 : decode cL_law 321 = .ok (.aload_n 1, 1) := by decide +kernel
theorem dL_law_322 : decode cL_law 322 = .ok (.iload 7, 2) := by decide +kernel
theorem dL_law_324 : decode cL_law 324 = .ok (.iload 8, 2) := by decide +kernel
theorem dL_law_326 : decode cL_law 326 = .ok (.iconst 3, 1) := by decide +kernel
theorem dL_law_327 : decode cL_law 327 = .ok (.irem, 1) := by decide +kernel
theorem dL_law_328 : decode cL_law 328 = .ok (.invokestatic 179, 3) := by decide +kernel
theorem dL_law_331 : decode cL_law 331 = .ok (.goto 9, 3) := by decide +kernel
theorem dL_law_334 : decode cL_law 334 = .ok (.aload_n 1, 1) := by decide +kernel
theorem dL_law_335 : decode cL_law 335 = .ok (.iload 7, 2) := by decide +kernel
theorem dL_law_337 : decode cL_law 337 = .ok (.invokestatic 172, 3) := by decide +kernel
theorem dL_law_340 : decode cL_law 340 = .ok (.istore 9, 2) := by decide +kernel
theorem dL_law_342 : decode cL_law 342 = .ok (.goto 121, 3) := by decide +kernel
theorem dL_law_345 : decode cL_law 345 = .ok (.iload 4, 2) := by decide +kernel
theorem dL_law_347 : decode cL_law 347 = .ok (.bipush 24, 2) := by decide +kernel
theorem dL_law_349 : decode cL_law 349 = .ok (.ishr, 1) := by decide +kernel
theorem dL_law_350 : decode cL_law 350 = .ok (.iconst 1, 1) := by decide +kernel
theorem dL_law_351 : decode cL_law 351 = .ok (.iand, 1) := by decide +kernel
theorem dL_law_352 : decode cL_law 352 = .ok (.iconst 1, 1) := by decide +kernel
theorem dL_law_353 : decode cL_law 353 = .ok (.if_icmp .ne 12, 3) := by decide +kernel
theorem dL_law_356 : decode cL_law 356 = .ok (.aload_n 1, 1) := by decide +kernel
theorem dL_law_357 : decode cL_law 357 = .ok (.iload 5, 2) := by decide +kernel
theorem dL_law_359 : decode cL_law 359 = .ok (.invokestatic 168, 3) := by decide +kernel
theorem dL_law_362 : decode cL_law 362 = .ok (.goto 16, 3) := by decide +kernel
theorem dL_law_365 : decode cL_law 365 = .ok (.aload_n 1, 1) := by decide +kernel
theorem dL_law_366 : decode cL_law 366 = .ok (.iload 7, 2) := by decide +kernel
theorem dL_law_368 : decode cL_law 368 = .ok (.iconst 1, 1) := by decide +kernel
theorem dL_law_369 : decode cL_law 369 = .ok (.iload 8, 2) := by decide +kernel
theorem dL_law_371 : decode cL_law 371 = .ok (.bipush 20, 2) := by decide +kernel
theorem dL_law_373 : decode cL_law 373 = .ok (.irem, 1) := by decide +kernel
theorem dL_law_374 : decode cL_law 374 = .ok (.iadd, 1) := by decide +kernel
theorem dL_law_375 : decode cL_law 375 = .ok (.invokestatic 170, 3) := by decide +kernel
theorem dL_law_378 : decode cL_law 378 = .ok (.istore 9, 2) := by decide +kernel
theorem dL_law_380 : decode cL_law 380 = .ok (.goto 83, 3) := by decide +kernel
theorem dL_law_383 : decode cL_law 383 = .ok (.iload 4, 2) := by decide +kernel
theorem dL_law_385 : decode cL_law 385 = .ok (.bipush 24, 2) := by decide +kernel
theorem dL_law_387 : decode cL_law 387 = .ok (.ishr, 1) := by decide +kernel
theorem dL_law_388 : decode cL_law 388 = .ok (.iconst 1, 1) := by decide +kernel
theorem dL_law_389 : decode cL_law 389 = .ok (.iand, 1) := by decide +kernel
theorem dL_law_390 : decode cL_law 390 = .ok (.iconst 1, 1) := by decide +kernel
theorem dL_law_391 : decode cL_law 391 = .ok (.if_icmp .ne 12, 3) := by decide +kernel
theorem dL_law_394 : decode cL_law 394 = .ok (.aload_n 1, 1) := by decide +kernel
theorem dL_law_395 : decode cL_law 395 = .ok (.iload 6, 2) := by decide +kernel
theorem dL_law_397 : decode cL_law 397 = .ok (.invokestatic 157, 3) := by decide +kernel
theorem dL_law_400 : decode cL_law 400 = .ok (.goto 11, 3) := by decide +kernel
theorem dL_law_403 : decode cL_law 403 = .ok (.aload_n 1, 1) := by decide +kernel
theorem dL_law_404 : decode cL_law 404 = .ok (.iload 6, 2) := by decide +kernel
theorem dL_law_406 : decode cL_law 406 = .ok (.iload 5, 2) := by decide +kernel
theorem dL_law_408 : decode cL_law 408 = .ok (.invokestatic 159, 3) := by decide +kernel
theorem dL_law_411 : decode cL_law 411 = .ok (.istore 9, 2) := by decide +kernel
theorem dL_law_413 : decode cL_law 413 = .ok (.goto 50, 3) := by decide +kernel
theorem dL_law_416 : decode cL_law 416 = .ok (.iload 4, 2) := by decide +kernel
theorem dL_law_418 : decode cL_law 418 = .ok (.bipush 24, 2) := by decide +kernel
theorem dL_law_420 : decode cL_law 420 = .ok (.ishr, 1) := by decide +kernel
theorem dL_law_421 : decode cL_law 421 = .ok (.iconst 1, 1) := by decide +kernel
theorem dL_law_422 : decode cL_law 422 = .ok (.iand, 1) := by decide +kernel
theorem dL_law_423 : decode cL_law 423 = .ok (.iconst 1, 1) := by decide +kernel
theorem dL_law_424 : decode cL_law 424 = .ok (.if_icmp .ne 12, 3) := by decide +kernel
theorem dL_law_427 : decode cL_law 427 = .ok (.aload_n 1, 1) := by decide +kernel
theorem dL_law_428 : decode cL_law 428 = .ok (.iload 6, 2) := by decide +kernel
theorem dL_law_430 : decode cL_law 430 = .ok (.invokestatic 155, 3) := by decide +kernel
theorem dL_law_433 : decode cL_law 433 = .ok (.goto 16, 3) := by decide +kernel
theorem dL_law_436 : decode cL_law 436 = .ok (.aload_n 1, 1) := by decide +kernel
theorem dL_law_437 : decode cL_law 437 = .ok (.iload 7, 2) := by decide +kernel
theorem dL_law_439 : decode cL_law 439 = .ok (.iconst 0, 1) := by decide +kernel
theorem dL_law_440 : decode cL_law 440 = .ok (.iload 8, 2) := by decide +kernel
theorem dL_law_442 : decode cL_law 442 = .ok (.iconst 3, 1) := by decide +kernel
theorem dL_law_443 : decode cL_law 443 = .ok (.irem, 1) := by decide +kernel
theorem dL_law_444 : decode cL_law 444 = .ok (.iload 8, 2) := by decide +kernel
theorem dL_law_446 : decode cL_law 446 = .ok (.invokestatic 176, 3) := by decide +kernel
theorem dL_law_449 : decode cL_law 449 = .ok (.istore 9, 2) := by decide +kernel
theorem dL_law_451 : decode cL_law 451 = .ok (.goto 12, 3) := by decide +kernel
theorem dL_law_454 : decode cL_law 454 = .ok (.aload_n 1, 1) := by decide +kernel
theorem dL_law_455 : decode cL_law 455 = .ok (.iload 6, 2) := by decide +kernel
theorem dL_law_457 : decode cL_law 457 = .ok (.iconst 0, 1) := by decide +kernel
theorem dL_law_458 : decode cL_law 458 = .ok (.invokestatic 191, 3) := by decide +kernel
theorem dL_law_461 : decode cL_law 461 = .ok (.istore 9, 2) := by decide +kernel
theorem dL_law_463 : decode cL_law 463 = .ok (.iload 9, 2) := by decide +kernel
theorem dL_law_465 : decode cL_law 465 = .ok (.iconst (-1), 1) := by decide +kernel
theorem dL_law_466 : decode cL_law 466 = .ok (.if_icmp .ge 24, 3) := by decide +kernel
theorem dL_law_469 : decode cL_law 469 = .ok (.iload 9, 2) := by decide +kernel
theorem dL_law_471 : decode cL_law 471 = .ok (.bipush (-52), 2) := by decide +kernel
theorem dL_law_473 : decode cL_law 473 = .ok (.if_icmp .eq 17, 3) := by decide +kernel
theorem dL_law_476 : decode cL_law 476 = .ok (.iload 9, 2) := by decide +kernel
theorem dL_law_478 : decode cL_law 478 = .ok (.bipush (-53), 2) := by decide +kernel
theorem dL_law_480 : decode cL_law 480 = .ok (.if_icmp .eq 10, 3) := by decide +kernel
theorem dL_law_483 : decode cL_law 483 = .ok (.iload 9, 2) := by decide +kernel
theorem dL_law_485 : decode cL_law 485 = .ok (.bipush (-51), 2) := by decide +kernel
theorem dL_law_487 : decode cL_law 487 = .ok (.if_icmp .ne 38, 3) := by decide +kernel
theorem dL_law_490 : decode cL_law 490 = .ok (.aload_n 1, 1) := by decide +kernel
theorem dL_law_491 : decode cL_law 491 = .ok (.invokestatic 225, 3) := by decide +kernel
theorem dL_law_494 : decode cL_law 494 = .ok (.ifCond .eq 31, 3) := by decide +kernel
theorem dL_law_497 : decode cL_law 497 = .ok (.aload_n 1, 1) := by decide +kernel
theorem dL_law_498 : decode cL_law 498 = .ok (.invokestatic 228, 3) := by decide +kernel
theorem dL_law_501 : decode cL_law 501 = .ok (.ifCond .eq 24, 3) := by decide +kernel
theorem dL_law_504 : decode cL_law 504 = .ok (.aload_n 1, 1) := by decide +kernel
theorem dL_law_505 : decode cL_law 505 = .ok (.invokestatic 231, 3) := by decide +kernel
theorem dL_law_508 : decode cL_law 508 = .ok (.ifCond .eq 17, 3) := by decide +kernel
theorem dL_law_511 : decode cL_law 511 = .ok (.aload_n 1, 1) := by decide +kernel
theorem dL_law_512 : decode cL_law 512 = .ok (.iload 6, 2) := by decide +kernel
theorem dL_law_514 : decode cL_law 514 = .ok (.iconst 0, 1) := by decide +kernel
theorem dL_law_515 : decode cL_law 515 = .ok (.invokestatic 234, 3) := by decide +kernel
theorem dL_law_518 : decode cL_law 518 = .ok (.ifCond .eq 7, 3) := by decide +kernel
theorem dL_law_521 : decode cL_law 521 = .ok (.iconst 1, 1) := by decide +kernel
theorem dL_law_522 : decode cL_law 522 = .ok (.goto 4, 3) := by decide +kernel
theorem dL_law_525 : decode cL_law 525 = .ok (.iconst 0, 1) := by decide +kernel
theorem dL_law_526 : decode cL_law 526 = .ok (.istore_n 2, 1) := by decide +kernel
theorem dL_law_527 : decode cL_law 527 = .ok (.iload_n 2, 1) := by decide +kernel
theorem dL_law_528 : decode cL_law 528 = .ok (.ifCond .eq 82, 3) := by decide +kernel
theorem dL_law_531 : decode cL_law 531 = .ok (.iload_n 3, 1) := by decide +kernel
theorem dL_law_532 : decode cL_law 532 = .ok (.iconst 3, 1) := by decide +kernel
theorem dL_law_533 : decode cL_law 533 = .ok (.irem, 1) := by decide +kernel
theorem dL_law_534 : decode cL_law 534 = .ok (.ifCond .ne 10, 3) := by decide +kernel
theorem dL_law_537 : decode cL_law 537 = .ok (.aload_n 1, 1) := by decide +kernel
theorem dL_law_538 : decode cL_law 538 = .ok (.invokestatic 237, 3) := by decide +kernel
theorem dL_law_541 : decode cL_law 541 = .ok (.ifCond .eq 69, 3) := by decide +kernel
theorem dL_law_544 : decode cL_law 544 = .ok (.aload_n 1, 1) := by decide +kernel
theorem dL_law_545 : decode cL_law 545 = .ok (.iload 7, 2) := by decide +kernel
theorem dL_law_547 : decode cL_law 547 = .ok (.invokestatic 240, 3) := by decide +kernel
theorem dL_law_550 : decode cL_law 550 = .ok (.ifCond .eq 60, 3) := by decide +kernel
theorem dL_law_553 : decode cL_law 553 = .ok (.iload_n 3, 1) := by decide +kernel
theorem dL_law_554 : decode cL_law 554 = .ok (.iconst 4, 1) := by decide +kernel
theorem dL_law_555 : decode cL_law 555 = .ok (.irem, 1) := by decide +kernel
theorem dL_law_556 : decode cL_law 556 = .ok (.iconst 1, 1) := by decide +kernel
theorem dL_law_557 : decode cL_law 557 = .ok (.if_icmp .ne 34, 3) := by decide +kernel
theorem dL_law_560 : decode cL_law 560 = .ok (.aload_n 1, 1) := by decide +kernel
theorem dL_law_561 : decode cL_law 561 = .ok (.iload 5, 2) := by decide +kernel
theorem dL_law_563 : decode cL_law 563 = .ok (.iload 6, 2) := by decide +kernel
theorem dL_law_565 : decode cL_law 565 = .ok (.iload 7, 2) := by decide +kernel
theorem dL_law_567 : decode cL_law 567 = .ok (.iload 8, 2) := by decide +kernel
theorem dL_law_569 : decode cL_law 569 = .ok (.iload 4, 2) := by decide +kernel
theorem dL_law_571 : decode cL_law 571 = .ok (.bipush 23, 2) := by decide +kernel
theorem dL_law_573 : decode cL_law 573 = .ok (.ishr, 1) := by decide +kernel
theorem dL_law_574 : decode cL_law 574 = .ok (.iconst 1, 1) := by decide +kernel
theorem dL_law_575 : decode cL_law 575 = .ok (.iand, 1) := by decide +kernel
theorem dL_law_576 : decode cL_law 576 = .ok (.iconst 1, 1) := by decide +kernel
theorem dL_law_577 : decode cL_law 577 = .ok (.if_icmp .ne 7, 3) := by decide +kernel
theorem dL_law_580 : decode cL_law 580 = .ok (.iconst 1, 1) := by decide +kernel
theorem dL_law_581 : decode cL_law 581 = .ok (.goto 4, 3) := by decide +kernel
theorem dL_law_584 : decode cL_law 584 = .ok (.iconst 0, 1) := by decide +kernel
theorem dL_law_585 : decode cL_law 585 = .ok (.invokestatic 244, 3) := by decide +kernel
theorem dL_law_588 : decode cL_law 588 = .ok (.ifCond .eq 22, 3) := by decide +kernel
theorem dL_law_591 : decode cL_law 591 = .ok (.iload_n 3, 1) := by decide +kernel
theorem dL_law_592 : decode cL_law 592 = .ok (.bipush 7, 2) := by decide +kernel
theorem dL_law_594 : decode cL_law 594 = .ok (.irem, 1) := by decide +kernel
theorem dL_law_595 : decode cL_law 595 = .ok (.iconst 2, 1) := by decide +kernel
theorem dL_law_596 : decode cL_law 596 = .ok (.if_icmp .ne 10, 3) := by decide +kernel
theorem dL_law_599 : decode cL_law 599 = .ok (.aload_n 1, 1) := by decide +kernel
theorem dL_law_600 : decode cL_law 600 = .ok (.invokestatic 214, 3) := by decide +kernel
theorem dL_law_603 : decode cL_law 603 = .ok (.ifCond .eq 7, 3) := by decide +kernel
theorem dL_law_606 : decode cL_law 606 = .ok (.iconst 1, 1) := by decide +kernel
theorem dL_law_607 : decode cL_law 607 = .ok (.goto 4, 3) := by decide +kernel
theorem dL_law_610 : decode cL_law 610 = .ok (.iconst 0, 1) := by decide +kernel
theorem dL_law_611 : decode cL_law 611 = .ok (.istore_n 2, 1) := by decide +kernel
theorem dL_law_612 : decode cL_law 612 = .ok (.aload_n 1, 1) := by decide +kernel
theorem dL_law_613 : decode cL_law 613 = .ok (.iload 5, 2) := by decide +kernel
theorem dL_law_615 : decode cL_law 615 = .ok (.invokestatic 248, 3) := by decide +kernel
theorem dL_law_618 : decode cL_law 618 = .ok (.istore 10, 2) := by decide +kernel
theorem dL_law_620 : decode cL_law 620 = .ok (.iload_n 2, 1) := by decide +kernel
theorem dL_law_621 : decode cL_law 621 = .ok (.ifCond .eq 26, 3) := by decide +kernel
theorem dL_law_624 : decode cL_law 624 = .ok (.iload 10, 2) := by decide +kernel
theorem dL_law_626 : decode cL_law 626 = .ok (.bipush (-52), 2) := by decide +kernel
theorem dL_law_628 : decode cL_law 628 = .ok (.if_icmp .eq 15, 3) := by decide +kernel
theorem dL_law_631 : decode cL_law 631 = .ok (.iload 10, 2) := by decide +kernel
theorem dL_law_633 : decode cL_law 633 = .ok (.ifCond .lt 14, 3) := by decide +kernel
theorem dL_law_636 : decode cL_law 636 = .ok (.iload 10, 2) := by decide +kernel
theorem dL_law_638 : decode cL_law 638 = .ok (.bipush 64, 2) := by decide +kernel
theorem dL_law_640 : decode cL_law 640 = .ok (.if_icmp .ge 7, 3) := by decide +kernel
theorem dL_law_643 : decode cL_law 643 = .ok (.iconst 1, 1) := by decide +kernel
theorem dL_law_644 : decode cL_law 644 = .ok (.goto 4, 3) := by decide +kernel
theorem dL_law_647 : decode cL_law 647 = .ok (.iconst 0, 1) := by decide +kernel
theorem dL_law_648 : decode cL_law 648 = .ok (.istore_n 2, 1) := by decide +kernel
theorem dL_law_649 : decode cL_law 649 = .ok (.iinc 3 1, 3) := by decide +kernel
theorem dL_law_652 : decode cL_law 652 = .ok (.goto (-566), 3) := by decide +kernel
theorem dL_law_655 : decode cL_law 655 = .ok (.iload_n 2, 1) := by decide +kernel
theorem dL_law_656 : decode cL_law 656 = .ok (.ifCond .eq 24, 3) := by decide +kernel
theorem dL_law_659 : decode cL_law 659 = .ok (.aload_n 1, 1) := by decide +kernel
theorem dL_law_660 : decode cL_law 660 = .ok (.iconst 0, 1) := by decide +kernel
theorem dL_law_661 : decode cL_law 661 = .ok (.invokestatic 195, 3) := by decide +kernel
theorem dL_law_664 : decode cL_law 664 = .ok (.bipush 48, 2) := by decide +kernel
theorem dL_law_666 : decode cL_law 666 = .ok (.if_icmp .ne 14, 3) := by decide +kernel
theorem dL_law_669 : decode cL_law 669 = .ok (.aload_n 1, 1) := by decide +kernel
theorem dL_law_670 : decode cL_law 670 = .ok (.invokestatic 214, 3) := by decide +kernel
theorem dL_law_673 : decode cL_law 673 = .ok (.ifCond .eq 7, 3) := by decide +kernel
theorem dL_law_676 : decode cL_law 676 = .ok (.iconst 1, 1) := by decide +kernel
theorem dL_law_677 : decode cL_law 677 = .ok (.goto 4, 3) := by decide +kernel
theorem dL_law_680 : decode cL_law 680 = .ok (.iconst 0, 1) := by decide +kernel
theorem dL_law_681 : decode cL_law 681 = .ok (.ireturn, 1) := by decide +kernel
