theorem dL_cell_0 : decode cL_cell 0 = .ok (.iload_n 1, 1) := by decide +kernel
theorem dL_cell_1 : decode cL_cell 1 = .ok (.aload_n 0, 1) := by decide +kernel
theorem dL_cell_2 : decode cL_cell 2 = .ok (.arraylength, 1) := by decide +kernel
theorem dL_cell_3 : decode cL_cell 3 = .ok (.if_icmp .ge 9, 3) := by decide +kernel
theorem dL_cell_6 : decode cL_cell 6 = .ok (.aload_n 0, 1) := by decide +kernel
theorem dL_cell_7 : decode cL_cell 7 = .ok (.iload_n 1, 1) := by decide +kernel
theorem dL_cell_8 : decode cL_cell 8 = .ok (.iaload, 1) := by decide +kernel
theorem dL_cell_9 : decode cL_cell 9 = .ok (.goto 15, 3) := by decide +kernel
theorem dL_cell_12 : decode cL_cell 12 = .ok (.sipush 7919, 3) := by decide +kernel
theorem dL_cell_15 : decode cL_cell 15 = .ok (.iload_n 1, 1) := by decide +kernel
theorem dL_cell_16 : decode cL_cell 16 = .ok (.iconst 3, 1) := by decide +kernel
theorem dL_cell_17 : decode cL_cell 17 = .ok (.iadd, 1) := by decide +kernel
theorem dL_cell_18 : decode cL_cell 18 = .ok (.imul, 1) := by decide +kernel
theorem dL_cell_19 : decode cL_cell 19 = .ok (.iload_n 1, 1) := by decide +kernel
theorem dL_cell_20 : decode cL_cell 20 = .ok (.bipush 11, 2) := by decide +kernel
theorem dL_cell_22 : decode cL_cell 22 = .ok (.iadd, 1) := by decide +kernel
theorem dL_cell_23 : decode cL_cell 23 = .ok (.imul, 1) := by decide +kernel
theorem dL_cell_24 : decode cL_cell 24 = .ok (.ireturn, 1) := by decide +kernel
theorem dL_low_0 : decode cL_low 0 = .ok (.iload_n 0, 1) := by decide +kernel
theorem dL_low_1 : decode cL_low 1 = .ok (.ldc 7, 2) := by decide +kernel
theorem dL_low_3 : decode cL_low 3 = .ok (.iand, 1) := by decide +kernel
theorem dL_low_4 : decode cL_low 4 = .ok (.iload_n 1, 1) := by decide +kernel
theorem dL_low_5 : decode cL_low 5 = .ok (.irem, 1) := by decide +kernel
theorem dL_low_6 : decode cL_low 6 = .ok (.ireturn, 1) := by decide +kernel
theorem dL_told_0 : decode cL_told 0 = .ok (.ldc2_w 8, 3) := by decide +kernel
theorem dL_told_3 : decode cL_told 3 = .ok (.lstore_n 1, 1) := by decide +kernel
theorem dL_told_4 : decode cL_told 4 = .ok (.iconst 0, 1) := by decide +kernel
theorem dL_told_5 : decode cL_told 5 = .ok (.istore_n 3, 1) := by decide +kernel
theorem dL_told_6 : decode cL_told 6 = .ok (.iload_n 3, 1) := by decide +kernel
theorem dL_told_7 : decode cL_told 7 = .ok (.bipush 12, 2) := by decide +kernel
theorem dL_told_9 : decode cL_told 9 = .ok (.if_icmp .ge 22, 3) := by decide +kernel
theorem dL_told_12 : decode cL_told 12 = .ok (.ldc2_w 10, 3) := by decide +kernel
theorem dL_told_15 : decode cL_told 15 = .ok (.lload_n 1, 1) := by decide +kernel
theorem dL_told_16 : decode cL_told 16 = .ok (.lmul, 1) := by decide +kernel
theorem dL_told_17 : decode cL_told 17 = .ok (.aload_n 0, 1) := by decide +kernel
theorem dL_told_18 : decode cL_told 18 = .ok (.iload_n 3, 1) := by decide +kernel
theorem dL_told_19 : decode cL_told 19 = .ok (.invokevirtual 12, 3) := by decide +kernel
theorem dL_told_22 : decode cL_told 22 = .ok (.i2l, 1) := by decide +kernel
theorem dL_told_23 : decode cL_told 23 = .ok (.ladd, 1) := by decide +kernel
theorem dL_told_24 : decode cL_told 24 = .ok (.lstore_n 1, 1) := by decide +kernel
theorem dL_told_25 : decode cL_told 25 = .ok (.iinc 3 1, 3) := by decide +kernel
theorem dL_told_28 : decode cL_told 28 = .ok (.goto (-22), 3) := by decide +kernel
theorem dL_told_31 : decode cL_told 31 = .ok (.iconst 0, 1) := by decide +kernel
theorem dL_told_32 : decode cL_told 32 = .ok (.istore_n 3, 1) := by decide +kernel
theorem dL_told_33 : decode cL_told 33 = .ok (.iload_n 3, 1) := by decide +kernel
theorem dL_told_34 : decode cL_told 34 = .ok (.bipush 15, 2) := by decide +kernel
theorem dL_told_36 : decode cL_told 36 = .ok (.if_icmp .ge 27, 3) := by decide +kernel
theorem dL_told_39 : decode cL_told 39 = .ok (.ldc2_w 10, 3) := by decide +kernel
theorem dL_told_42 : decode cL_told 42 = .ok (.lload_n 1, 1) := by decide +kernel
theorem dL_told_43 : decode cL_told 43 = .ok (.lmul, 1) := by decide +kernel
theorem dL_told_44 : decode cL_told 44 = .ok (.aload_n 0, 1) := by decide +kernel
theorem dL_told_45 : decode cL_told 45 = .ok (.iload_n 3, 1) := by decide +kernel
theorem dL_told_46 : decode cL_told 46 = .ok (.iconst 5, 1) := by decide +kernel
theorem dL_told_47 : decode cL_told 47 = .ok (.idiv, 1) := by decide +kernel
theorem dL_told_48 : decode cL_told 48 = .ok (.iload_n 3, 1) := by decide +kernel
theorem dL_told_49 : decode cL_told 49 = .ok (.iconst 5, 1) := by decide +kernel
theorem dL_told_50 : decode cL_told 50 = .ok (.irem, 1) := by decide +kernel
theorem dL_told_51 : decode cL_told 51 = .ok (.invokevirtual 18, 3) := by decide +kernel
theorem dL_told_54 : decode cL_told 54 = .ok (.i2l, 1) := by decide +kernel
theorem dL_told_55 : decode cL_told 55 = .ok (.ladd, 1) := by decide +kernel
theorem dL_told_56 : decode cL_told 56 = .ok (.lstore_n 1, 1) := by decide +kernel
theorem dL_told_57 : decode cL_told 57 = .ok (.iinc 3 1, 3) := by decide +kernel
theorem dL_told_60 : decode cL_told 60 = .ok (.goto (-27), 3) := by decide +kernel
theorem dL_told_63 : decode cL_told 63 = .ok (.iconst 0, 1) := by decide +kernel
theorem dL_told_64 : decode cL_told 64 = .ok (.istore_n 3, 1) := by decide +kernel
theorem dL_told_65 : decode cL_told 65 = .ok (.iload_n 3, 1) := by decide +kernel
theorem dL_told_66 : decode cL_told 66 = .ok (.bipush 12, 2) := by decide +kernel
theorem dL_told_68 : decode cL_told 68 = .ok (.if_icmp .ge 27, 3) := by decide +kernel
theorem dL_told_71 : decode cL_told 71 = .ok (.ldc2_w 10, 3) := by decide +kernel
theorem dL_told_74 : decode cL_told 74 = .ok (.lload_n 1, 1) := by decide +kernel
theorem dL_told_75 : decode cL_told 75 = .ok (.lmul, 1) := by decide +kernel
theorem dL_told_76 : decode cL_told 76 = .ok (.aload_n 0, 1) := by decide +kernel
theorem dL_told_77 : decode cL_told 77 = .ok (.iload_n 3, 1) := by decide +kernel
theorem dL_told_78 : decode cL_told 78 = .ok (.iconst 3, 1) := by decide +kernel
theorem dL_told_79 : decode cL_told 79 = .ok (.idiv, 1) := by decide +kernel
theorem dL_told_80 : decode cL_told 80 = .ok (.iload_n 3, 1) := by decide +kernel
theorem dL_told_81 : decode cL_told 81 = .ok (.iconst 3, 1) := by decide +kernel
theorem dL_told_82 : decode cL_told 82 = .ok (.irem, 1) := by decide +kernel
theorem dL_told_83 : decode cL_told 83 = .ok (.invokevirtual 22, 3) := by decide +kernel
theorem dL_told_86 : decode cL_told 86 = .ok (.i2l, 1) := by decide +kernel
theorem dL_told_87 : decode cL_told 87 = .ok (.ladd, 1) := by decide +kernel
theorem dL_told_88 : decode cL_told 88 = .ok (.lstore_n 1, 1) := by decide +kernel
theorem dL_told_89 : decode cL_told 89 = .ok (.iinc 3 1, 3) := by decide +kernel
theorem dL_told_92 : decode cL_told 92 = .ok (.goto (-27), 3) := by decide +kernel
theorem dL_told_95 : decode cL_told 95 = .ok (.iconst 0, 1) := by decide +kernel
theorem dL_told_96 : decode cL_told 96 = .ok (.istore_n 3, 1) := by decide +kernel
theorem dL_told_97 : decode cL_told 97 = .ok (.iload_n 3, 1) := by decide +kernel
theorem dL_told_98 : decode cL_told 98 = .ok (.sipush 144, 3) := by decide +kernel
theorem dL_told_101 : decode cL_told 101 = .ok (.if_icmp .ge 49, 3) := by decide +kernel
theorem dL_told_104 : decode cL_told 104 = .ok (.ldc2_w 10, 3) := by decide +kernel
theorem dL_told_107 : decode cL_told 107 = .ok (.ldc2_w 10, 3) := by decide +kernel
theorem dL_told_110 : decode cL_told 110 = .ok (.lload_n 1, 1) := by decide +kernel
theorem dL_told_111 : decode cL_told 111 = .ok (.lmul, 1) := by decide +kernel
theorem dL_told_112 : decode cL_told 112 = .ok (.aload_n 0, 1) := by decide +kernel
theorem dL_told_113 : decode cL_told 113 = .ok (.iload_n 3, 1) := by decide +kernel
theorem dL_told_114 : decode cL_told 114 = .ok (.bipush 12, 2) := by decide +kernel
theorem dL_told_116 : decode cL_told 116 = .ok (.irem, 1) := by decide +kernel
theorem dL_told_117 : decode cL_told 117 = .ok (.iload_n 3, 1) := by decide +kernel
theorem dL_told_118 : decode cL_told 118 = .ok (.bipush 12, 2) := by decide +kernel
theorem dL_told_120 : decode cL_told 120 = .ok (.idiv, 1) := by decide +kernel
theorem dL_told_121 : decode cL_told 121 = .ok (.iconst 0, 1) := by decide +kernel
theorem dL_told_122 : decode cL_told 122 = .ok (.invokevirtual 25, 3) := by decide +kernel
theorem dL_told_125 : decode cL_told 125 = .ok (.i2l, 1) := by decide +kernel
theorem dL_told_126 : decode cL_told 126 = .ok (.ladd, 1) := by decide +kernel
theorem dL_told_127 : decode cL_told 127 = .ok (.lmul, 1) := by decide +kernel
theorem dL_told_128 : decode cL_told 128 = .ok (.aload_n 0, 1) := by decide +kernel
theorem dL_told_129 : decode cL_told 129 = .ok (.iload_n 3, 1) := by decide +kernel
theorem dL_told_130 : decode cL_told 130 = .ok (.bipush 12, 2) := by decide +kernel
theorem dL_told_132 : decode cL_told 132 = .ok (.irem, 1) := by decide +kernel
theorem dL_told_133 : decode cL_told 133 = .ok (.iload_n 3, 1) := by decide +kernel
theorem dL_told_134 : decode cL_told 134 = .ok (.bipush 12, 2) := by decide +kernel
theorem dL_told_136 : decode cL_told 136 = .ok (.idiv, 1) := by decide +kernel
theorem dL_told_137 : decode cL_told 137 = .ok (.iconst 1, 1) := by decide +kernel
theorem dL_told_138 : decode cL_told 138 = .ok (.invokevirtual 25, 3) := by decide +kernel
theorem dL_told_141 : decode cL_told 141 = .ok (.i2l, 1) := by decide +kernel
theorem dL_told_142 : decode cL_told 142 = .ok (.ladd, 1) := by decide +kernel
theorem dL_told_143 : decode cL_told 143 = .ok (.lstore_n 1, 1) := by decide +kernel
theorem dL_told_144 : decode cL_told 144 = .ok (.iinc 3 1, 3) := by decide +kernel
theorem dL_told_147 : decode cL_told 147 = .ok (.goto (-50), 3) := by decide +kernel
theorem dL_told_150 : decode cL_told 150 = .ok (.lload_n 1, 1) := by decide +kernel
theorem dL_told_151 : decode cL_told 151 = .ok (.lreturn, 1) := by decide +kernel
theorem dL_act_0 : decode cL_act 0 = .ok (.iload_n 1, 1) := by decide +kernel
theorem dL_act_1 : decode cL_act 1 = .ok (.bipush 15, 2) := by decide +kernel
theorem dL_act_3 : decode cL_act 3 = .ok (.iand, 1) := by decide +kernel
theorem dL_act_4 : decode cL_act 4 = .ok (.tableswitch 273 0 9 #[56, 106, 166, 186, 205, 205, 233, 243, 261, 261], 56) := by decide +kernel
theorem dL_act_60 : decode cL_act 60 = .ok (.iload_n 2, 1) := by decide +kernel
theorem dL_act_61 : decode cL_act 61 = .ok (.iconst 5, 1) := by decide +kernel
theorem dL_act_62 : decode cL_act 62 = .ok (.invokestatic 29, 3) := by decide +kernel
theorem dL_act_65 : decode cL_act 65 = .ok (.istore_n 3, 1) := by decide +kernel
theorem dL_act_66 : decode cL_act 66 = .ok (.iload_n 2, 1) := by decide +kernel
theorem dL_act_67 : decode cL_act 67 = .ok (.bipush 20, 2) := by decide +kernel
theorem dL_act_69 : decode cL_act 69 = .ok (.ishr, 1) := by decide +kernel
theorem dL_act_70 : decode cL_act 70 = .ok (.iconst 3, 1) := by decide +kernel
theorem dL_act_71 : decode cL_act 71 = .ok (.iand, 1) := by decide +kernel
theorem dL_act_72 : decode cL_act 72 = .ok (.ifCond .ne 35, 3) := by decide +kernel
theorem dL_act_75 : decode cL_act 75 = .ok (.aload_n 0, 1) := by decide +kernel
theorem dL_act_76 : decode cL_act 76 = .ok (.iload_n 3, 1) := by decide +kernel
theorem dL_act_77 : decode cL_act 77 = .ok (.iconst 3, 1) := by decide +kernel
theorem dL_act_78 : decode cL_act 78 = .ok (.if_icmp .ge 11, 3) := by decide +kernel
theorem dL_act_81 : decode cL_act 81 = .ok (.iconst 4, 1) := by decide +kernel
theorem dL_act_82 : decode cL_act 82 = .ok (.iconst 2, 1) := by decide +kernel
theorem dL_act_83 : decode cL_act 83 = .ok (.iload_n 3, 1) := by decide +kernel
theorem dL_act_84 : decode cL_act 84 = .ok (.imul, 1) := by decide +kernel
theorem dL_act_85 : decode cL_act 85 = .ok (.iadd, 1) := by decide +kernel
theorem dL_act_86 : decode cL_act 86 = .ok (.goto 15, 3) := by decide +kernel
theorem dL_act_89 : decode cL_act 89 = .ok (.iload_n 3, 1) := by decide +kernel
theorem dL_act_90 : decode cL_act 90 = .ok (.iconst 3, 1) := by decide +kernel
theorem dL_act_91 : decode cL_act 91 = .ok (.if_icmp .ne 8, 3) := by decide +kernel
theorem dL_act_94 : decode cL_act 94 = .ok (.bipush 12, 2) := by decide +kernel
theorem dL_act_96 : decode cL_act 96 = .ok (.goto 5, 3) := by decide +kernel
theorem dL_act_99 : decode cL_act 99 = .ok (.bipush 24, 2) := by decide +kernel
theorem dL_act_101 : decode cL_act 101 = .ok (.invokevirtual 34, 3) := by decide +kernel
theorem dL_act_104 : decode cL_act 104 = .ok (.goto 5, 3) := by decide +kernel
theorem dL_act_107 : decode cL_act 107 = .ok (.bipush (-9), 2) := by decide +kernel
theorem dL_act_109 : decode cL_act 109 = .ok (.ireturn, 1) := by decide +kernel
theorem dL_act_110 : decode cL_act 110 = .ok (.iload_n 2, 1) := by decide +kernel
theorem dL_act_111 : decode cL_act 111 = .ok (.iconst 3, 1) := by decide +kernel
theorem dL_act_112 : decode cL_act 112 = .ok (.invokestatic 29, 3) := by decide +kernel
theorem dL_act_115 : decode cL_act 115 = .ok (.istore 4, 2) := by decide +kernel
theorem dL_act_117 : decode cL_act 117 = .ok (.aload_n 0, 1) := by decide +kernel
theorem dL_act_118 : decode cL_act 118 = .ok (.iload 4, 2) := by decide +kernel
theorem dL_act_120 : decode cL_act 120 = .ok (.iconst 4, 1) := by decide +kernel
theorem dL_act_121 : decode cL_act 121 = .ok (.invokevirtual 18, 3) := by decide +kernel
theorem dL_act_124 : decode cL_act 124 = .ok (.iconst 1, 1) := by decide +kernel
theorem dL_act_125 : decode cL_act 125 = .ok (.if_icmp .eq 13, 3) := by decide +kernel
theorem dL_act_128 : decode cL_act 128 = .ok (.aload_n 0, 1) := by decide +kernel
theorem dL_act_129 : decode cL_act 129 = .ok (.iload 4, 2) := by decide +kernel
theorem dL_act_131 : decode cL_act 131 = .ok (.iconst 3, 1) := by decide +kernel
theorem dL_act_132 : decode cL_act 132 = .ok (.invokevirtual 18, 3) := by decide +kernel
theorem dL_act_135 : decode cL_act 135 = .ok (.ifCond .le 8, 3) := by decide +kernel
theorem dL_act_138 : decode cL_act 138 = .ok (.bipush (-9), 2) := by decide +kernel
theorem dL_act_140 : decode cL_act 140 = .ok (.goto 29, 3) := by decide +kernel
theorem dL_act_143 : decode cL_act 143 = .ok (.aload_n 0, 1) := by decide +kernel
theorem dL_act_144 : decode cL_act 144 = .ok (.iload 4, 2) := by decide +kernel
theorem dL_act_146 : decode cL_act 146 = .ok (.iconst 1, 1) := by decide +kernel
theorem dL_act_147 : decode cL_act 147 = .ok (.iload_n 2, 1) := by decide +kernel
theorem dL_act_148 : decode cL_act 148 = .ok (.iconst 2, 1) := by decide +kernel
theorem dL_act_149 : decode cL_act 149 = .ok (.ishr, 1) := by decide +kernel
theorem dL_act_150 : decode cL_act 150 = .ok (.bipush 9, 2) := by decide +kernel
theorem dL_act_152 : decode cL_act 152 = .ok (.invokestatic 29, 3) := by decide +kernel
theorem dL_act_155 : decode cL_act 155 = .ok (.iadd, 1) := by decide +kernel
theorem dL_act_156 : decode cL_act 156 = .ok (.iload_n 2, 1) := by decide +kernel
theorem dL_act_157 : decode cL_act 157 = .ok (.bipush 6, 2) := by decide +kernel
theorem dL_act_159 : decode cL_act 159 = .ok (.ishr, 1) := by decide +kernel
theorem dL_act_160 : decode cL_act 160 = .ok (.sipush 10000, 3) := by decide +kernel
theorem dL_act_163 : decode cL_act 163 = .ok (.invokestatic 29, 3) := by decide +kernel
theorem dL_act_166 : decode cL_act 166 = .ok (.invokevirtual 37, 3) := by decide +kernel
theorem dL_act_169 : decode cL_act 169 = .ok (.ireturn, 1) := by decide +kernel
theorem dL_act_170 : decode cL_act 170 = .ok (.aload_n 0, 1) := by decide +kernel
theorem dL_act_171 : decode cL_act 171 = .ok (.aload_n 0, 1) := by decide +kernel
theorem dL_act_172 : decode cL_act 172 = .ok (.iconst 2, 1) := by decide +kernel
theorem dL_act_173 : decode cL_act 173 = .ok (.invokevirtual 12, 3) := by decide +kernel
theorem dL_act_176 : decode cL_act 176 = .ok (.iconst 1, 1) := by decide +kernel
theorem dL_act_177 : decode cL_act 177 = .ok (.iadd, 1) := by decide +kernel
theorem dL_act_178 : decode cL_act 178 = .ok (.iload_n 2, 1) := by decide +kernel
theorem dL_act_179 : decode cL_act 179 = .ok (.iconst 2, 1) := by decide +kernel
theorem dL_act_180 : decode cL_act 180 = .ok (.invokestatic 29, 3) := by decide +kernel
theorem dL_act_183 : decode cL_act 183 = .ok (.iadd, 1) := by decide +kernel
theorem dL_act_184 : decode cL_act 184 = .ok (.iconst 3, 1) := by decide +kernel
theorem dL_act_185 : decode cL_act 185 = .ok (.irem, 1) := by decide +kernel
theorem dL_act_186 : decode cL_act 186 = .ok (.invokevirtual 40, 3) := by decide +kernel
theorem dL_act_189 : decode cL_act 189 = .ok (.ireturn, 1) := by decide +kernel
theorem dL_act_190 : decode cL_act 190 = .ok (.aload_n 0, 1) := by decide +kernel
theorem dL_act_191 : decode cL_act 191 = .ok (.iload_n 2, 1) := by decide +kernel
theorem dL_act_192 : decode cL_act 192 = .ok (.iconst 3, 1) := by decide +kernel
theorem dL_act_193 : decode cL_act 193 = .ok (.invokestatic 29, 3) := by decide +kernel
theorem dL_act_196 : decode cL_act 196 = .ok (.iconst 1, 1) := by decide +kernel
theorem dL_act_197 : decode cL_act 197 = .ok (.iload_n 2, 1) := by decide +kernel
theorem dL_act_198 : decode cL_act 198 = .ok (.iconst 2, 1) := by decide +kernel
theorem dL_act_199 : decode cL_act 199 = .ok (.ishr, 1) := by decide +kernel
theorem dL_act_200 : decode cL_act 200 = .ok (.iconst 4, 1) := by decide +kernel
theorem dL_act_201 : decode cL_act 201 = .ok (.invokestatic 29, 3) := by decide +kernel
theorem dL_act_204 : decode cL_act 204 = .ok (.iadd, 1) := by decide +kernel
theorem dL_act_205 : decode cL_act 205 = .ok (.invokevirtual 43, 3) := by decide +kernel
theorem dL_act_208 : decode cL_act 208 = .ok (.ireturn, 1) := by decide +kernel
theorem dL_act_209 : decode cL_act 209 = .ok (.aload_n 0, 1) := by decide +kernel
theorem dL_act_210 : decode cL_act 210 = .ok (.iload_n 2, 1) := by decide +kernel
theorem dL_act_211 : decode cL_act 211 = .ok (.bipush 12, 2) := by decide +kernel
theorem dL_act_213 : decode cL_act 213 = .ok (.invokestatic 29, 3) := by decide +kernel
theorem dL_act_216 : decode cL_act 216 = .ok (.iload_n 2, 1) := by decide +kernel
theorem dL_act_217 : decode cL_act 217 = .ok (.iconst 4, 1) := by decide +kernel
theorem dL_act_218 : decode cL_act 218 = .ok (.ishr, 1) := by decide +kernel
theorem dL_act_219 : decode cL_act 219 = .ok (.bipush 12, 2) := by decide +kernel
theorem dL_act_221 : decode cL_act 221 = .ok (.invokestatic 29, 3) := by decide +kernel
theorem dL_act_224 : decode cL_act 224 = .ok (.iload_n 2, 1) := by decide +kernel
theorem dL_act_225 : decode cL_act 225 = .ok (.bipush 8, 2) := by decide +kernel
theorem dL_act_227 : decode cL_act 227 = .ok (.ishr, 1) := by decide +kernel
theorem dL_act_228 : decode cL_act 228 = .ok (.bipush 10, 2) := by decide +kernel
theorem dL_act_230 : decode cL_act 230 = .ok (.invokestatic 29, 3) := by decide +kernel
theorem dL_act_233 : decode cL_act 233 = .ok (.invokevirtual 46, 3) := by decide +kernel
theorem dL_act_236 : decode cL_act 236 = .ok (.ireturn, 1) := by decide +kernel
theorem dL_act_237 : decode cL_act 237 = .ok (.aload_n 0, 1) := by decide +kernel
theorem dL_act_238 : decode cL_act 238 = .ok (.iload_n 2, 1) := by decide +kernel
theorem dL_act_239 : decode cL_act 239 = .ok (.iconst 3, 1) := by decide +kernel
theorem dL_act_240 : decode cL_act 240 = .ok (.invokestatic 29, 3) := by decide +kernel
theorem dL_act_243 : decode cL_act 243 = .ok (.invokevirtual 49, 3) := by decide +kernel
theorem dL_act_246 : decode cL_act 246 = .ok (.ireturn, 1) := by decide +kernel
theorem dL_act_247 : decode cL_act 247 = .ok (.aload_n 0, 1) := by decide +kernel
theorem dL_act_248 : decode cL_act 248 = .ok (.iconst 3, 1) := by decide +kernel
theorem dL_act_249 : decode cL_act 249 = .ok (.invokevirtual 12, 3) := by decide +kernel
theorem dL_act_252 : decode cL_act 252 = .ok (.ifCond .ne 8, 3) := by decide +kernel
theorem dL_act_255 : decode cL_act 255 = .ok (.bipush (-9), 2) := by decide +kernel
theorem dL_act_257 : decode cL_act 257 = .ok (.goto 7, 3) := by decide +kernel
theorem dL_act_260 : decode cL_act 260 = .ok (.aload_n 0, 1) := by decide +kernel
theorem dL_act_261 : decode cL_act 261 = .ok (.invokevirtual 52, 3) := by decide +kernel
theorem dL_act_264 : decode cL_act 264 = .ok (.ireturn, 1) := by decide +kernel
theorem dL_act_265 : decode cL_act 265 = .ok (.aload_n 0, 1) := by decide +kernel
theorem dL_act_266 : decode cL_act 266 = .ok (.iconst 1, 1) := by decide +kernel
theorem dL_act_267 : decode cL_act 267 = .ok (.iload_n 2, 1) := by decide +kernel
theorem dL_act_268 : decode cL_act 268 = .ok (.iconst 4, 1) := by decide +kernel
theorem dL_act_269 : decode cL_act 269 = .ok (.invokestatic 29, 3) := by decide +kernel
theorem dL_act_272 : decode cL_act 272 = .ok (.iadd, 1) := by decide +kernel
theorem dL_act_273 : decode cL_act 273 = .ok (.invokevirtual 56, 3) := by decide +kernel
theorem dL_act_276 : decode cL_act 276 = .ok (.ireturn, 1) := by decide +kernel
theorem dL_act_277 : decode cL_act 277 = .ok (.aload_n 0, 1) := by decide +kernel
theorem dL_act_278 : decode cL_act 278 = .ok (.iconst 3, 1) := by decide +kernel
theorem dL_act_279 : decode cL_act 279 = .ok (.invokevirtual 12, 3) := by decide +kernel
theorem dL_act_282 : decode cL_act 282 = .ok (.sipush 200, 3) := by decide +kernel
theorem dL_act_285 : decode cL_act 285 = .ok (.if_icmp .ne 8, 3) := by decide +kernel
theorem dL_act_288 : decode cL_act 288 = .ok (.bipush (-9), 2) := by decide +kernel
theorem dL_act_290 : decode cL_act 290 = .ok (.goto 16, 3) := by decide +kernel
theorem dL_act_293 : decode cL_act 293 = .ok (.aload_n 0, 1) := by decide +kernel
theorem dL_act_294 : decode cL_act 294 = .ok (.iload_n 2, 1) := by decide +kernel
theorem dL_act_295 : decode cL_act 295 = .ok (.aload_n 0, 1) := by decide +kernel
theorem dL_act_296 : decode cL_act 296 = .ok (.iconst 0, 1) := by decide +kernel
theorem dL_act_297 : decode cL_act 297 = .ok (.invokevirtual 12, 3) := by decide +kernel
theorem dL_act_300 : decode cL_act 300 = .ok (.invokestatic 29, 3) := by decide +kernel
theorem dL_act_303 : decode cL_act 303 = .ok (.invokevirtual 59, 3) := by decide +kernel
theorem dL_act_306 : decode cL_act 306 = .ok (.ireturn, 1) := by decide +kernel
theorem dL_holds_0 : decode cL_holds 0 = .ok (.iconst 0, 1) := by decide +kernel
theorem dL_holds_1 : decode cL_holds 1 = .ok (.istore_n 1, 1) := by decide +kernel
theorem dL_holds_2 : decode cL_holds 2 = .ok (.iconst 0, 1) := by decide +kernel
theorem dL_holds_3 : decode cL_holds 3 = .ok (.istore_n 2, 1) := by decide +kernel
theorem dL_holds_4 : decode cL_holds 4 = .ok (.iconst 0, 1) := by decide +kernel
theorem dL_holds_5 : decode cL_holds 5 = .ok (.istore_n 3, 1) := by decide +kernel
theorem dL_holds_6 : decode cL_holds 6 = .ok (.iconst 0, 1) := by decide +kernel
theorem dL_holds_7 : decode cL_holds 7 = .ok (.istore 4, 2) := by decide +kernel
theorem dL_holds_9 : decode cL_holds 9 = .ok (.iload 4, 2) := by decide +kernel
theorem dL_holds_11 : decode cL_holds 11 = .ok (.sipush 144, 3) := by decide +kernel
theorem dL_holds_14 : decode cL_holds 14 = .ok (.if_icmp .ge 116, 3) := by decide +kernel
theorem dL_holds_17 : decode cL_holds 17 = .ok (.aload_n 0, 1) := by decide +kernel
theorem dL_holds_18 : decode cL_holds 18 = .ok (.iload 4, 2) := by decide +kernel
theorem dL_holds_20 : decode cL_holds 20 = .ok (.bipush 12, 2) := by decide +kernel
theorem dL_holds_22 : decode cL_holds 22 = .ok (.irem, 1) := by decide +kernel
theorem dL_holds_23 : decode cL_holds 23 = .ok (.iload 4, 2) := by decide +kernel
theorem dL_holds_25 : decode cL_holds 25 = .ok (.bipush 12, 2) := by decide +kernel
theorem dL_holds_27 : decode cL_holds 27 = .ok (.idiv, 1) := by decide +kernel
theorem dL_holds_28 : decode cL_holds 28 = .ok (.iconst 2, 1) := by decide +kernel
theorem dL_holds_29 : decode cL_holds 29 = .ok (.invokevirtual 25, 3) := by decide +kernel
theorem dL_holds_32 : decode cL_holds 32 = .ok (.sipush 10000, 3) := by decide +kernel
theorem dL_holds_35 : decode cL_holds 35 = .ok (.isub, 1) := by decide +kernel
theorem dL_holds_36 : decode cL_holds 36 = .ok (.istore 5, 2) := by decide +kernel
theorem dL_holds_38 : decode cL_holds 38 = .ok (.iload_n 1, 1) := by decide +kernel
theorem dL_holds_39 : decode cL_holds 39 = .ok (.iload 5, 2) := by decide +kernel
theorem dL_holds_41 : decode cL_holds 41 = .ok (.ifCond .ge 9, 3) := by decide +kernel
theorem dL_holds_44 : decode cL_holds 44 = .ok (.iload 5, 2) := by decide +kernel
theorem dL_holds_46 : decode cL_holds 46 = .ok (.ineg, 1) := by decide +kernel
theorem dL_holds_47 : decode cL_holds 47 = .ok (.goto 5, 3) := by decide +kernel
theorem dL_holds_50 : decode cL_holds 50 = .ok (.iload 5, 2) := by decide +kernel
theorem dL_holds_52 : decode cL_holds 52 = .ok (.iadd, 1) := by decide +kernel
theorem dL_holds_53 : decode cL_holds 53 = .ok (.istore_n 1, 1) := by decide +kernel
theorem dL_holds_54 : decode cL_holds 54 = .ok (.iload_n 2, 1) := by decide +kernel
theorem dL_holds_55 : decode cL_holds 55 = .ok (.iload 5, 2) := by decide +kernel
theorem dL_holds_57 : decode cL_holds 57 = .ok (.ifCond .le 7, 3) := by decide +kernel
theorem dL_holds_60 : decode cL_holds 60 = .ok (.iconst 1, 1) := by decide +kernel
theorem dL_holds_61 : decode cL_holds 61 = .ok (.goto 4, 3) := by decide +kernel
theorem dL_holds_64 : decode cL_holds 64 = .ok (.iconst 0, 1) := by decide +kernel
theorem dL_holds_65 : decode cL_holds 65 = .ok (.iadd, 1) := by decide +kernel
theorem dL_holds_66 : decode cL_holds 66 = .ok (.istore_n 2, 1) := by decide +kernel
theorem dL_holds_67 : decode cL_holds 67 = .ok (.iload_n 3, 1) := by decide +kernel
theorem dL_holds_68 : decode cL_holds 68 = .ok (.iload 5, 2) := by decide +kernel
theorem dL_holds_70 : decode cL_holds 70 = .ok (.ifCond .ge 7, 3) := by decide +kernel
theorem dL_holds_73 : decode cL_holds 73 = .ok (.iconst 1, 1) := by decide +kernel
theorem dL_holds_74 : decode cL_holds 74 = .ok (.goto 4, 3) := by decide +kernel
theorem dL_holds_77 : decode cL_holds 77 = .ok (.iconst 0, 1) := by decide +kernel
theorem dL_holds_78 : decode cL_holds 78 = .ok (.iadd, 1) := by decide +kernel
theorem dL_holds_79 : decode cL_holds 79 = .ok (.istore_n 3, 1) := by decide +kernel
theorem dL_holds_80 : decode cL_holds 80 = .ok (.iload 5, 2) := by decide +kernel
theorem dL_holds_82 : decode cL_holds 82 = .ok (.aload_n 0, 1) := by decide +kernel
theorem dL_holds_83 : decode cL_holds 83 = .ok (.iload 4, 2) := by decide +kernel
theorem dL_holds_85 : decode cL_holds 85 = .ok (.bipush 12, 2) := by decide +kernel
theorem dL_holds_87 : decode cL_holds 87 = .ok (.irem, 1) := by decide +kernel
theorem dL_holds_88 : decode cL_holds 88 = .ok (.iload 4, 2) := by decide +kernel
theorem dL_holds_90 : decode cL_holds 90 = .ok (.bipush 12, 2) := by decide +kernel
theorem dL_holds_92 : decode cL_holds 92 = .ok (.idiv, 1) := by decide +kernel
theorem dL_holds_93 : decode cL_holds 93 = .ok (.iconst 0, 1) := by decide +kernel
theorem dL_holds_94 : decode cL_holds 94 = .ok (.invokevirtual 25, 3) := by decide +kernel
theorem dL_holds_97 : decode cL_holds 97 = .ok (.aload_n 0, 1) := by decide +kernel
theorem dL_holds_98 : decode cL_holds 98 = .ok (.iconst 2, 1) := by decide +kernel
theorem dL_holds_99 : decode cL_holds 99 = .ok (.invokevirtual 62, 3) := by decide +kernel
theorem dL_holds_102 : decode cL_holds 102 = .ok (.imul, 1) := by decide +kernel
theorem dL_holds_103 : decode cL_holds 103 = .ok (.aload_n 0, 1) := by decide +kernel
theorem dL_holds_104 : decode cL_holds 104 = .ok (.iload 4, 2) := by decide +kernel
theorem dL_holds_106 : decode cL_holds 106 = .ok (.bipush 12, 2) := by decide +kernel
theorem dL_holds_108 : decode cL_holds 108 = .ok (.irem, 1) := by decide +kernel
theorem dL_holds_109 : decode cL_holds 109 = .ok (.iload 4, 2) := by decide +kernel
theorem dL_holds_111 : decode cL_holds 111 = .ok (.bipush 12, 2) := by decide +kernel
theorem dL_holds_113 : decode cL_holds 113 = .ok (.idiv, 1) := by decide +kernel
theorem dL_holds_114 : decode cL_holds 114 = .ok (.iconst 1, 1) := by decide +kernel
theorem dL_holds_115 : decode cL_holds 115 = .ok (.invokevirtual 25, 3) := by decide +kernel
theorem dL_holds_118 : decode cL_holds 118 = .ok (.isub, 1) := by decide +kernel
theorem dL_holds_119 : decode cL_holds 119 = .ok (.if_icmp .eq 5, 3) := by decide +kernel
theorem dL_holds_122 : decode cL_holds 122 = .ok (.iconst 0, 1) := by decide +kernel
theorem dL_holds_123 : decode cL_holds 123 = .ok (.ireturn, 1) := by decide +kernel
theorem dL_holds_124 : decode cL_holds 124 = .ok (.iinc 4 1, 3) := by decide +kernel
theorem dL_holds_127 : decode cL_holds 127 = .ok (.goto (-118), 3) := by decide +kernel
theorem dL_holds_130 : decode cL_holds 130 = .ok (.iconst 0, 1) := by decide +kernel
theorem dL_holds_131 : decode cL_holds 131 = .ok (.istore 4, 2) := by decide +kernel
theorem dL_holds_133 : decode cL_holds 133 = .ok (.aload_n 0, 1) := by decide +kernel
theorem dL_holds_134 : decode cL_holds 134 = .ok (.invokevirtual 65, 3) := by decide +kernel
theorem dL_holds_137 : decode cL_holds 137 = .ok (.istore 5, 2) := by decide +kernel
theorem dL_holds_139 : decode cL_holds 139 = .ok (.iconst 0, 1) := by decide +kernel
theorem dL_holds_140 : decode cL_holds 140 = .ok (.istore 6, 2) := by decide +kernel
theorem dL_holds_142 : decode cL_holds 142 = .ok (.iconst 0, 1) := by decide +kernel
theorem dL_holds_143 : decode cL_holds 143 = .ok (.istore 7, 2) := by decide +kernel
theorem dL_holds_145 : decode cL_holds 145 = .ok (.iload 7, 2) := by decide +kernel
theorem dL_holds_147 : decode cL_holds 147 = .ok (.aload_n 0, 1) := by decide +kernel
theorem dL_holds_148 : decode cL_holds 148 = .ok (.iconst 0, 1) := by decide +kernel
theorem dL_holds_149 : decode cL_holds 149 = .ok (.invokevirtual 12, 3) := by decide +kernel
theorem dL_holds_152 : decode cL_holds 152 = .ok (.if_icmp .ge 126, 3) := by decide +kernel
theorem dL_holds_155 : decode cL_holds 155 = .ok (.aload_n 0, 1) := by decide +kernel
theorem dL_holds_156 : decode cL_holds 156 = .ok (.iload 7, 2) := by decide +kernel
theorem dL_holds_158 : decode cL_holds 158 = .ok (.invokevirtual 68, 3) := by decide +kernel
theorem dL_holds_161 : decode cL_holds 161 = .ok (.istore 8, 2) := by decide +kernel
theorem dL_holds_163 : decode cL_holds 163 = .ok (.iload 4, 2) := by decide +kernel
theorem dL_holds_165 : decode cL_holds 165 = .ok (.aload_n 0, 1) := by decide +kernel
theorem dL_holds_166 : decode cL_holds 166 = .ok (.iload 7, 2) := by decide +kernel
theorem dL_holds_168 : decode cL_holds 168 = .ok (.iconst 2, 1) := by decide +kernel
theorem dL_holds_169 : decode cL_holds 169 = .ok (.invokevirtual 71, 3) := by decide +kernel
theorem dL_holds_172 : decode cL_holds 172 = .ok (.iadd, 1) := by decide +kernel
theorem dL_holds_173 : decode cL_holds 173 = .ok (.istore 4, 2) := by decide +kernel
theorem dL_holds_175 : decode cL_holds 175 = .ok (.iload 6, 2) := by decide +kernel
theorem dL_holds_177 : decode cL_holds 177 = .ok (.ifCond .ne 8, 3) := by decide +kernel
theorem dL_holds_180 : decode cL_holds 180 = .ok (.iload 8, 2) := by decide +kernel
theorem dL_holds_182 : decode cL_holds 182 = .ok (.ifCond .ne 7, 3) := by decide +kernel
theorem dL_holds_185 : decode cL_holds 185 = .ok (.iconst 1, 1) := by decide +kernel
theorem dL_holds_186 : decode cL_holds 186 = .ok (.goto 4, 3) := by decide +kernel
theorem dL_holds_189 : decode cL_holds 189 = .ok (.iconst 0, 1) := by decide +kernel
theorem dL_holds_190 : decode cL_holds 190 = .ok (.istore 6, 2) := by decide +kernel
theorem dL_holds_192 : decode cL_holds 192 = .ok (.iload 8, 2) := by decide +kernel
theorem dL_holds_194 : decode cL_holds 194 = .ok (.iconst 1, 1) := by decide +kernel
theorem dL_holds_195 : decode cL_holds 195 = .ok (.if_icmp .ne 7, 3) := by decide +kernel
theorem dL_holds_198 : decode cL_holds 198 = .ok (.iconst 1, 1) := by decide +kernel
theorem dL_holds_199 : decode cL_holds 199 = .ok (.goto 4, 3) := by decide +kernel
theorem dL_holds_202 : decode cL_holds 202 = .ok (.iconst 0, 1) := by decide +kernel
theorem dL_holds_203 : decode cL_holds 203 = .ok (.iload 7, 2) := by decide +kernel
theorem dL_holds_205 : decode cL_holds 205 = .ok (.aload_n 0, 1) := by decide +kernel
theorem dL_holds_206 : decode cL_holds 206 = .ok (.iconst 1, 1) := by decide +kernel
theorem dL_holds_207 : decode cL_holds 207 = .ok (.invokevirtual 12, 3) := by decide +kernel
theorem dL_holds_210 : decode cL_holds 210 = .ok (.if_icmp .ne 7, 3) := by decide +kernel
theorem dL_holds_213 : decode cL_holds 213 = .ok (.iconst 1, 1) := by decide +kernel
theorem dL_holds_214 : decode cL_holds 214 = .ok (.goto 4, 3) := by decide +kernel
theorem dL_holds_217 : decode cL_holds 217 = .ok (.iconst 0, 1) := by decide +kernel
theorem dL_holds_218 : decode cL_holds 218 = .ok (.if_icmp .ne 52, 3) := by decide +kernel
theorem dL_holds_221 : decode cL_holds 221 = .ok (.aload_n 0, 1) := by decide +kernel
theorem dL_holds_222 : decode cL_holds 222 = .ok (.iload 7, 2) := by decide +kernel
theorem dL_holds_224 : decode cL_holds 224 = .ok (.invokevirtual 74, 3) := by decide +kernel
theorem dL_holds_227 : decode cL_holds 227 = .ok (.iconst (-1), 1) := by decide +kernel
theorem dL_holds_228 : decode cL_holds 228 = .ok (.if_icmp .ne 7, 3) := by decide +kernel
theorem dL_holds_231 : decode cL_holds 231 = .ok (.iconst 1, 1) := by decide +kernel
theorem dL_holds_232 : decode cL_holds 232 = .ok (.goto 4, 3) := by decide +kernel
theorem dL_holds_235 : decode cL_holds 235 = .ok (.iconst 0, 1) := by decide +kernel
theorem dL_holds_236 : decode cL_holds 236 = .ok (.iload 8, 2) := by decide +kernel
theorem dL_holds_238 : decode cL_holds 238 = .ok (.iconst 1, 1) := by decide +kernel
theorem dL_holds_239 : decode cL_holds 239 = .ok (.if_icmp .ne 7, 3) := by decide +kernel
theorem dL_holds_242 : decode cL_holds 242 = .ok (.iconst 1, 1) := by decide +kernel
theorem dL_holds_243 : decode cL_holds 243 = .ok (.goto 4, 3) := by decide +kernel
theorem dL_holds_246 : decode cL_holds 246 = .ok (.iconst 0, 1) := by decide +kernel
theorem dL_holds_247 : decode cL_holds 247 = .ok (.if_icmp .ne 23, 3) := by decide +kernel
theorem dL_holds_250 : decode cL_holds 250 = .ok (.iload 8, 2) := by decide +kernel
theorem dL_holds_252 : decode cL_holds 252 = .ok (.ifCond .ne 20, 3) := by decide +kernel
theorem dL_holds_255 : decode cL_holds 255 = .ok (.aload_n 0, 1) := by decide +kernel
theorem dL_holds_256 : decode cL_holds 256 = .ok (.iload 7, 2) := by decide +kernel
theorem dL_holds_258 : decode cL_holds 258 = .ok (.invokevirtual 74, 3) := by decide +kernel
theorem dL_holds_261 : decode cL_holds 261 = .ok (.aload_n 0, 1) := by decide +kernel
theorem dL_holds_262 : decode cL_holds 262 = .ok (.iload 5, 2) := by decide +kernel
theorem dL_holds_264 : decode cL_holds 264 = .ok (.invokevirtual 74, 3) := by decide +kernel
theorem dL_holds_267 : decode cL_holds 267 = .ok (.if_icmp .le 5, 3) := by decide +kernel
theorem dL_holds_270 : decode cL_holds 270 = .ok (.iconst 0, 1) := by decide +kernel
theorem dL_holds_271 : decode cL_holds 271 = .ok (.ireturn, 1) := by decide +kernel
theorem dL_holds_272 : decode cL_holds 272 = .ok (.iinc 7 1, 3) := by decide +kernel
theorem dL_holds_275 : decode cL_holds 275 = .ok (.goto (-130), 3) := by decide +kernel
theorem dL_holds_278 : decode cL_holds 278 = .ok (.iconst 0, 1) := by decide +kernel
theorem dL_holds_279 : decode cL_holds 279 = .ok (.istore 7, 2) := by decide +kernel
theorem dL_holds_281 : decode cL_holds 281 = .ok (.iconst 0, 1) := by decide +kernel
theorem dL_holds_282 : decode cL_holds 282 = .ok (.istore 8, 2) := by decide +kernel
theorem dL_holds_284 : decode cL_holds 284 = .ok (.iconst 0, 1) := by decide +kernel
theorem dL_holds_285 : decode cL_holds 285 = .ok (.istore 9, 2) := by decide +kernel
theorem dL_holds_287 : decode cL_holds 287 = .ok (.iload 9, 2) := by decide +kernel
theorem dL_holds_289 : decode cL_holds 289 = .ok (.iconst 3, 1) := by decide +kernel
theorem dL_holds_290 : decode cL_holds 290 = .ok (.if_icmp .ge 33, 3) := by decide +kernel
theorem dL_holds_293 : decode cL_holds 293 = .ok (.iload 7, 2) := by decide +kernel
theorem dL_holds_295 : decode cL_holds 295 = .ok (.aload_n 0, 1) := by decide +kernel
theorem dL_holds_296 : decode cL_holds 296 = .ok (.iload 9, 2) := by decide +kernel
theorem dL_holds_298 : decode cL_holds 298 = .ok (.iconst 3, 1) := by decide +kernel
theorem dL_holds_299 : decode cL_holds 299 = .ok (.invokevirtual 18, 3) := by decide +kernel
theorem dL_holds_302 : decode cL_holds 302 = .ok (.iadd, 1) := by decide +kernel
theorem dL_holds_303 : decode cL_holds 303 = .ok (.istore 7, 2) := by decide +kernel
theorem dL_holds_305 : decode cL_holds 305 = .ok (.iload 8, 2) := by decide +kernel
theorem dL_holds_307 : decode cL_holds 307 = .ok (.aload_n 0, 1) := by decide +kernel
theorem dL_holds_308 : decode cL_holds 308 = .ok (.iload 9, 2) := by decide +kernel
theorem dL_holds_310 : decode cL_holds 310 = .ok (.iconst 2, 1) := by decide +kernel
theorem dL_holds_311 : decode cL_holds 311 = .ok (.invokevirtual 18, 3) := by decide +kernel
theorem dL_holds_314 : decode cL_holds 314 = .ok (.iadd, 1) := by decide +kernel
theorem dL_holds_315 : decode cL_holds 315 = .ok (.istore 8, 2) := by decide +kernel
theorem dL_holds_317 : decode cL_holds 317 = .ok (.iinc 9 1, 3) := by decide +kernel
theorem dL_holds_320 : decode cL_holds 320 = .ok (.goto (-33), 3) := by decide +kernel
theorem dL_holds_323 : decode cL_holds 323 = .ok (.aload_n 0, 1) := by decide +kernel
theorem dL_holds_324 : decode cL_holds 324 = .ok (.bipush 7, 2) := by decide +kernel
theorem dL_holds_326 : decode cL_holds 326 = .ok (.invokevirtual 12, 3) := by decide +kernel
theorem dL_holds_329 : decode cL_holds 329 = .ok (.iload_n 1, 1) := by decide +kernel
theorem dL_holds_330 : decode cL_holds 330 = .ok (.if_icmp .ne 83, 3) := by decide +kernel
theorem dL_holds_333 : decode cL_holds 333 = .ok (.aload_n 0, 1) := by decide +kernel
theorem dL_holds_334 : decode cL_holds 334 = .ok (.bipush 8, 2) := by decide +kernel
theorem dL_holds_336 : decode cL_holds 336 = .ok (.invokevirtual 12, 3) := by decide +kernel
theorem dL_holds_339 : decode cL_holds 339 = .ok (.iload_n 1, 1) := by decide +kernel
theorem dL_holds_340 : decode cL_holds 340 = .ok (.if_icmp .ne 73, 3) := by decide +kernel
theorem dL_holds_343 : decode cL_holds 343 = .ok (.aload_n 0, 1) := by decide +kernel
theorem dL_holds_344 : decode cL_holds 344 = .ok (.bipush 9, 2) := by decide +kernel
theorem dL_holds_346 : decode cL_holds 346 = .ok (.invokevirtual 12, 3) := by decide +kernel
theorem dL_holds_349 : decode cL_holds 349 = .ok (.iload_n 2, 1) := by decide +kernel
theorem dL_holds_350 : decode cL_holds 350 = .ok (.if_icmp .ne 63, 3) := by decide +kernel
theorem dL_holds_353 : decode cL_holds 353 = .ok (.aload_n 0, 1) := by decide +kernel
theorem dL_holds_354 : decode cL_holds 354 = .ok (.bipush 10, 2) := by decide +kernel
theorem dL_holds_356 : decode cL_holds 356 = .ok (.invokevirtual 12, 3) := by decide +kernel
theorem dL_holds_359 : decode cL_holds 359 = .ok (.iload_n 3, 1) := by decide +kernel
theorem dL_holds_360 : decode cL_holds 360 = .ok (.if_icmp .ne 53, 3) := by decide +kernel
theorem dL_holds_363 : decode cL_holds 363 = .ok (.iload 4, 2) := by decide +kernel
theorem dL_holds_365 : decode cL_holds 365 = .ok (.iconst 2, 1) := by decide +kernel
theorem dL_holds_366 : decode cL_holds 366 = .ok (.aload_n 0, 1) := by decide +kernel
theorem dL_holds_367 : decode cL_holds 367 = .ok (.iconst 3, 1) := by decide +kernel
theorem dL_holds_368 : decode cL_holds 368 = .ok (.invokevirtual 12, 3) := by decide +kernel
theorem dL_holds_371 : decode cL_holds 371 = .ok (.imul, 1) := by decide +kernel
theorem dL_holds_372 : decode cL_holds 372 = .ok (.if_icmp .ne 41, 3) := by decide +kernel
theorem dL_holds_375 : decode cL_holds 375 = .ok (.iload 7, 2) := by decide +kernel
theorem dL_holds_377 : decode cL_holds 377 = .ok (.aload_n 0, 1) := by decide +kernel
theorem dL_holds_378 : decode cL_holds 378 = .ok (.iconst 3, 1) := by decide +kernel
theorem dL_holds_379 : decode cL_holds 379 = .ok (.invokevirtual 12, 3) := by decide +kernel
theorem dL_holds_382 : decode cL_holds 382 = .ok (.if_icmp .ne 31, 3) := by decide +kernel
theorem dL_holds_385 : decode cL_holds 385 = .ok (.iload 8, 2) := by decide +kernel
theorem dL_holds_387 : decode cL_holds 387 = .ok (.aload_n 0, 1) := by decide +kernel
theorem dL_holds_388 : decode cL_holds 388 = .ok (.bipush 11, 2) := by decide +kernel
theorem dL_holds_390 : decode cL_holds 390 = .ok (.invokevirtual 12, 3) := by decide +kernel
theorem dL_holds_393 : decode cL_holds 393 = .ok (.if_icmp .ne 20, 3) := by decide +kernel
theorem dL_holds_396 : decode cL_holds 396 = .ok (.aload_n 0, 1) := by decide +kernel
theorem dL_holds_397 : decode cL_holds 397 = .ok (.iconst 4, 1) := by decide +kernel
theorem dL_holds_398 : decode cL_holds 398 = .ok (.invokevirtual 12, 3) := by decide +kernel
theorem dL_holds_401 : decode cL_holds 401 = .ok (.aload_n 0, 1) := by decide +kernel
theorem dL_holds_402 : decode cL_holds 402 = .ok (.iconst 3, 1) := by decide +kernel
theorem dL_holds_403 : decode cL_holds 403 = .ok (.invokevirtual 12, 3) := by decide +kernel
theorem dL_holds_406 : decode cL_holds 406 = .ok (.if_icmp .lt 7, 3) := by decide +kernel
theorem dL_holds_409 : decode cL_holds 409 = .ok (.iconst 1, 1) := by decide +kernel
theorem dL_holds_410 : decode cL_holds 410 = .ok (.goto 4, 3) := by decide +kernel
theorem dL_holds_413 : decode cL_holds 413 = .ok (.iconst 0, 1) := by decide +kernel
theorem dL_holds_414 : decode cL_holds 414 = .ok (.istore 9, 2) := by decide +kernel
theorem dL_holds_416 : decode cL_holds 416 = .ok (.iload 9, 2) := by decide +kernel
theorem dL_holds_418 : decode cL_holds 418 = .ok (.ifCond .eq 69, 3) := by decide +kernel
theorem dL_holds_421 : decode cL_holds 421 = .ok (.iload 6, 2) := by decide +kernel
theorem dL_holds_423 : decode cL_holds 423 = .ok (.iload 5, 2) := by decide +kernel
theorem dL_holds_425 : decode cL_holds 425 = .ok (.ifCond .lt 7, 3) := by decide +kernel
theorem dL_holds_428 : decode cL_holds 428 = .ok (.iconst 1, 1) := by decide +kernel
theorem dL_holds_429 : decode cL_holds 429 = .ok (.goto 4, 3) := by decide +kernel
theorem dL_holds_432 : decode cL_holds 432 = .ok (.iconst 0, 1) := by decide +kernel
theorem dL_holds_433 : decode cL_holds 433 = .ok (.if_icmp .ne 54, 3) := by decide +kernel
theorem dL_holds_436 : decode cL_holds 436 = .ok (.aload_n 0, 1) := by decide +kernel
theorem dL_holds_437 : decode cL_holds 437 = .ok (.invokevirtual 77, 3) := by decide +kernel
theorem dL_holds_440 : decode cL_holds 440 = .ok (.iconst (-1), 1) := by decide +kernel
theorem dL_holds_441 : decode cL_holds 441 = .ok (.if_icmp .ne 7, 3) := by decide +kernel
theorem dL_holds_444 : decode cL_holds 444 = .ok (.iconst 1, 1) := by decide +kernel
theorem dL_holds_445 : decode cL_holds 445 = .ok (.goto 4, 3) := by decide +kernel
theorem dL_holds_448 : decode cL_holds 448 = .ok (.iconst 0, 1) := by decide +kernel
theorem dL_holds_449 : decode cL_holds 449 = .ok (.iload_n 2, 1) := by decide +kernel
theorem dL_holds_450 : decode cL_holds 450 = .ok (.ifCond .ne 7, 3) := by decide +kernel
theorem dL_holds_453 : decode cL_holds 453 = .ok (.iconst 1, 1) := by decide +kernel
theorem dL_holds_454 : decode cL_holds 454 = .ok (.goto 4, 3) := by decide +kernel
theorem dL_holds_457 : decode cL_holds 457 = .ok (.iconst 0, 1) := by decide +kernel
theorem dL_holds_458 : decode cL_holds 458 = .ok (.if_icmp .ne 29, 3) := by decide +kernel
theorem dL_holds_461 : decode cL_holds 461 = .ok (.aload_n 0, 1) := by decide +kernel
theorem dL_holds_462 : decode cL_holds 462 = .ok (.iconst 3, 1) := by decide +kernel
theorem dL_holds_463 : decode cL_holds 463 = .ok (.invokevirtual 12, 3) := by decide +kernel
theorem dL_holds_466 : decode cL_holds 466 = .ok (.ifCond .eq 17, 3) := by decide +kernel
theorem dL_holds_469 : decode cL_holds 469 = .ok (.aload_n 0, 1) := by decide +kernel
theorem dL_holds_470 : decode cL_holds 470 = .ok (.iconst 0, 1) := by decide +kernel
theorem dL_holds_471 : decode cL_holds 471 = .ok (.iconst 1, 1) := by decide +kernel
theorem dL_holds_472 : decode cL_holds 472 = .ok (.invokevirtual 22, 3) := by decide +kernel
theorem dL_holds_475 : decode cL_holds 475 = .ok (.aload_n 0, 1) := by decide +kernel
theorem dL_holds_476 : decode cL_holds 476 = .ok (.iconst 1, 1) := by decide +kernel
theorem dL_holds_477 : decode cL_holds 477 = .ok (.invokevirtual 12, 3) := by decide +kernel
theorem dL_holds_480 : decode cL_holds 480 = .ok (.if_icmp .ne 7, 3) := by decide +kernel
theorem dL_holds_483 : decode cL_holds 483 = .ok (.iconst 1, 1) := by decide +kernel
theorem dL_holds_484 : decode cL_holds 484 = .ok (.goto 4, 3) := by decide +kernel
theorem dL_holds_487 : decode cL_holds 487 = .ok (.iconst 0, 1) := by decide +kernel
theorem dL_holds_488 : decode cL_holds 488 = .ok (.ireturn, 1) := by decide +kernel
theorem dL_law_0 : decode cL_law 0 = .ok (.new 13, 3) := by decide +kernel
theorem dL_law_3 : decode cL_law 3 = .ok (.dup, 1) := by decide +kernel
theorem dL_law_4 : decode cL_law 4 = .ok (.invokespecial 80, 3) := by decide +kernel
theorem dL_law_7 : decode cL_law 7 = .ok (.astore_n 1, 1) := by decide +kernel
theorem dL_law_8 : decode cL_law 8 = .ok (.aload_n 1, 1) := by decide +kernel
theorem dL_law_9 : decode cL_law 9 = .ok (.invokestatic 81, 3) := by decide +kernel
theorem dL_law_12 : decode cL_law 12 = .ok (.lstore_n 2, 1) := by decide +kernel
theorem dL_law_13 : decode cL_law 13 = .ok (.aload_n 1, 1) := by decide +kernel
theorem dL_law_14 : decode cL_law 14 = .ok (.iconst 0, 1) := by decide +kernel
theorem dL_law_15 : decode cL_law 15 = .ok (.invokevirtual 85, 3) := by decide +kernel
theorem dL_law_18 : decode cL_law 18 = .ok (.ifCond .eq 5, 3) := by decide +kernel
theorem dL_law_21 : decode cL_law 21 = .ok (.iconst 0, 1) := by decide +kernel
theorem dL_law_22 : decode cL_law 22 = .ok (.ireturn, 1) := by decide +kernel
theorem dL_law_23 : decode cL_law 23 = .ok (.iconst 0, 1) := by decide +kernel
theorem dL_law_24 : decode cL_law 24 = .ok (.istore 4, 2) := by decide +kernel
theorem dL_law_26 : decode cL_law 26 = .ok (.iload 4, 2) := by decide +kernel
theorem dL_law_28 : decode cL_law 28 = .ok (.bipush 28, 2) := by decide +kernel
theorem dL_law_30 : decode cL_law 30 = .ok (.if_icmp .ge 291, 3) := by decide +kernel
theorem dL_law_33 : decode cL_law 33 = .ok (.aload_n 0, 1) := by decide +kernel
theorem dL_law_34 : decode cL_law 34 = .ok (.iconst 2, 1) := by decide +kernel
theorem dL_law_35 : decode cL_law 35 = .ok (.iload 4, 2) := by decide +kernel
theorem dL_law_37 : decode cL_law 37 = .ok (.imul, 1) := by decide +kernel
theorem dL_law_38 : decode cL_law 38 = .ok (.invokestatic 88, 3) := by decide +kernel
theorem dL_law_41 : decode cL_law 41 = .ok (.istore 5, 2) := by decide +kernel
theorem dL_law_43 : decode cL_law 43 = .ok (.aload_n 0, 1) := by decide +kernel
theorem dL_law_44 : decode cL_law 44 = .ok (.iconst 2, 1) := by decide +kernel
theorem dL_law_45 : decode cL_law 45 = .ok (.iload 4, 2) := by decide +kernel
theorem dL_law_47 : decode cL_law 47 = .ok (.imul, 1) := by decide +kernel
theorem dL_law_48 : decode cL_law 48 = .ok (.iconst 1, 1) := by decide +kernel
theorem dL_law_49 : decode cL_law 49 = .ok (.iadd, 1) := by decide +kernel
theorem dL_law_50 : decode cL_law 50 = .ok (.invokestatic 88, 3) := by decide +kernel
theorem dL_law_53 : decode cL_law 53 = .ok (.istore 6, 2) := by decide +kernel
theorem dL_law_55 : decode cL_law 55 = .ok (.aload_n 1, 1) := by decide +kernel
theorem dL_law_56 : decode cL_law 56 = .ok (.bipush 12, 2) := by decide +kernel
theorem dL_law_58 : decode cL_law 58 = .ok (.invokevirtual 12, 3) := by decide +kernel
theorem dL_law_61 : decode cL_law 61 = .ok (.bipush 6, 2) := by decide +kernel
theorem dL_law_63 : decode cL_law 63 = .ok (.if_icmp .ne 13, 3) := by decide +kernel
theorem dL_law_66 : decode cL_law 66 = .ok (.aload_n 1, 1) := by decide +kernel
theorem dL_law_67 : decode cL_law 67 = .ok (.invokevirtual 92, 3) := by decide +kernel
theorem dL_law_70 : decode cL_law 70 = .ok (.pop, 1) := by decide +kernel
theorem dL_law_71 : decode cL_law 71 = .ok (.aload_n 1, 1) := by decide +kernel
theorem dL_law_72 : decode cL_law 72 = .ok (.invokevirtual 92, 3) := by decide +kernel
theorem dL_law_75 : decode cL_law 75 = .ok (.pop, 1) := by decide +kernel
theorem dL_law_76 : decode cL_law 76 = .ok (.aload_n 1, 1) := by decide +kernel
theorem dL_law_77 : decode cL_law 77 = .ok (.bipush 12, 2) := by decide +kernel
theorem dL_law_79 : decode cL_law 79 = .ok (.invokevirtual 12, 3) := by decide +kernel
theorem dL_law_82 : decode cL_law 82 = .ok (.istore 7, 2) := by decide +kernel
theorem dL_law_84 : decode cL_law 84 = .ok (.aload_n 1, 1) := by decide +kernel
theorem dL_law_85 : decode cL_law 85 = .ok (.invokestatic 81, 3) := by decide +kernel
theorem dL_law_88 : decode cL_law 88 = .ok (.lstore 8, 2) := by decide +kernel
theorem dL_law_90 : decode cL_law 90 = .ok (.aload_n 1, 1) := by decide +kernel
theorem dL_law_91 : decode cL_law 91 = .ok (.iload 5, 2) := by decide +kernel
theorem dL_law_93 : decode cL_law 93 = .ok (.iload 6, 2) := by decide +kernel
theorem dL_law_95 : decode cL_law 95 = .ok (.invokestatic 95, 3) := by decide +kernel
theorem dL_law_98 : decode cL_law 98 = .ok (.istore 10, 2) := by decide +kernel
theorem dL_law_100 : decode cL_law 100 = .ok (.aload_n 1, 1) := by decide +kernel
theorem dL_law_101 : decode cL_law 101 = .ok (.invokestatic 81, 3) := by decide +kernel
theorem dL_law_104 : decode cL_law 104 = .ok (.lstore 11, 2) := by decide +kernel
theorem dL_law_106 : decode cL_law 106 = .ok (.iload 10, 2) := by decide +kernel
theorem dL_law_108 : decode cL_law 108 = .ok (.bipush (-9), 2) := by decide +kernel
theorem dL_law_110 : decode cL_law 110 = .ok (.if_icmp .ne 25, 3) := by decide +kernel
theorem dL_law_113 : decode cL_law 113 = .ok (.lload 11, 2) := by decide +kernel
theorem dL_law_115 : decode cL_law 115 = .ok (.lload 8, 2) := by decide +kernel
theorem dL_law_117 : decode cL_law 117 = .ok (.lcmp, 1) := by decide +kernel
theorem dL_law_118 : decode cL_law 118 = .ok (.ifCond .ne 30, 3) := by decide +kernel
theorem dL_law_121 : decode cL_law 121 = .ok (.aload_n 1, 1) := by decide +kernel
theorem dL_law_122 : decode cL_law 122 = .ok (.bipush 12, 2) := by decide +kernel
theorem dL_law_124 : decode cL_law 124 = .ok (.invokevirtual 12, 3) := by decide +kernel
theorem dL_law_127 : decode cL_law 127 = .ok (.iload 7, 2) := by decide +kernel
theorem dL_law_129 : decode cL_law 129 = .ok (.if_icmp .eq 21, 3) := by decide +kernel
theorem dL_law_132 : decode cL_law 132 = .ok (.goto 16, 3) := by decide +kernel
theorem dL_law_135 : decode cL_law 135 = .ok (.aload_n 1, 1) := by decide +kernel
theorem dL_law_136 : decode cL_law 136 = .ok (.bipush 12, 2) := by decide +kernel
theorem dL_law_138 : decode cL_law 138 = .ok (.invokevirtual 12, 3) := by decide +kernel
theorem dL_law_141 : decode cL_law 141 = .ok (.iload 7, 2) := by decide +kernel
theorem dL_law_143 : decode cL_law 143 = .ok (.iconst 1, 1) := by decide +kernel
theorem dL_law_144 : decode cL_law 144 = .ok (.iadd, 1) := by decide +kernel
theorem dL_law_145 : decode cL_law 145 = .ok (.if_icmp .eq 5, 3) := by decide +kernel
theorem dL_law_148 : decode cL_law 148 = .ok (.iconst 0, 1) := by decide +kernel
theorem dL_law_149 : decode cL_law 149 = .ok (.ireturn, 1) := by decide +kernel
theorem dL_law_150 : decode cL_law 150 = .ok (.iload 10, 2) := by decide +kernel
theorem dL_law_152 : decode cL_law 152 = .ok (.bipush (-9), 2) := by decide +kernel
theorem dL_law_154 : decode cL_law 154 = .ok (.if_icmp .le 57, 3) := by decide +kernel
theorem dL_law_157 : decode cL_law 157 = .ok (.iload 5, 2) := by decide +kernel
theorem dL_law_159 : decode cL_law 159 = .ok (.bipush 8, 2) := by decide +kernel
theorem dL_law_161 : decode cL_law 161 = .ok (.ishr, 1) := by decide +kernel
theorem dL_law_162 : decode cL_law 162 = .ok (.iconst 1, 1) := by decide +kernel
theorem dL_law_163 : decode cL_law 163 = .ok (.iand, 1) := by decide +kernel
theorem dL_law_164 : decode cL_law 164 = .ok (.ifCond .ne 47, 3) := by decide +kernel
theorem dL_law_167 : decode cL_law 167 = .ok (.aload_n 1, 1) := by decide +kernel
theorem dL_law_168 : decode cL_law 168 = .ok (.invokevirtual 92, 3) := by decide +kernel
theorem dL_law_171 : decode cL_law 171 = .ok (.iload 7, 2) := by decide +kernel
theorem dL_law_173 : decode cL_law 173 = .ok (.if_icmp .ne 36, 3) := by decide +kernel
theorem dL_law_176 : decode cL_law 176 = .ok (.aload_n 1, 1) := by decide +kernel
theorem dL_law_177 : decode cL_law 177 = .ok (.invokestatic 81, 3) := by decide +kernel
theorem dL_law_180 : decode cL_law 180 = .ok (.lload 8, 2) := by decide +kernel
theorem dL_law_182 : decode cL_law 182 = .ok (.lcmp, 1) := by decide +kernel
theorem dL_law_183 : decode cL_law 183 = .ok (.ifCond .ne 26, 3) := by decide +kernel
theorem dL_law_186 : decode cL_law 186 = .ok (.aload_n 1, 1) := by decide +kernel
theorem dL_law_187 : decode cL_law 187 = .ok (.iload 5, 2) := by decide +kernel
theorem dL_law_189 : decode cL_law 189 = .ok (.iload 6, 2) := by decide +kernel
theorem dL_law_191 : decode cL_law 191 = .ok (.invokestatic 95, 3) := by decide +kernel
theorem dL_law_194 : decode cL_law 194 = .ok (.iload 10, 2) := by decide +kernel
theorem dL_law_196 : decode cL_law 196 = .ok (.if_icmp .ne 13, 3) := by decide +kernel
theorem dL_law_199 : decode cL_law 199 = .ok (.aload_n 1, 1) := by decide +kernel
theorem dL_law_200 : decode cL_law 200 = .ok (.invokestatic 81, 3) := by decide +kernel
theorem dL_law_203 : decode cL_law 203 = .ok (.lload 11, 2) := by decide +kernel
theorem dL_law_205 : decode cL_law 205 = .ok (.lcmp, 1) := by decide +kernel
theorem dL_law_206 : decode cL_law 206 = .ok (.ifCond .eq 5, 3) := by decide +kernel
theorem dL_law_209 : decode cL_law 209 = .ok (.iconst 0, 1) := by decide +kernel
theorem dL_law_210 : decode cL_law 210 = .ok (.ireturn, 1) := by decide +kernel
theorem dL_law_211 : decode cL_law 211 = .ok (.iload 4, 2) := by decide +kernel
theorem dL_law_213 : decode cL_law 213 = .ok (.iconst 2, 1) := by decide +kernel
theorem dL_law_214 : decode cL_law 214 = .ok (.irem, 1) := by decide +kernel
theorem dL_law_215 : decode cL_law 215 = .ok (.iconst 1, 1) := by decide +kernel
theorem dL_law_216 : decode cL_law 216 = .ok (.if_icmp .ne 12, 3) := by decide +kernel
theorem dL_law_219 : decode cL_law 219 = .ok (.aload_n 1, 1) := by decide +kernel
theorem dL_law_220 : decode cL_law 220 = .ok (.invokestatic 99, 3) := by decide +kernel
theorem dL_law_223 : decode cL_law 223 = .ok (.ifCond .ne 5, 3) := by decide +kernel
theorem dL_law_226 : decode cL_law 226 = .ok (.iconst 0, 1) := by decide +kernel
theorem dL_law_227 : decode cL_law 227 = .ok (.ireturn, 1) := by decide +kernel
theorem dL_law_228 : decode cL_law 228 = .ok (.iload 5, 2) := by decide +kernel
theorem dL_law_230 : decode cL_law 230 = .ok (.bipush 9, 2) := by decide +kernel
theorem dL_law_232 : decode cL_law 232 = .ok (.ishr, 1) := by decide +kernel
theorem dL_law_233 : decode cL_law 233 = .ok (.bipush 7, 2) := by decide +kernel
theorem dL_law_235 : decode cL_law 235 = .ok (.iand, 1) := by decide +kernel
theorem dL_law_236 : decode cL_law 236 = .ok (.ifCond .ne 15, 3) := by decide +kernel
theorem dL_law_239 : decode cL_law 239 = .ok (.aload_n 1, 1) := by decide +kernel
theorem dL_law_240 : decode cL_law 240 = .ok (.iconst 0, 1) := by decide +kernel
theorem dL_law_241 : decode cL_law 241 = .ok (.invokevirtual 85, 3) := by decide +kernel
theorem dL_law_244 : decode cL_law 244 = .ok (.pop, 1) := by decide +kernel
theorem dL_law_245 : decode cL_law 245 = .ok (.lload 11, 2) := by decide +kernel
theorem dL_law_247 : decode cL_law 247 = .ok (.lstore_n 2, 1) := by decide +kernel
theorem dL_law_248 : decode cL_law 248 = .ok (.goto 67, 3) := by decide +kernel
theorem dL_law_251 : decode cL_law 251 = .ok (.iload 5, 2) := by decide +kernel
theorem dL_law_253 : decode cL_law 253 = .ok (.bipush 9, 2) := by decide +kernel
theorem dL_law_255 : decode cL_law 255 = .ok (.ishr, 1) := by decide +kernel
theorem dL_law_256 : decode cL_law 256 = .ok (.bipush 7, 2) := by decide +kernel
theorem dL_law_258 : decode cL_law 258 = .ok (.iand, 1) := by decide +kernel
theorem dL_law_259 : decode cL_law 259 = .ok (.iconst 1, 1) := by decide +kernel
theorem dL_law_260 : decode cL_law 260 = .ok (.if_icmp .ne 55, 3) := by decide +kernel
theorem dL_law_263 : decode cL_law 263 = .ok (.aload_n 1, 1) := by decide +kernel
theorem dL_law_264 : decode cL_law 264 = .ok (.bipush 12, 2) := by decide +kernel
theorem dL_law_266 : decode cL_law 266 = .ok (.invokevirtual 12, 3) := by decide +kernel
theorem dL_law_269 : decode cL_law 269 = .ok (.bipush 6, 2) := by decide +kernel
theorem dL_law_271 : decode cL_law 271 = .ok (.if_icmp .ge 44, 3) := by decide +kernel
theorem dL_law_274 : decode cL_law 274 = .ok (.aload_n 1, 1) := by decide +kernel
theorem dL_law_275 : decode cL_law 275 = .ok (.iconst 0, 1) := by decide +kernel
theorem dL_law_276 : decode cL_law 276 = .ok (.invokevirtual 103, 3) := by decide +kernel
theorem dL_law_279 : decode cL_law 279 = .ok (.aload_n 1, 1) := by decide +kernel
theorem dL_law_280 : decode cL_law 280 = .ok (.iconst 3, 1) := by decide +kernel
theorem dL_law_281 : decode cL_law 281 = .ok (.invokevirtual 12, 3) := by decide +kernel
theorem dL_law_284 : decode cL_law 284 = .ok (.if_icmp .ne 29, 3) := by decide +kernel
theorem dL_law_287 : decode cL_law 287 = .ok (.aload_n 1, 1) := by decide +kernel
theorem dL_law_288 : decode cL_law 288 = .ok (.invokestatic 81, 3) := by decide +kernel
theorem dL_law_291 : decode cL_law 291 = .ok (.lload_n 2, 1) := by decide +kernel
theorem dL_law_292 : decode cL_law 292 = .ok (.lcmp, 1) := by decide +kernel
theorem dL_law_293 : decode cL_law 293 = .ok (.ifCond .ne 20, 3) := by decide +kernel
theorem dL_law_296 : decode cL_law 296 = .ok (.aload_n 1, 1) := by decide +kernel
theorem dL_law_297 : decode cL_law 297 = .ok (.invokevirtual 92, 3) := by decide +kernel
theorem dL_law_300 : decode cL_law 300 = .ok (.ifCond .lt 13, 3) := by decide +kernel
theorem dL_law_303 : decode cL_law 303 = .ok (.aload_n 1, 1) := by decide +kernel
theorem dL_law_304 : decode cL_law 304 = .ok (.invokestatic 81, 3) := by decide +kernel
theorem dL_law_307 : decode cL_law 307 = .ok (.lload 11, 2) := by decide +kernel
theorem dL_law_309 : decode cL_law 309 = .ok (.lcmp, 1) := by decide +kernel
theorem dL_law_310 : decode cL_law 310 = .ok (.ifCond .eq 5, 3) := by decide +kernel
theorem dL_law_313 : decode cL_law 313 = .ok (.iconst 0, 1) := by decide +kernel
theorem dL_law_314 : decode cL_law 314 = .ok (.ireturn, 1) := by decide +kernel
theorem dL_law_315 : decode cL_law 315 = .ok (.iinc 4 1, 3) := by decide +kernel
theorem dL_law_318 : decode cL_law 318 = .ok (.goto (-292), 3) := by decide +kernel
theorem dL_law_321 : decode cL_law 321 = .ok (.iconst 1, 1) := by decide +kernel
theorem dL_law_322 : decode cL_law 322 = .ok (.ireturn, 1) := by decide +kernel
