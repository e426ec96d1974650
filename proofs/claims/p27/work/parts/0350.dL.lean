theorem dL_cell_0 : decode cL_cell 0 = .ok (.iload_n 1, 1) := by decide +kernel
theorem dL_cell_1 : decode cL_cell 1 = .ok (.aload_n 0, 1) := by decide +kernel
theorem dL_cell_2 : decode cL_cell 2 = .ok (.arraylength, 1) := by decide +kernel
theorem dL_cell_3 : decode cL_cell 3 = .ok (.if_icmp .ge 9, 3) := by decide +kernel
theorem dL_cell_6 : decode cL_cell 6 = .ok (.aload_n 0, 1) := by decide +kernel
theorem dL_cell_7 : decode cL_cell 7 = .ok (.iload_n 1, 1) := by decide +kernel
theorem dL_cell_8 : decode cL_cell 8 = .ok (.iaload, 1) := by decide +kernel
theorem dL_cell_9 : decode cL_cell 9 = .ok (.goto 15, 3) := by decide +kernel
theorem dL_cell_12 : decode cL_cell 12 = .ok (.sipush 7919, 3) := by decide +kernel
theorem dL_cell_15 : decode cL_cell 15 = .ok (.iload_n 1, 1) := by decide +kernel
theorem dL_cell_16 : decode cL_cell 16 = .ok (.iconst 3, 1) := by decide +kernel
theorem dL_cell_17 : decode cL_cell 17 = .ok (.iadd, 1) := by decide +kernel
theorem dL_cell_18 : decode cL_cell 18 = .ok (.imul, 1) := by decide +kernel
theorem dL_cell_19 : decode cL_cell 19 = .ok (.iload_n 1, 1) := by decide +kernel
theorem dL_cell_20 : decode cL_cell 20 = .ok (.bipush 11, 2) := by decide +kernel
theorem dL_cell_22 : decode cL_cell 22 = .ok (.iadd, 1) := by decide +kernel
theorem dL_cell_23 : decode cL_cell 23 = .ok (.imul, 1) := by decide +kernel
theorem dL_cell_24 : decode cL_cell 24 = .ok (.ireturn, 1) := by decide +kernel
theorem dL_low_0 : decode cL_low 0 = .ok (.iload_n 0, 1) := by decide +kernel
theorem dL_low_1 : decode cL_low 1 = .ok (.ldc 7, 2) := by decide +kernel
theorem dL_low_3 : decode cL_low 3 = .ok (.iand, 1) := by decide +kernel
theorem dL_low_4 : decode cL_low 4 = .ok (.iload_n 1, 1) := by decide +kernel
theorem dL_low_5 : decode cL_low 5 = .ok (.irem, 1) := by decide +kernel
theorem dL_low_6 : decode cL_low 6 = .ok (.ireturn, 1) := by decide +kernel
theorem dL_tale_0 : decode cL_tale 0 = .ok (.ldc2_w 8, 3) := by decide +kernel
theorem dL_tale_3 : decode cL_tale 3 = .ok (.lstore_n 1, 1) := by decide +kernel
theorem dL_tale_4 : decode cL_tale 4 = .ok (.iconst 0, 1) := by decide +kernel
theorem dL_tale_5 : decode cL_tale 5 = .ok (.istore_n 3, 1) := by decide +kernel
theorem dL_tale_6 : decode cL_tale 6 = .ok (.iload_n 3, 1) := by decide +kernel
theorem dL_tale_7 : decode cL_tale 7 = .ok (.bipush 9, 2) := by decide +kernel
theorem dL_tale_9 : decode cL_tale 9 = .ok (.if_icmp .ge 22, 3) := by decide +kernel
theorem dL_tale_12 : decode cL_tale 12 = .ok (.lload_n 1, 1) := by decide +kernel
theorem dL_tale_13 : decode cL_tale 13 = .ok (.ldc2_w 10, 3) := by decide +kernel
theorem dL_tale_16 : decode cL_tale 16 = .ok (.lmul, 1) := by decide +kernel
theorem dL_tale_17 : decode cL_tale 17 = .ok (.aload_n 0, 1) := by decide +kernel
theorem dL_tale_18 : decode cL_tale 18 = .ok (.iload_n 3, 1) := by decide +kernel
theorem dL_tale_19 : decode cL_tale 19 = .ok (.invokevirtual 12, 3) := by decide +kernel
theorem dL_tale_22 : decode cL_tale 22 = .ok (.i2l, 1) := by decide +kernel
theorem dL_tale_23 : decode cL_tale 23 = .ok (.ladd, 1) := by decide +kernel
theorem dL_tale_24 : decode cL_tale 24 = .ok (.lstore_n 1, 1) := by decide +kernel
theorem dL_tale_25 : decode cL_tale 25 = .ok (.iinc 3 1, 3) := by decide +kernel
theorem dL_tale_28 : decode cL_tale 28 = .ok (.goto (-22), 3) := by decide +kernel
theorem dL_tale_31 : decode cL_tale 31 = .ok (.iconst 0, 1) := by decide +kernel
theorem dL_tale_32 : decode cL_tale 32 = .ok (.istore_n 3, 1) := by decide +kernel
theorem dL_tale_33 : decode cL_tale 33 = .ok (.iload_n 3, 1) := by decide +kernel
theorem dL_tale_34 : decode cL_tale 34 = .ok (.aload_n 0, 1) := by decide +kernel
theorem dL_tale_35 : decode cL_tale 35 = .ok (.iconst 0, 1) := by decide +kernel
theorem dL_tale_36 : decode cL_tale 36 = .ok (.invokevirtual 12, 3) := by decide +kernel
theorem dL_tale_39 : decode cL_tale 39 = .ok (.if_icmp .ge 89, 3) := by decide +kernel
theorem dL_tale_42 : decode cL_tale 42 = .ok (.iconst 0, 1) := by decide +kernel
theorem dL_tale_43 : decode cL_tale 43 = .ok (.istore 4, 2) := by decide +kernel
theorem dL_tale_45 : decode cL_tale 45 = .ok (.iload 4, 2) := by decide +kernel
theorem dL_tale_47 : decode cL_tale 47 = .ok (.bipush 8, 2) := by decide +kernel
theorem dL_tale_49 : decode cL_tale 49 = .ok (.if_icmp .ge 24, 3) := by decide +kernel
theorem dL_tale_52 : decode cL_tale 52 = .ok (.lload_n 1, 1) := by decide +kernel
theorem dL_tale_53 : decode cL_tale 53 = .ok (.ldc2_w 18, 3) := by decide +kernel
theorem dL_tale_56 : decode cL_tale 56 = .ok (.lmul, 1) := by decide +kernel
theorem dL_tale_57 : decode cL_tale 57 = .ok (.aload_n 0, 1) := by decide +kernel
theorem dL_tale_58 : decode cL_tale 58 = .ok (.iload_n 3, 1) := by decide +kernel
theorem dL_tale_59 : decode cL_tale 59 = .ok (.iload 4, 2) := by decide +kernel
theorem dL_tale_61 : decode cL_tale 61 = .ok (.invokevirtual 20, 3) := by decide +kernel
theorem dL_tale_64 : decode cL_tale 64 = .ok (.i2l, 1) := by decide +kernel
theorem dL_tale_65 : decode cL_tale 65 = .ok (.ladd, 1) := by decide +kernel
theorem dL_tale_66 : decode cL_tale 66 = .ok (.lstore_n 1, 1) := by decide +kernel
theorem dL_tale_67 : decode cL_tale 67 = .ok (.iinc 4 1, 3) := by decide +kernel
theorem dL_tale_70 : decode cL_tale 70 = .ok (.goto (-25), 3) := by decide +kernel
theorem dL_tale_73 : decode cL_tale 73 = .ok (.iconst 0, 1) := by decide +kernel
theorem dL_tale_74 : decode cL_tale 74 = .ok (.istore 4, 2) := by decide +kernel
theorem dL_tale_76 : decode cL_tale 76 = .ok (.iload 4, 2) := by decide +kernel
theorem dL_tale_78 : decode cL_tale 78 = .ok (.bipush 6, 2) := by decide +kernel
theorem dL_tale_80 : decode cL_tale 80 = .ok (.if_icmp .ge 42, 3) := by decide +kernel
theorem dL_tale_83 : decode cL_tale 83 = .ok (.iconst 0, 1) := by decide +kernel
theorem dL_tale_84 : decode cL_tale 84 = .ok (.istore 5, 2) := by decide +kernel
theorem dL_tale_86 : decode cL_tale 86 = .ok (.iload 5, 2) := by decide +kernel
theorem dL_tale_88 : decode cL_tale 88 = .ok (.bipush 16, 2) := by decide +kernel
theorem dL_tale_90 : decode cL_tale 90 = .ok (.if_icmp .ge 26, 3) := by decide +kernel
theorem dL_tale_93 : decode cL_tale 93 = .ok (.lload_n 1, 1) := by decide +kernel
theorem dL_tale_94 : decode cL_tale 94 = .ok (.ldc2_w 24, 3) := by decide +kernel
theorem dL_tale_97 : decode cL_tale 97 = .ok (.lmul, 1) := by decide +kernel
theorem dL_tale_98 : decode cL_tale 98 = .ok (.aload_n 0, 1) := by decide +kernel
theorem dL_tale_99 : decode cL_tale 99 = .ok (.iload_n 3, 1) := by decide +kernel
theorem dL_tale_100 : decode cL_tale 100 = .ok (.iload 4, 2) := by decide +kernel
theorem dL_tale_102 : decode cL_tale 102 = .ok (.iload 5, 2) := by decide +kernel
theorem dL_tale_104 : decode cL_tale 104 = .ok (.invokevirtual 26, 3) := by decide +kernel
theorem dL_tale_107 : decode cL_tale 107 = .ok (.i2l, 1) := by decide +kernel
theorem dL_tale_108 : decode cL_tale 108 = .ok (.ladd, 1) := by decide +kernel
theorem dL_tale_109 : decode cL_tale 109 = .ok (.lstore_n 1, 1) := by decide +kernel
theorem dL_tale_110 : decode cL_tale 110 = .ok (.iinc 5 3, 3) := by decide +kernel
theorem dL_tale_113 : decode cL_tale 113 = .ok (.goto (-27), 3) := by decide +kernel
theorem dL_tale_116 : decode cL_tale 116 = .ok (.iinc 4 1, 3) := by decide +kernel
theorem dL_tale_119 : decode cL_tale 119 = .ok (.goto (-43), 3) := by decide +kernel
theorem dL_tale_122 : decode cL_tale 122 = .ok (.iinc 3 1, 3) := by decide +kernel
theorem dL_tale_125 : decode cL_tale 125 = .ok (.goto (-92), 3) := by decide +kernel
theorem dL_tale_128 : decode cL_tale 128 = .ok (.iconst 0, 1) := by decide +kernel
theorem dL_tale_129 : decode cL_tale 129 = .ok (.istore_n 3, 1) := by decide +kernel
theorem dL_tale_130 : decode cL_tale 130 = .ok (.iload_n 3, 1) := by decide +kernel
theorem dL_tale_131 : decode cL_tale 131 = .ok (.bipush 6, 2) := by decide +kernel
theorem dL_tale_133 : decode cL_tale 133 = .ok (.if_icmp .ge 47, 3) := by decide +kernel
theorem dL_tale_136 : decode cL_tale 136 = .ok (.lload_n 1, 1) := by decide +kernel
theorem dL_tale_137 : decode cL_tale 137 = .ok (.ldc2_w 30, 3) := by decide +kernel
theorem dL_tale_140 : decode cL_tale 140 = .ok (.lmul, 1) := by decide +kernel
theorem dL_tale_141 : decode cL_tale 141 = .ok (.aload_n 0, 1) := by decide +kernel
theorem dL_tale_142 : decode cL_tale 142 = .ok (.iload_n 3, 1) := by decide +kernel
theorem dL_tale_143 : decode cL_tale 143 = .ok (.iconst 0, 1) := by decide +kernel
theorem dL_tale_144 : decode cL_tale 144 = .ok (.invokevirtual 32, 3) := by decide +kernel
theorem dL_tale_147 : decode cL_tale 147 = .ok (.i2l, 1) := by decide +kernel
theorem dL_tale_148 : decode cL_tale 148 = .ok (.ladd, 1) := by decide +kernel
theorem dL_tale_149 : decode cL_tale 149 = .ok (.ldc2_w 35, 3) := by decide +kernel
theorem dL_tale_152 : decode cL_tale 152 = .ok (.aload_n 0, 1) := by decide +kernel
theorem dL_tale_153 : decode cL_tale 153 = .ok (.iload_n 3, 1) := by decide +kernel
theorem dL_tale_154 : decode cL_tale 154 = .ok (.iconst 1, 1) := by decide +kernel
theorem dL_tale_155 : decode cL_tale 155 = .ok (.invokevirtual 32, 3) := by decide +kernel
theorem dL_tale_158 : decode cL_tale 158 = .ok (.i2l, 1) := by decide +kernel
theorem dL_tale_159 : decode cL_tale 159 = .ok (.lmul, 1) := by decide +kernel
theorem dL_tale_160 : decode cL_tale 160 = .ok (.ladd, 1) := by decide +kernel
theorem dL_tale_161 : decode cL_tale 161 = .ok (.ldc2_w 37, 3) := by decide +kernel
theorem dL_tale_164 : decode cL_tale 164 = .ok (.aload_n 0, 1) := by decide +kernel
theorem dL_tale_165 : decode cL_tale 165 = .ok (.iload_n 3, 1) := by decide +kernel
theorem dL_tale_166 : decode cL_tale 166 = .ok (.iconst 2, 1) := by decide +kernel
theorem dL_tale_167 : decode cL_tale 167 = .ok (.invokevirtual 32, 3) := by decide +kernel
theorem dL_tale_170 : decode cL_tale 170 = .ok (.i2l, 1) := by decide +kernel
theorem dL_tale_171 : decode cL_tale 171 = .ok (.lmul, 1) := by decide +kernel
theorem dL_tale_172 : decode cL_tale 172 = .ok (.ladd, 1) := by decide +kernel
theorem dL_tale_173 : decode cL_tale 173 = .ok (.lstore_n 1, 1) := by decide +kernel
theorem dL_tale_174 : decode cL_tale 174 = .ok (.iinc 3 1, 3) := by decide +kernel
theorem dL_tale_177 : decode cL_tale 177 = .ok (.goto (-47), 3) := by decide +kernel
theorem dL_tale_180 : decode cL_tale 180 = .ok (.lload_n 1, 1) := by decide +kernel
theorem dL_tale_181 : decode cL_tale 181 = .ok (.lreturn, 1) := by decide +kernel
theorem dL_does_0 : decode cL_does 0 = .ok (.iload_n 1, 1) := by decide +kernel
theorem dL_does_1 : decode cL_does 1 = .ok (.iconst 4, 1) := by decide +kernel
theorem dL_does_2 : decode cL_does 2 = .ok (.ishr, 1) := by decide +kernel
theorem dL_does_3 : decode cL_does 3 = .ok (.iconst 5, 1) := by decide +kernel
theorem dL_does_4 : decode cL_does 4 = .ok (.invokestatic 39, 3) := by decide +kernel
theorem dL_does_7 : decode cL_does 7 = .ok (.istore_n 2, 1) := by decide +kernel
theorem dL_does_8 : decode cL_does 8 = .ok (.iload_n 1, 1) := by decide +kernel
theorem dL_does_9 : decode cL_does 9 = .ok (.bipush 15, 2) := by decide +kernel
theorem dL_does_11 : decode cL_does 11 = .ok (.iand, 1) := by decide +kernel
theorem dL_does_12 : decode cL_does 12 = .ok (.tableswitch 274 0 13 #[72, 72, 107, 144, 144, 144, 175, 189, 189, 189, 208, 222, 244, 259], 72) := by decide +kernel
theorem dL_does_84 : decode cL_does 84 = .ok (.aload_n 0, 1) := by decide +kernel
theorem dL_does_85 : decode cL_does 85 = .ok (.iconst 1, 1) := by decide +kernel
theorem dL_does_86 : decode cL_does 86 = .ok (.iload_n 1, 1) := by decide +kernel
theorem dL_does_87 : decode cL_does 87 = .ok (.iconst 4, 1) := by decide +kernel
theorem dL_does_88 : decode cL_does 88 = .ok (.ishr, 1) := by decide +kernel
theorem dL_does_89 : decode cL_does 89 = .ok (.bipush 20, 2) := by decide +kernel
theorem dL_does_91 : decode cL_does 91 = .ok (.invokestatic 39, 3) := by decide +kernel
theorem dL_does_94 : decode cL_does 94 = .ok (.iadd, 1) := by decide +kernel
theorem dL_does_95 : decode cL_does 95 = .ok (.iconst 1, 1) := by decide +kernel
theorem dL_does_96 : decode cL_does 96 = .ok (.iload_n 1, 1) := by decide +kernel
theorem dL_does_97 : decode cL_does 97 = .ok (.bipush 9, 2) := by decide +kernel
theorem dL_does_99 : decode cL_does 99 = .ok (.ishr, 1) := by decide +kernel
theorem dL_does_100 : decode cL_does 100 = .ok (.bipush 20, 2) := by decide +kernel
theorem dL_does_102 : decode cL_does 102 = .ok (.invokestatic 39, 3) := by decide +kernel
theorem dL_does_105 : decode cL_does 105 = .ok (.iadd, 1) := by decide +kernel
theorem dL_does_106 : decode cL_does 106 = .ok (.iload_n 1, 1) := by decide +kernel
theorem dL_does_107 : decode cL_does 107 = .ok (.bipush 14, 2) := by decide +kernel
theorem dL_does_109 : decode cL_does 109 = .ok (.ishr, 1) := by decide +kernel
theorem dL_does_110 : decode cL_does 110 = .ok (.bipush 6, 2) := by decide +kernel
theorem dL_does_112 : decode cL_does 112 = .ok (.invokestatic 39, 3) := by decide +kernel
theorem dL_does_115 : decode cL_does 115 = .ok (.invokevirtual 44, 3) := by decide +kernel
theorem dL_does_118 : decode cL_does 118 = .ok (.ireturn, 1) := by decide +kernel
theorem dL_does_119 : decode cL_does 119 = .ok (.aload_n 0, 1) := by decide +kernel
theorem dL_does_120 : decode cL_does 120 = .ok (.iload_n 2, 1) := by decide +kernel
theorem dL_does_121 : decode cL_does 121 = .ok (.iconst 1, 1) := by decide +kernel
theorem dL_does_122 : decode cL_does 122 = .ok (.iload_n 1, 1) := by decide +kernel
theorem dL_does_123 : decode cL_does 123 = .ok (.bipush 7, 2) := by decide +kernel
theorem dL_does_125 : decode cL_does 125 = .ok (.ishr, 1) := by decide +kernel
theorem dL_does_126 : decode cL_does 126 = .ok (.bipush 20, 2) := by decide +kernel
theorem dL_does_128 : decode cL_does 128 = .ok (.invokestatic 39, 3) := by decide +kernel
theorem dL_does_131 : decode cL_does 131 = .ok (.iadd, 1) := by decide +kernel
theorem dL_does_132 : decode cL_does 132 = .ok (.iconst 1, 1) := by decide +kernel
theorem dL_does_133 : decode cL_does 133 = .ok (.iload_n 1, 1) := by decide +kernel
theorem dL_does_134 : decode cL_does 134 = .ok (.bipush 12, 2) := by decide +kernel
theorem dL_does_136 : decode cL_does 136 = .ok (.ishr, 1) := by decide +kernel
theorem dL_does_137 : decode cL_does 137 = .ok (.bipush 20, 2) := by decide +kernel
theorem dL_does_139 : decode cL_does 139 = .ok (.invokestatic 39, 3) := by decide +kernel
theorem dL_does_142 : decode cL_does 142 = .ok (.iadd, 1) := by decide +kernel
theorem dL_does_143 : decode cL_does 143 = .ok (.iload_n 1, 1) := by decide +kernel
theorem dL_does_144 : decode cL_does 144 = .ok (.bipush 17, 2) := by decide +kernel
theorem dL_does_146 : decode cL_does 146 = .ok (.ishr, 1) := by decide +kernel
theorem dL_does_147 : decode cL_does 147 = .ok (.bipush 6, 2) := by decide +kernel
theorem dL_does_149 : decode cL_does 149 = .ok (.invokestatic 39, 3) := by decide +kernel
theorem dL_does_152 : decode cL_does 152 = .ok (.invokevirtual 47, 3) := by decide +kernel
theorem dL_does_155 : decode cL_does 155 = .ok (.ireturn, 1) := by decide +kernel
theorem dL_does_156 : decode cL_does 156 = .ok (.aload_n 0, 1) := by decide +kernel
theorem dL_does_157 : decode cL_does 157 = .ok (.iload_n 2, 1) := by decide +kernel
theorem dL_does_158 : decode cL_does 158 = .ok (.iload_n 1, 1) := by decide +kernel
theorem dL_does_159 : decode cL_does 159 = .ok (.bipush 7, 2) := by decide +kernel
theorem dL_does_161 : decode cL_does 161 = .ok (.ishr, 1) := by decide +kernel
theorem dL_does_162 : decode cL_does 162 = .ok (.iconst 3, 1) := by decide +kernel
theorem dL_does_163 : decode cL_does 163 = .ok (.invokestatic 39, 3) := by decide +kernel
theorem dL_does_166 : decode cL_does 166 = .ok (.iload_n 1, 1) := by decide +kernel
theorem dL_does_167 : decode cL_does 167 = .ok (.bipush 9, 2) := by decide +kernel
theorem dL_does_169 : decode cL_does 169 = .ok (.ishr, 1) := by decide +kernel
theorem dL_does_170 : decode cL_does 170 = .ok (.bipush 14, 2) := by decide +kernel
theorem dL_does_172 : decode cL_does 172 = .ok (.invokestatic 39, 3) := by decide +kernel
theorem dL_does_175 : decode cL_does 175 = .ok (.iload_n 1, 1) := by decide +kernel
theorem dL_does_176 : decode cL_does 176 = .ok (.bipush 13, 2) := by decide +kernel
theorem dL_does_178 : decode cL_does 178 = .ok (.ishr, 1) := by decide +kernel
theorem dL_does_179 : decode cL_does 179 = .ok (.iconst 3, 1) := by decide +kernel
theorem dL_does_180 : decode cL_does 180 = .ok (.invokestatic 39, 3) := by decide +kernel
theorem dL_does_183 : decode cL_does 183 = .ok (.invokevirtual 51, 3) := by decide +kernel
theorem dL_does_186 : decode cL_does 186 = .ok (.ireturn, 1) := by decide +kernel
theorem dL_does_187 : decode cL_does 187 = .ok (.aload_n 0, 1) := by decide +kernel
theorem dL_does_188 : decode cL_does 188 = .ok (.iload_n 2, 1) := by decide +kernel
theorem dL_does_189 : decode cL_does 189 = .ok (.iload_n 1, 1) := by decide +kernel
theorem dL_does_190 : decode cL_does 190 = .ok (.bipush 7, 2) := by decide +kernel
theorem dL_does_192 : decode cL_does 192 = .ok (.ishr, 1) := by decide +kernel
theorem dL_does_193 : decode cL_does 193 = .ok (.iconst 3, 1) := by decide +kernel
theorem dL_does_194 : decode cL_does 194 = .ok (.invokestatic 39, 3) := by decide +kernel
theorem dL_does_197 : decode cL_does 197 = .ok (.invokevirtual 54, 3) := by decide +kernel
theorem dL_does_200 : decode cL_does 200 = .ok (.ireturn, 1) := by decide +kernel
theorem dL_does_201 : decode cL_does 201 = .ok (.aload_n 0, 1) := by decide +kernel
theorem dL_does_202 : decode cL_does 202 = .ok (.iload_n 1, 1) := by decide +kernel
theorem dL_does_203 : decode cL_does 203 = .ok (.iconst 4, 1) := by decide +kernel
theorem dL_does_204 : decode cL_does 204 = .ok (.ishr, 1) := by decide +kernel
theorem dL_does_205 : decode cL_does 205 = .ok (.bipush 6, 2) := by decide +kernel
theorem dL_does_207 : decode cL_does 207 = .ok (.invokestatic 39, 3) := by decide +kernel
theorem dL_does_210 : decode cL_does 210 = .ok (.iload_n 1, 1) := by decide +kernel
theorem dL_does_211 : decode cL_does 211 = .ok (.bipush 7, 2) := by decide +kernel
theorem dL_does_213 : decode cL_does 213 = .ok (.ishr, 1) := by decide +kernel
theorem dL_does_214 : decode cL_does 214 = .ok (.iconst 1, 1) := by decide +kernel
theorem dL_does_215 : decode cL_does 215 = .ok (.iand, 1) := by decide +kernel
theorem dL_does_216 : decode cL_does 216 = .ok (.invokevirtual 57, 3) := by decide +kernel
theorem dL_does_219 : decode cL_does 219 = .ok (.ireturn, 1) := by decide +kernel
theorem dL_does_220 : decode cL_does 220 = .ok (.aload_n 0, 1) := by decide +kernel
theorem dL_does_221 : decode cL_does 221 = .ok (.iload_n 2, 1) := by decide +kernel
theorem dL_does_222 : decode cL_does 222 = .ok (.iload_n 1, 1) := by decide +kernel
theorem dL_does_223 : decode cL_does 223 = .ok (.bipush 7, 2) := by decide +kernel
theorem dL_does_225 : decode cL_does 225 = .ok (.ishr, 1) := by decide +kernel
theorem dL_does_226 : decode cL_does 226 = .ok (.iconst 3, 1) := by decide +kernel
theorem dL_does_227 : decode cL_does 227 = .ok (.invokestatic 39, 3) := by decide +kernel
theorem dL_does_230 : decode cL_does 230 = .ok (.invokevirtual 60, 3) := by decide +kernel
theorem dL_does_233 : decode cL_does 233 = .ok (.ireturn, 1) := by decide +kernel
theorem dL_does_234 : decode cL_does 234 = .ok (.aload_n 0, 1) := by decide +kernel
theorem dL_does_235 : decode cL_does 235 = .ok (.iload_n 2, 1) := by decide +kernel
theorem dL_does_236 : decode cL_does 236 = .ok (.iload_n 1, 1) := by decide +kernel
theorem dL_does_237 : decode cL_does 237 = .ok (.bipush 7, 2) := by decide +kernel
theorem dL_does_239 : decode cL_does 239 = .ok (.ishr, 1) := by decide +kernel
theorem dL_does_240 : decode cL_does 240 = .ok (.iconst 5, 1) := by decide +kernel
theorem dL_does_241 : decode cL_does 241 = .ok (.invokestatic 39, 3) := by decide +kernel
theorem dL_does_244 : decode cL_does 244 = .ok (.ifCond .ne 7, 3) := by decide +kernel
theorem dL_does_247 : decode cL_does 247 = .ok (.iconst 1, 1) := by decide +kernel
theorem dL_does_248 : decode cL_does 248 = .ok (.goto 4, 3) := by decide +kernel
theorem dL_does_251 : decode cL_does 251 = .ok (.iconst 0, 1) := by decide +kernel
theorem dL_does_252 : decode cL_does 252 = .ok (.invokevirtual 63, 3) := by decide +kernel
theorem dL_does_255 : decode cL_does 255 = .ok (.ireturn, 1) := by decide +kernel
theorem dL_does_256 : decode cL_does 256 = .ok (.aload_n 0, 1) := by decide +kernel
theorem dL_does_257 : decode cL_does 257 = .ok (.iconst 1, 1) := by decide +kernel
theorem dL_does_258 : decode cL_does 258 = .ok (.iload_n 1, 1) := by decide +kernel
theorem dL_does_259 : decode cL_does 259 = .ok (.iconst 4, 1) := by decide +kernel
theorem dL_does_260 : decode cL_does 260 = .ok (.ishr, 1) := by decide +kernel
theorem dL_does_261 : decode cL_does 261 = .ok (.bipush 30, 2) := by decide +kernel
theorem dL_does_263 : decode cL_does 263 = .ok (.invokestatic 39, 3) := by decide +kernel
theorem dL_does_266 : decode cL_does 266 = .ok (.iadd, 1) := by decide +kernel
theorem dL_does_267 : decode cL_does 267 = .ok (.invokevirtual 66, 3) := by decide +kernel
theorem dL_does_270 : decode cL_does 270 = .ok (.ireturn, 1) := by decide +kernel
theorem dL_does_271 : decode cL_does 271 = .ok (.aload_n 0, 1) := by decide +kernel
theorem dL_does_272 : decode cL_does 272 = .ok (.iconst 1, 1) := by decide +kernel
theorem dL_does_273 : decode cL_does 273 = .ok (.iload_n 1, 1) := by decide +kernel
theorem dL_does_274 : decode cL_does 274 = .ok (.iconst 4, 1) := by decide +kernel
theorem dL_does_275 : decode cL_does 275 = .ok (.ishr, 1) := by decide +kernel
theorem dL_does_276 : decode cL_does 276 = .ok (.bipush 40, 2) := by decide +kernel
theorem dL_does_278 : decode cL_does 278 = .ok (.invokestatic 39, 3) := by decide +kernel
theorem dL_does_281 : decode cL_does 281 = .ok (.iadd, 1) := by decide +kernel
theorem dL_does_282 : decode cL_does 282 = .ok (.invokevirtual 69, 3) := by decide +kernel
theorem dL_does_285 : decode cL_does 285 = .ok (.ireturn, 1) := by decide +kernel
theorem dL_does_286 : decode cL_does 286 = .ok (.aload_n 0, 1) := by decide +kernel
theorem dL_does_287 : decode cL_does 287 = .ok (.invokevirtual 72, 3) := by decide +kernel
theorem dL_does_290 : decode cL_does 290 = .ok (.ireturn, 1) := by decide +kernel
theorem dL_law_0 : decode cL_law 0 = .ok (.new 13, 3) := by decide +kernel
theorem dL_law_3 : decode cL_law 3 = .ok (.dup, 1) := by decide +kernel
theorem dL_law_4 : decode cL_law 4 = .ok (.invokespecial 76, 3) := by decide +kernel
theorem dL_law_7 : decode cL_law 7 = .ok (.astore_n 1, 1) := by decide +kernel
theorem dL_law_8 : decode cL_law 8 = .ok (.iconst 0, 1) := by decide +kernel
theorem dL_law_9 : decode cL_law 9 = .ok (.istore_n 2, 1) := by decide +kernel
theorem dL_law_10 : decode cL_law 10 = .ok (.iconst 0, 1) := by decide +kernel
theorem dL_law_11 : decode cL_law 11 = .ok (.istore_n 3, 1) := by decide +kernel
theorem dL_law_12 : decode cL_law 12 = .ok (.iload_n 3, 1) := by decide +kernel
theorem dL_law_13 : decode cL_law 13 = .ok (.bipush 44, 2) := by decide +kernel
theorem dL_law_15 : decode cL_law 15 = .ok (.if_icmp .ge 301, 3) := by decide +kernel
theorem dL_law_18 : decode cL_law 18 = .ok (.aload_n 0, 1) := by decide +kernel
theorem dL_law_19 : decode cL_law 19 = .ok (.iload_n 3, 1) := by decide +kernel
theorem dL_law_20 : decode cL_law 20 = .ok (.invokestatic 77, 3) := by decide +kernel
theorem dL_law_23 : decode cL_law 23 = .ok (.istore 4, 2) := by decide +kernel
theorem dL_law_25 : decode cL_law 25 = .ok (.aload_n 1, 1) := by decide +kernel
theorem dL_law_26 : decode cL_law 26 = .ok (.invokestatic 81, 3) := by decide +kernel
theorem dL_law_29 : decode cL_law 29 = .ok (.lstore 5, 2) := by decide +kernel
theorem dL_law_31 : decode cL_law 31 = .ok (.aload_n 1, 1) := by decide +kernel
theorem dL_law_32 : decode cL_law 32 = .ok (.iload 4, 2) := by decide +kernel
theorem dL_law_34 : decode cL_law 34 = .ok (.invokestatic 85, 3) := by decide +kernel
theorem dL_law_37 : decode cL_law 37 = .ok (.istore 7, 2) := by decide +kernel
theorem dL_law_39 : decode cL_law 39 = .ok (.iload 7, 2) := by decide +kernel
theorem dL_law_41 : decode cL_law 41 = .ok (.ifCond .ge 15, 3) := by decide +kernel
theorem dL_law_44 : decode cL_law 44 = .ok (.aload_n 1, 1) := by decide +kernel
theorem dL_law_45 : decode cL_law 45 = .ok (.invokestatic 81, 3) := by decide +kernel
theorem dL_law_48 : decode cL_law 48 = .ok (.lload 5, 2) := by decide +kernel
theorem dL_law_50 : decode cL_law 50 = .ok (.lcmp, 1) := by decide +kernel
theorem dL_law_51 : decode cL_law 51 = .ok (.ifCond .eq 5, 3) := by decide +kernel
theorem dL_law_54 : decode cL_law 54 = .ok (.iconst 0, 1) := by decide +kernel
theorem dL_law_55 : decode cL_law 55 = .ok (.ireturn, 1) := by decide +kernel
theorem dL_law_56 : decode cL_law 56 = .ok (.iload 7, 2) := by decide +kernel
theorem dL_law_58 : decode cL_law 58 = .ok (.ifCond .ge 7, 3) := by decide +kernel
theorem dL_law_61 : decode cL_law 61 = .ok (.iload_n 2, 1) := by decide +kernel
theorem dL_law_62 : decode cL_law 62 = .ok (.goto 17, 3) := by decide +kernel
theorem dL_law_65 : decode cL_law 65 = .ok (.iload_n 2, 1) := by decide +kernel
theorem dL_law_66 : decode cL_law 66 = .ok (.bipush 6, 2) := by decide +kernel
theorem dL_law_68 : decode cL_law 68 = .ok (.if_icmp .ge 9, 3) := by decide +kernel
theorem dL_law_71 : decode cL_law 71 = .ok (.iload_n 2, 1) := by decide +kernel
theorem dL_law_72 : decode cL_law 72 = .ok (.iconst 1, 1) := by decide +kernel
theorem dL_law_73 : decode cL_law 73 = .ok (.iadd, 1) := by decide +kernel
theorem dL_law_74 : decode cL_law 74 = .ok (.goto 5, 3) := by decide +kernel
theorem dL_law_77 : decode cL_law 77 = .ok (.bipush 6, 2) := by decide +kernel
theorem dL_law_79 : decode cL_law 79 = .ok (.istore_n 2, 1) := by decide +kernel
theorem dL_law_80 : decode cL_law 80 = .ok (.iload 7, 2) := by decide +kernel
theorem dL_law_82 : decode cL_law 82 = .ok (.ifCond .lt 38, 3) := by decide +kernel
theorem dL_law_85 : decode cL_law 85 = .ok (.iload 4, 2) := by decide +kernel
theorem dL_law_87 : decode cL_law 87 = .ok (.bipush 26, 2) := by decide +kernel
theorem dL_law_89 : decode cL_law 89 = .ok (.ishr, 1) := by decide +kernel
theorem dL_law_90 : decode cL_law 90 = .ok (.iconst 3, 1) := by decide +kernel
theorem dL_law_91 : decode cL_law 91 = .ok (.iand, 1) := by decide +kernel
theorem dL_law_92 : decode cL_law 92 = .ok (.ifCond .ne 28, 3) := by decide +kernel
theorem dL_law_95 : decode cL_law 95 = .ok (.aload_n 1, 1) := by decide +kernel
theorem dL_law_96 : decode cL_law 96 = .ok (.invokevirtual 89, 3) := by decide +kernel
theorem dL_law_99 : decode cL_law 99 = .ok (.iload_n 2, 1) := by decide +kernel
theorem dL_law_100 : decode cL_law 100 = .ok (.iconst 1, 1) := by decide +kernel
theorem dL_law_101 : decode cL_law 101 = .ok (.isub, 1) := by decide +kernel
theorem dL_law_102 : decode cL_law 102 = .ok (.if_icmp .ne 13, 3) := by decide +kernel
theorem dL_law_105 : decode cL_law 105 = .ok (.aload_n 1, 1) := by decide +kernel
theorem dL_law_106 : decode cL_law 106 = .ok (.invokestatic 81, 3) := by decide +kernel
theorem dL_law_109 : decode cL_law 109 = .ok (.lload 5, 2) := by decide +kernel
theorem dL_law_111 : decode cL_law 111 = .ok (.lcmp, 1) := by decide +kernel
theorem dL_law_112 : decode cL_law 112 = .ok (.ifCond .eq 5, 3) := by decide +kernel
theorem dL_law_115 : decode cL_law 115 = .ok (.iconst 0, 1) := by decide +kernel
theorem dL_law_116 : decode cL_law 116 = .ok (.ireturn, 1) := by decide +kernel
theorem dL_law_117 : decode cL_law 117 = .ok (.iinc 2 (-1), 3) := by decide +kernel
theorem dL_law_120 : decode cL_law 120 = .ok (.aload_n 1, 1) := by decide +kernel
theorem dL_law_121 : decode cL_law 121 = .ok (.bipush 9, 2) := by decide +kernel
theorem dL_law_123 : decode cL_law 123 = .ok (.invokevirtual 12, 3) := by decide +kernel
theorem dL_law_126 : decode cL_law 126 = .ok (.iload_n 2, 1) := by decide +kernel
theorem dL_law_127 : decode cL_law 127 = .ok (.if_icmp .ne 18, 3) := by decide +kernel
theorem dL_law_130 : decode cL_law 130 = .ok (.aload_n 1, 1) := by decide +kernel
theorem dL_law_131 : decode cL_law 131 = .ok (.iconst 2, 1) := by decide +kernel
theorem dL_law_132 : decode cL_law 132 = .ok (.invokevirtual 12, 3) := by decide +kernel
theorem dL_law_135 : decode cL_law 135 = .ok (.iconst 2, 1) := by decide +kernel
theorem dL_law_136 : decode cL_law 136 = .ok (.aload_n 1, 1) := by decide +kernel
theorem dL_law_137 : decode cL_law 137 = .ok (.iconst 0, 1) := by decide +kernel
theorem dL_law_138 : decode cL_law 138 = .ok (.invokevirtual 12, 3) := by decide +kernel
theorem dL_law_141 : decode cL_law 141 = .ok (.imul, 1) := by decide +kernel
theorem dL_law_142 : decode cL_law 142 = .ok (.if_icmp .le 5, 3) := by decide +kernel
theorem dL_law_145 : decode cL_law 145 = .ok (.iconst 0, 1) := by decide +kernel
theorem dL_law_146 : decode cL_law 146 = .ok (.ireturn, 1) := by decide +kernel
theorem dL_law_147 : decode cL_law 147 = .ok (.iconst 0, 1) := by decide +kernel
theorem dL_law_148 : decode cL_law 148 = .ok (.istore 8, 2) := by decide +kernel
theorem dL_law_150 : decode cL_law 150 = .ok (.iload 8, 2) := by decide +kernel
theorem dL_law_152 : decode cL_law 152 = .ok (.aload_n 1, 1) := by decide +kernel
theorem dL_law_153 : decode cL_law 153 = .ok (.iconst 0, 1) := by decide +kernel
theorem dL_law_154 : decode cL_law 154 = .ok (.invokevirtual 12, 3) := by decide +kernel
theorem dL_law_157 : decode cL_law 157 = .ok (.if_icmp .ge 32, 3) := by decide +kernel
theorem dL_law_160 : decode cL_law 160 = .ok (.aload_n 1, 1) := by decide +kernel
theorem dL_law_161 : decode cL_law 161 = .ok (.iconst 4, 1) := by decide +kernel
theorem dL_law_162 : decode cL_law 162 = .ok (.invokevirtual 12, 3) := by decide +kernel
theorem dL_law_165 : decode cL_law 165 = .ok (.iload 8, 2) := by decide +kernel
theorem dL_law_167 : decode cL_law 167 = .ok (.ishr, 1) := by decide +kernel
theorem dL_law_168 : decode cL_law 168 = .ok (.iconst 1, 1) := by decide +kernel
theorem dL_law_169 : decode cL_law 169 = .ok (.iand, 1) := by decide +kernel
theorem dL_law_170 : decode cL_law 170 = .ok (.aload_n 1, 1) := by decide +kernel
theorem dL_law_171 : decode cL_law 171 = .ok (.iload 8, 2) := by decide +kernel
theorem dL_law_173 : decode cL_law 173 = .ok (.bipush 7, 2) := by decide +kernel
theorem dL_law_175 : decode cL_law 175 = .ok (.invokevirtual 20, 3) := by decide +kernel
theorem dL_law_178 : decode cL_law 178 = .ok (.if_icmp .eq 5, 3) := by decide +kernel
theorem dL_law_181 : decode cL_law 181 = .ok (.iconst 0, 1) := by decide +kernel
theorem dL_law_182 : decode cL_law 182 = .ok (.ireturn, 1) := by decide +kernel
theorem dL_law_183 : decode cL_law 183 = .ok (.iinc 8 1, 3) := by decide +kernel
theorem dL_law_186 : decode cL_law 186 = .ok (.goto (-36), 3) := by decide +kernel
theorem dL_law_189 : decode cL_law 189 = .ok (.aload_n 1, 1) := by decide +kernel
theorem dL_law_190 : decode cL_law 190 = .ok (.iconst 1, 1) := by decide +kernel
theorem dL_law_191 : decode cL_law 191 = .ok (.invokevirtual 12, 3) := by decide +kernel
theorem dL_law_194 : decode cL_law 194 = .ok (.istore 8, 2) := by decide +kernel
theorem dL_law_196 : decode cL_law 196 = .ok (.iconst 0, 1) := by decide +kernel
theorem dL_law_197 : decode cL_law 197 = .ok (.istore 9, 2) := by decide +kernel
theorem dL_law_199 : decode cL_law 199 = .ok (.iload 9, 2) := by decide +kernel
theorem dL_law_201 : decode cL_law 201 = .ok (.aload_n 1, 1) := by decide +kernel
theorem dL_law_202 : decode cL_law 202 = .ok (.iconst 2, 1) := by decide +kernel
theorem dL_law_203 : decode cL_law 203 = .ok (.invokevirtual 12, 3) := by decide +kernel
theorem dL_law_206 : decode cL_law 206 = .ok (.if_icmp .ge 32, 3) := by decide +kernel
theorem dL_law_209 : decode cL_law 209 = .ok (.aload_n 1, 1) := by decide +kernel
theorem dL_law_210 : decode cL_law 210 = .ok (.iload 9, 2) := by decide +kernel
theorem dL_law_212 : decode cL_law 212 = .ok (.iconst 0, 1) := by decide +kernel
theorem dL_law_213 : decode cL_law 213 = .ok (.invokevirtual 32, 3) := by decide +kernel
theorem dL_law_216 : decode cL_law 216 = .ok (.iload 8, 2) := by decide +kernel
theorem dL_law_218 : decode cL_law 218 = .ok (.if_icmp .ge 5, 3) := by decide +kernel
theorem dL_law_221 : decode cL_law 221 = .ok (.iconst 0, 1) := by decide +kernel
theorem dL_law_222 : decode cL_law 222 = .ok (.ireturn, 1) := by decide +kernel
theorem dL_law_223 : decode cL_law 223 = .ok (.aload_n 1, 1) := by decide +kernel
theorem dL_law_224 : decode cL_law 224 = .ok (.iload 9, 2) := by decide +kernel
theorem dL_law_226 : decode cL_law 226 = .ok (.iconst 0, 1) := by decide +kernel
theorem dL_law_227 : decode cL_law 227 = .ok (.invokevirtual 32, 3) := by decide +kernel
theorem dL_law_230 : decode cL_law 230 = .ok (.istore 8, 2) := by decide +kernel
theorem dL_law_232 : decode cL_law 232 = .ok (.iinc 9 1, 3) := by decide +kernel
theorem dL_law_235 : decode cL_law 235 = .ok (.goto (-36), 3) := by decide +kernel
theorem dL_law_238 : decode cL_law 238 = .ok (.aload_n 1, 1) := by decide +kernel
theorem dL_law_239 : decode cL_law 239 = .ok (.aload_n 1, 1) := by decide +kernel
theorem dL_law_240 : decode cL_law 240 = .ok (.iconst 2, 1) := by decide +kernel
theorem dL_law_241 : decode cL_law 241 = .ok (.invokevirtual 12, 3) := by decide +kernel
theorem dL_law_244 : decode cL_law 244 = .ok (.iconst 0, 1) := by decide +kernel
theorem dL_law_245 : decode cL_law 245 = .ok (.invokevirtual 32, 3) := by decide +kernel
theorem dL_law_248 : decode cL_law 248 = .ok (.bipush (-9), 2) := by decide +kernel
theorem dL_law_250 : decode cL_law 250 = .ok (.if_icmp .ne 30, 3) := by decide +kernel
theorem dL_law_253 : decode cL_law 253 = .ok (.aload_n 1, 1) := by decide +kernel
theorem dL_law_254 : decode cL_law 254 = .ok (.invokevirtual 92, 3) := by decide +kernel
theorem dL_law_257 : decode cL_law 257 = .ok (.iconst 1, 1) := by decide +kernel
theorem dL_law_258 : decode cL_law 258 = .ok (.if_icmp .ne 24, 3) := by decide +kernel
theorem dL_law_261 : decode cL_law 261 = .ok (.aload_n 1, 1) := by decide +kernel
theorem dL_law_262 : decode cL_law 262 = .ok (.iconst 0, 1) := by decide +kernel
theorem dL_law_263 : decode cL_law 263 = .ok (.sipush 200, 3) := by decide +kernel
theorem dL_law_266 : decode cL_law 266 = .ok (.invokevirtual 95, 3) := by decide +kernel
theorem dL_law_269 : decode cL_law 269 = .ok (.aload_n 1, 1) := by decide +kernel
theorem dL_law_270 : decode cL_law 270 = .ok (.iconst 1, 1) := by decide +kernel
theorem dL_law_271 : decode cL_law 271 = .ok (.sipush 200, 3) := by decide +kernel
theorem dL_law_274 : decode cL_law 274 = .ok (.invokevirtual 95, 3) := by decide +kernel
theorem dL_law_277 : decode cL_law 277 = .ok (.if_icmp .ne 5, 3) := by decide +kernel
theorem dL_law_280 : decode cL_law 280 = .ok (.iconst 0, 1) := by decide +kernel
theorem dL_law_281 : decode cL_law 281 = .ok (.ireturn, 1) := by decide +kernel
theorem dL_law_282 : decode cL_law 282 = .ok (.aload_n 1, 1) := by decide +kernel
theorem dL_law_283 : decode cL_law 283 = .ok (.iconst 2, 1) := by decide +kernel
theorem dL_law_284 : decode cL_law 284 = .ok (.invokevirtual 12, 3) := by decide +kernel
theorem dL_law_287 : decode cL_law 287 = .ok (.ifCond .ne 23, 3) := by decide +kernel
theorem dL_law_290 : decode cL_law 290 = .ok (.aload_n 1, 1) := by decide +kernel
theorem dL_law_291 : decode cL_law 291 = .ok (.iconst 1, 1) := by decide +kernel
theorem dL_law_292 : decode cL_law 292 = .ok (.iconst 5, 1) := by decide +kernel
theorem dL_law_293 : decode cL_law 293 = .ok (.invokevirtual 95, 3) := by decide +kernel
theorem dL_law_296 : decode cL_law 296 = .ok (.sipush 256, 3) := by decide +kernel
theorem dL_law_299 : decode cL_law 299 = .ok (.aload_n 1, 1) := by decide +kernel
theorem dL_law_300 : decode cL_law 300 = .ok (.iconst 5, 1) := by decide +kernel
theorem dL_law_301 : decode cL_law 301 = .ok (.invokevirtual 12, 3) := by decide +kernel
theorem dL_law_304 : decode cL_law 304 = .ok (.iadd, 1) := by decide +kernel
theorem dL_law_305 : decode cL_law 305 = .ok (.if_icmp .eq 5, 3) := by decide +kernel
theorem dL_law_308 : decode cL_law 308 = .ok (.iconst 0, 1) := by decide +kernel
theorem dL_law_309 : decode cL_law 309 = .ok (.ireturn, 1) := by decide +kernel
theorem dL_law_310 : decode cL_law 310 = .ok (.iinc 3 1, 3) := by decide +kernel
theorem dL_law_313 : decode cL_law 313 = .ok (.goto (-301), 3) := by decide +kernel
theorem dL_law_316 : decode cL_law 316 = .ok (.aload_n 1, 1) := by decide +kernel
theorem dL_law_317 : decode cL_law 317 = .ok (.invokevirtual 89, 3) := by decide +kernel
theorem dL_law_320 : decode cL_law 320 = .ok (.iload_n 2, 1) := by decide +kernel
theorem dL_law_321 : decode cL_law 321 = .ok (.ifCond .ne 8, 3) := by decide +kernel
theorem dL_law_324 : decode cL_law 324 = .ok (.bipush (-2), 2) := by decide +kernel
theorem dL_law_326 : decode cL_law 326 = .ok (.goto 6, 3) := by decide +kernel
theorem dL_law_329 : decode cL_law 329 = .ok (.iload_n 2, 1) := by decide +kernel
theorem dL_law_330 : decode cL_law 330 = .ok (.iconst 1, 1) := by decide +kernel
theorem dL_law_331 : decode cL_law 331 = .ok (.isub, 1) := by decide +kernel
theorem dL_law_332 : decode cL_law 332 = .ok (.if_icmp .ne 7, 3) := by decide +kernel
theorem dL_law_335 : decode cL_law 335 = .ok (.iconst 1, 1) := by decide +kernel
theorem dL_law_336 : decode cL_law 336 = .ok (.goto 4, 3) := by decide +kernel
theorem dL_law_339 : decode cL_law 339 = .ok (.iconst 0, 1) := by decide +kernel
theorem dL_law_340 : decode cL_law 340 = .ok (.ireturn, 1) := by decide +kernel
