theorem dL_cell_0 : decode cL_cell 0 = .ok (.iload_n 1, 1) := by decide +kernel
theorem dL_cell_1 : decode cL_cell 1 = .ok (.aload_n 0, 1) := by decide +kernel
theorem dL_cell_2 : decode cL_cell 2 = .ok (.arraylength, 1) := by decide +kernel
theorem dL_cell_3 : decode cL_cell 3 = .ok (.if_icmp .ge 9, 3) := by decide +kernel
theorem dL_cell_6 : decode cL_cell 6 = .ok (.aload_n 0, 1) := by decide +kernel
theorem dL_cell_7 : decode cL_cell 7 = .ok (.iload_n 1, 1) := by decide +kernel
theorem dL_cell_8 : decode cL_cell 8 = .ok (.iaload, 1) := by decide +kernel
theorem dL_cell_9 : decode cL_cell 9 = .ok (.goto 11, 3) := by decide +kernel
theorem dL_cell_12 : decode cL_cell 12 = .ok (.ldc 7, 2) := by decide +kernel
theorem dL_cell_14 : decode cL_cell 14 = .ok (.iload_n 1, 1) := by decide +kernel
theorem dL_cell_15 : decode cL_cell 15 = .ok (.sipush 313, 3) := by decide +kernel
theorem dL_cell_18 : decode cL_cell 18 = .ok (.iadd, 1) := by decide +kernel
theorem dL_cell_19 : decode cL_cell 19 = .ok (.imul, 1) := by decide +kernel
theorem dL_cell_20 : decode cL_cell 20 = .ok (.ireturn, 1) := by decide +kernel
theorem dL_up_0 : decode cL_up 0 = .ok (.iload_n 0, 1) := by decide +kernel
theorem dL_up_1 : decode cL_up 1 = .ok (.ldc 8, 2) := by decide +kernel
theorem dL_up_3 : decode cL_up 3 = .ok (.iand, 1) := by decide +kernel
theorem dL_up_4 : decode cL_up 4 = .ok (.iload_n 1, 1) := by decide +kernel
theorem dL_up_5 : decode cL_up 5 = .ok (.irem, 1) := by decide +kernel
theorem dL_up_6 : decode cL_up 6 = .ok (.ireturn, 1) := by decide +kernel
theorem dL_isError_0 : decode cL_isError 0 = .ok (.iload_n 0, 1) := by decide +kernel
theorem dL_isError_1 : decode cL_isError 1 = .ok (.ifCond .ge 13, 3) := by decide +kernel
theorem dL_isError_4 : decode cL_isError 4 = .ok (.iload_n 0, 1) := by decide +kernel
theorem dL_isError_5 : decode cL_isError 5 = .ok (.bipush (-6), 2) := by decide +kernel
theorem dL_isError_7 : decode cL_isError 7 = .ok (.if_icmp .le 7, 3) := by decide +kernel
theorem dL_isError_10 : decode cL_isError 10 = .ok (.iconst 1, 1) := by decide +kernel
theorem dL_isError_11 : decode cL_isError 11 = .ok (.goto 4, 3) := by decide +kernel
theorem dL_isError_14 : decode cL_isError 14 = .ok (.iconst 0, 1) := by decide +kernel
theorem dL_isError_15 : decode cL_isError 15 = .ok (.ireturn, 1) := by decide +kernel
theorem dL_looks_0 : decode cL_looks 0 = .ok (.ldc2_w 11, 3) := by decide +kernel
theorem dL_looks_3 : decode cL_looks 3 = .ok (.ldc2_w 11, 3) := by decide +kernel
theorem dL_looks_6 : decode cL_looks 6 = .ok (.aload_n 0, 1) := by decide +kernel
theorem dL_looks_7 : decode cL_looks 7 = .ok (.invokevirtual 13, 3) := by decide +kernel
theorem dL_looks_10 : decode cL_looks 10 = .ok (.i2l, 1) := by decide +kernel
theorem dL_looks_11 : decode cL_looks 11 = .ok (.lmul, 1) := by decide +kernel
theorem dL_looks_12 : decode cL_looks 12 = .ok (.aload_n 0, 1) := by decide +kernel
theorem dL_looks_13 : decode cL_looks 13 = .ok (.invokevirtual 17, 3) := by decide +kernel
theorem dL_looks_16 : decode cL_looks 16 = .ok (.i2l, 1) := by decide +kernel
theorem dL_looks_17 : decode cL_looks 17 = .ok (.ladd, 1) := by decide +kernel
theorem dL_looks_18 : decode cL_looks 18 = .ok (.lmul, 1) := by decide +kernel
theorem dL_looks_19 : decode cL_looks 19 = .ok (.aload_n 0, 1) := by decide +kernel
theorem dL_looks_20 : decode cL_looks 20 = .ok (.invokevirtual 20, 3) := by decide +kernel
theorem dL_looks_23 : decode cL_looks 23 = .ok (.i2l, 1) := by decide +kernel
theorem dL_looks_24 : decode cL_looks 24 = .ok (.ladd, 1) := by decide +kernel
theorem dL_looks_25 : decode cL_looks 25 = .ok (.lstore_n 1, 1) := by decide +kernel
theorem dL_looks_26 : decode cL_looks 26 = .ok (.iconst 0, 1) := by decide +kernel
theorem dL_looks_27 : decode cL_looks 27 = .ok (.istore_n 3, 1) := by decide +kernel
theorem dL_looks_28 : decode cL_looks 28 = .ok (.iload_n 3, 1) := by decide +kernel
theorem dL_looks_29 : decode cL_looks 29 = .ok (.bipush 7, 2) := by decide +kernel
theorem dL_looks_31 : decode cL_looks 31 = .ok (.if_icmp .ge 22, 3) := by decide +kernel
theorem dL_looks_34 : decode cL_looks 34 = .ok (.ldc2_w 11, 3) := by decide +kernel
theorem dL_looks_37 : decode cL_looks 37 = .ok (.lload_n 1, 1) := by decide +kernel
theorem dL_looks_38 : decode cL_looks 38 = .ok (.lmul, 1) := by decide +kernel
theorem dL_looks_39 : decode cL_looks 39 = .ok (.aload_n 0, 1) := by decide +kernel
theorem dL_looks_40 : decode cL_looks 40 = .ok (.iload_n 3, 1) := by decide +kernel
theorem dL_looks_41 : decode cL_looks 41 = .ok (.invokevirtual 23, 3) := by decide +kernel
theorem dL_looks_44 : decode cL_looks 44 = .ok (.i2l, 1) := by decide +kernel
theorem dL_looks_45 : decode cL_looks 45 = .ok (.ladd, 1) := by decide +kernel
theorem dL_looks_46 : decode cL_looks 46 = .ok (.lstore_n 1, 1) := by decide +kernel
theorem dL_looks_47 : decode cL_looks 47 = .ok (.iinc 3 1, 3) := by decide +kernel
theorem dL_looks_50 : decode cL_looks 50 = .ok (.goto (-22), 3) := by decide +kernel
theorem dL_looks_53 : decode cL_looks 53 = .ok (.iconst 0, 1) := by decide +kernel
theorem dL_looks_54 : decode cL_looks 54 = .ok (.istore_n 3, 1) := by decide +kernel
theorem dL_looks_55 : decode cL_looks 55 = .ok (.iload_n 3, 1) := by decide +kernel
theorem dL_looks_56 : decode cL_looks 56 = .ok (.bipush 40, 2) := by decide +kernel
theorem dL_looks_58 : decode cL_looks 58 = .ok (.if_icmp .ge 47, 3) := by decide +kernel
theorem dL_looks_61 : decode cL_looks 61 = .ok (.ldc2_w 11, 3) := by decide +kernel
theorem dL_looks_64 : decode cL_looks 64 = .ok (.ldc2_w 11, 3) := by decide +kernel
theorem dL_looks_67 : decode cL_looks 67 = .ok (.ldc2_w 11, 3) := by decide +kernel
theorem dL_looks_70 : decode cL_looks 70 = .ok (.lload_n 1, 1) := by decide +kernel
theorem dL_looks_71 : decode cL_looks 71 = .ok (.lmul, 1) := by decide +kernel
theorem dL_looks_72 : decode cL_looks 72 = .ok (.aload_n 0, 1) := by decide +kernel
theorem dL_looks_73 : decode cL_looks 73 = .ok (.iload_n 3, 1) := by decide +kernel
theorem dL_looks_74 : decode cL_looks 74 = .ok (.iconst 0, 1) := by decide +kernel
theorem dL_looks_75 : decode cL_looks 75 = .ok (.invokevirtual 27, 3) := by decide +kernel
theorem dL_looks_78 : decode cL_looks 78 = .ok (.i2l, 1) := by decide +kernel
theorem dL_looks_79 : decode cL_looks 79 = .ok (.ladd, 1) := by decide +kernel
theorem dL_looks_80 : decode cL_looks 80 = .ok (.lmul, 1) := by decide +kernel
theorem dL_looks_81 : decode cL_looks 81 = .ok (.aload_n 0, 1) := by decide +kernel
theorem dL_looks_82 : decode cL_looks 82 = .ok (.iload_n 3, 1) := by decide +kernel
theorem dL_looks_83 : decode cL_looks 83 = .ok (.iconst 1, 1) := by decide +kernel
theorem dL_looks_84 : decode cL_looks 84 = .ok (.invokevirtual 27, 3) := by decide +kernel
theorem dL_looks_87 : decode cL_looks 87 = .ok (.i2l, 1) := by decide +kernel
theorem dL_looks_88 : decode cL_looks 88 = .ok (.ladd, 1) := by decide +kernel
theorem dL_looks_89 : decode cL_looks 89 = .ok (.lmul, 1) := by decide +kernel
theorem dL_looks_90 : decode cL_looks 90 = .ok (.aload_n 0, 1) := by decide +kernel
theorem dL_looks_91 : decode cL_looks 91 = .ok (.iload_n 3, 1) := by decide +kernel
theorem dL_looks_92 : decode cL_looks 92 = .ok (.iconst 2, 1) := by decide +kernel
theorem dL_looks_93 : decode cL_looks 93 = .ok (.invokevirtual 27, 3) := by decide +kernel
theorem dL_looks_96 : decode cL_looks 96 = .ok (.i2l, 1) := by decide +kernel
theorem dL_looks_97 : decode cL_looks 97 = .ok (.ladd, 1) := by decide +kernel
theorem dL_looks_98 : decode cL_looks 98 = .ok (.lstore_n 1, 1) := by decide +kernel
theorem dL_looks_99 : decode cL_looks 99 = .ok (.iinc 3 1, 3) := by decide +kernel
theorem dL_looks_102 : decode cL_looks 102 = .ok (.goto (-47), 3) := by decide +kernel
theorem dL_looks_105 : decode cL_looks 105 = .ok (.iconst 0, 1) := by decide +kernel
theorem dL_looks_106 : decode cL_looks 106 = .ok (.istore_n 3, 1) := by decide +kernel
theorem dL_looks_107 : decode cL_looks 107 = .ok (.iload_n 3, 1) := by decide +kernel
theorem dL_looks_108 : decode cL_looks 108 = .ok (.bipush 10, 2) := by decide +kernel
theorem dL_looks_110 : decode cL_looks 110 = .ok (.if_icmp .ge 97, 3) := by decide +kernel
theorem dL_looks_113 : decode cL_looks 113 = .ok (.ldc2_w 11, 3) := by decide +kernel
theorem dL_looks_116 : decode cL_looks 116 = .ok (.lload_n 1, 1) := by decide +kernel
theorem dL_looks_117 : decode cL_looks 117 = .ok (.lmul, 1) := by decide +kernel
theorem dL_looks_118 : decode cL_looks 118 = .ok (.aload_n 0, 1) := by decide +kernel
theorem dL_looks_119 : decode cL_looks 119 = .ok (.iload_n 3, 1) := by decide +kernel
theorem dL_looks_120 : decode cL_looks 120 = .ok (.invokevirtual 31, 3) := by decide +kernel
theorem dL_looks_123 : decode cL_looks 123 = .ok (.i2l, 1) := by decide +kernel
theorem dL_looks_124 : decode cL_looks 124 = .ok (.ladd, 1) := by decide +kernel
theorem dL_looks_125 : decode cL_looks 125 = .ok (.lstore_n 1, 1) := by decide +kernel
theorem dL_looks_126 : decode cL_looks 126 = .ok (.iconst 0, 1) := by decide +kernel
theorem dL_looks_127 : decode cL_looks 127 = .ok (.istore 4, 2) := by decide +kernel
theorem dL_looks_129 : decode cL_looks 129 = .ok (.iload 4, 2) := by decide +kernel
theorem dL_looks_131 : decode cL_looks 131 = .ok (.bipush 6, 2) := by decide +kernel
theorem dL_looks_133 : decode cL_looks 133 = .ok (.if_icmp .ge 24, 3) := by decide +kernel
theorem dL_looks_136 : decode cL_looks 136 = .ok (.ldc2_w 11, 3) := by decide +kernel
theorem dL_looks_139 : decode cL_looks 139 = .ok (.lload_n 1, 1) := by decide +kernel
theorem dL_looks_140 : decode cL_looks 140 = .ok (.lmul, 1) := by decide +kernel
theorem dL_looks_141 : decode cL_looks 141 = .ok (.aload_n 0, 1) := by decide +kernel
theorem dL_looks_142 : decode cL_looks 142 = .ok (.iload_n 3, 1) := by decide +kernel
theorem dL_looks_143 : decode cL_looks 143 = .ok (.iload 4, 2) := by decide +kernel
theorem dL_looks_145 : decode cL_looks 145 = .ok (.invokevirtual 34, 3) := by decide +kernel
theorem dL_looks_148 : decode cL_looks 148 = .ok (.i2l, 1) := by decide +kernel
theorem dL_looks_149 : decode cL_looks 149 = .ok (.ladd, 1) := by decide +kernel
theorem dL_looks_150 : decode cL_looks 150 = .ok (.lstore_n 1, 1) := by decide +kernel
theorem dL_looks_151 : decode cL_looks 151 = .ok (.iinc 4 1, 3) := by decide +kernel
theorem dL_looks_154 : decode cL_looks 154 = .ok (.goto (-25), 3) := by decide +kernel
theorem dL_looks_157 : decode cL_looks 157 = .ok (.iconst 0, 1) := by decide +kernel
theorem dL_looks_158 : decode cL_looks 158 = .ok (.istore 4, 2) := by decide +kernel
theorem dL_looks_160 : decode cL_looks 160 = .ok (.iload 4, 2) := by decide +kernel
theorem dL_looks_162 : decode cL_looks 162 = .ok (.bipush 10, 2) := by decide +kernel
theorem dL_looks_164 : decode cL_looks 164 = .ok (.if_icmp .ge 37, 3) := by decide +kernel
theorem dL_looks_167 : decode cL_looks 167 = .ok (.ldc2_w 11, 3) := by decide +kernel
theorem dL_looks_170 : decode cL_looks 170 = .ok (.ldc2_w 11, 3) := by decide +kernel
theorem dL_looks_173 : decode cL_looks 173 = .ok (.lload_n 1, 1) := by decide +kernel
theorem dL_looks_174 : decode cL_looks 174 = .ok (.lmul, 1) := by decide +kernel
theorem dL_looks_175 : decode cL_looks 175 = .ok (.aload_n 0, 1) := by decide +kernel
theorem dL_looks_176 : decode cL_looks 176 = .ok (.iload_n 3, 1) := by decide +kernel
theorem dL_looks_177 : decode cL_looks 177 = .ok (.iload 4, 2) := by decide +kernel
theorem dL_looks_179 : decode cL_looks 179 = .ok (.invokevirtual 37, 3) := by decide +kernel
theorem dL_looks_182 : decode cL_looks 182 = .ok (.i2l, 1) := by decide +kernel
theorem dL_looks_183 : decode cL_looks 183 = .ok (.ladd, 1) := by decide +kernel
theorem dL_looks_184 : decode cL_looks 184 = .ok (.lmul, 1) := by decide +kernel
theorem dL_looks_185 : decode cL_looks 185 = .ok (.aload_n 0, 1) := by decide +kernel
theorem dL_looks_186 : decode cL_looks 186 = .ok (.iload_n 3, 1) := by decide +kernel
theorem dL_looks_187 : decode cL_looks 187 = .ok (.iload 4, 2) := by decide +kernel
theorem dL_looks_189 : decode cL_looks 189 = .ok (.invokevirtual 40, 3) := by decide +kernel
theorem dL_looks_192 : decode cL_looks 192 = .ok (.i2l, 1) := by decide +kernel
theorem dL_looks_193 : decode cL_looks 193 = .ok (.ladd, 1) := by decide +kernel
theorem dL_looks_194 : decode cL_looks 194 = .ok (.lstore_n 1, 1) := by decide +kernel
theorem dL_looks_195 : decode cL_looks 195 = .ok (.iinc 4 1, 3) := by decide +kernel
theorem dL_looks_198 : decode cL_looks 198 = .ok (.goto (-38), 3) := by decide +kernel
theorem dL_looks_201 : decode cL_looks 201 = .ok (.iinc 3 1, 3) := by decide +kernel
theorem dL_looks_204 : decode cL_looks 204 = .ok (.goto (-97), 3) := by decide +kernel
theorem dL_looks_207 : decode cL_looks 207 = .ok (.ldc2_w 11, 3) := by decide +kernel
theorem dL_looks_210 : decode cL_looks 210 = .ok (.lload_n 1, 1) := by decide +kernel
theorem dL_looks_211 : decode cL_looks 211 = .ok (.lmul, 1) := by decide +kernel
theorem dL_looks_212 : decode cL_looks 212 = .ok (.aload_n 0, 1) := by decide +kernel
theorem dL_looks_213 : decode cL_looks 213 = .ok (.invokevirtual 43, 3) := by decide +kernel
theorem dL_looks_216 : decode cL_looks 216 = .ok (.i2l, 1) := by decide +kernel
theorem dL_looks_217 : decode cL_looks 217 = .ok (.ladd, 1) := by decide +kernel
theorem dL_looks_218 : decode cL_looks 218 = .ok (.lreturn, 1) := by decide +kernel
theorem dL_act_0 : decode cL_act 0 = .ok (.aload_n 0, 1) := by decide +kernel
theorem dL_act_1 : decode cL_act 1 = .ok (.invokevirtual 13, 3) := by decide +kernel
theorem dL_act_4 : decode cL_act 4 = .ok (.istore_n 3, 1) := by decide +kernel
theorem dL_act_5 : decode cL_act 5 = .ok (.iload_n 3, 1) := by decide +kernel
theorem dL_act_6 : decode cL_act 6 = .ok (.iconst 2, 1) := by decide +kernel
theorem dL_act_7 : decode cL_act 7 = .ok (.if_icmp .ge 8, 3) := by decide +kernel
theorem dL_act_10 : decode cL_act 10 = .ok (.aload_n 0, 1) := by decide +kernel
theorem dL_act_11 : decode cL_act 11 = .ok (.invokevirtual 46, 3) := by decide +kernel
theorem dL_act_14 : decode cL_act 14 = .ok (.ireturn, 1) := by decide +kernel
theorem dL_act_15 : decode cL_act 15 = .ok (.aload_n 0, 1) := by decide +kernel
theorem dL_act_16 : decode cL_act 16 = .ok (.iload_n 2, 1) := by decide +kernel
theorem dL_act_17 : decode cL_act 17 = .ok (.iload_n 3, 1) := by decide +kernel
theorem dL_act_18 : decode cL_act 18 = .ok (.invokestatic 49, 3) := by decide +kernel
theorem dL_act_21 : decode cL_act 21 = .ok (.invokevirtual 31, 3) := by decide +kernel
theorem dL_act_24 : decode cL_act 24 = .ok (.istore 4, 2) := by decide +kernel
theorem dL_act_26 : decode cL_act 26 = .ok (.aload_n 0, 1) := by decide +kernel
theorem dL_act_27 : decode cL_act 27 = .ok (.iload_n 2, 1) := by decide +kernel
theorem dL_act_28 : decode cL_act 28 = .ok (.iconst 4, 1) := by decide +kernel
theorem dL_act_29 : decode cL_act 29 = .ok (.ishr, 1) := by decide +kernel
theorem dL_act_30 : decode cL_act 30 = .ok (.iload_n 3, 1) := by decide +kernel
theorem dL_act_31 : decode cL_act 31 = .ok (.invokestatic 49, 3) := by decide +kernel
theorem dL_act_34 : decode cL_act 34 = .ok (.invokevirtual 31, 3) := by decide +kernel
theorem dL_act_37 : decode cL_act 37 = .ok (.istore 5, 2) := by decide +kernel
theorem dL_act_39 : decode cL_act 39 = .ok (.iload_n 2, 1) := by decide +kernel
theorem dL_act_40 : decode cL_act 40 = .ok (.bipush 8, 2) := by decide +kernel
theorem dL_act_42 : decode cL_act 42 = .ok (.ishr, 1) := by decide +kernel
theorem dL_act_43 : decode cL_act 43 = .ok (.iconst 5, 1) := by decide +kernel
theorem dL_act_44 : decode cL_act 44 = .ok (.invokestatic 49, 3) := by decide +kernel
theorem dL_act_47 : decode cL_act 47 = .ok (.istore 6, 2) := by decide +kernel
theorem dL_act_49 : decode cL_act 49 = .ok (.iload_n 1, 1) := by decide +kernel
theorem dL_act_50 : decode cL_act 50 = .ok (.bipush 32, 2) := by decide +kernel
theorem dL_act_52 : decode cL_act 52 = .ok (.invokestatic 49, 3) := by decide +kernel
theorem dL_act_55 : decode cL_act 55 = .ok (.tableswitch 377 0 23 #[109, 114, 143, 163, 163, 178, 178, 178, 224, 239, 239, 256, 271, 293, 317, 335, 335, 335, 340, 340, 340, 350, 350, 350], 109) := by decide +kernel
theorem dL_act_164 : decode cL_act 164 = .ok (.aload_n 0, 1) := by decide +kernel
theorem dL_act_165 : decode cL_act 165 = .ok (.invokevirtual 46, 3) := by decide +kernel
theorem dL_act_168 : decode cL_act 168 = .ok (.ireturn, 1) := by decide +kernel
theorem dL_act_169 : decode cL_act 169 = .ok (.iload_n 2, 1) := by decide +kernel
theorem dL_act_170 : decode cL_act 170 = .ok (.iconst 1, 1) := by decide +kernel
theorem dL_act_171 : decode cL_act 171 = .ok (.iand, 1) := by decide +kernel
theorem dL_act_172 : decode cL_act 172 = .ok (.ifCond .ne 12, 3) := by decide +kernel
theorem dL_act_175 : decode cL_act 175 = .ok (.aload_n 0, 1) := by decide +kernel
theorem dL_act_176 : decode cL_act 176 = .ok (.iload 4, 2) := by decide +kernel
theorem dL_act_178 : decode cL_act 178 = .ok (.invokevirtual 54, 3) := by decide +kernel
theorem dL_act_181 : decode cL_act 181 = .ok (.goto 16, 3) := by decide +kernel
theorem dL_act_184 : decode cL_act 184 = .ok (.aload_n 0, 1) := by decide +kernel
theorem dL_act_185 : decode cL_act 185 = .ok (.iload 4, 2) := by decide +kernel
theorem dL_act_187 : decode cL_act 187 = .ok (.iload_n 2, 1) := by decide +kernel
theorem dL_act_188 : decode cL_act 188 = .ok (.iconst 5, 1) := by decide +kernel
theorem dL_act_189 : decode cL_act 189 = .ok (.ishr, 1) := by decide +kernel
theorem dL_act_190 : decode cL_act 190 = .ok (.iload_n 3, 1) := by decide +kernel
theorem dL_act_191 : decode cL_act 191 = .ok (.invokestatic 49, 3) := by decide +kernel
theorem dL_act_194 : decode cL_act 194 = .ok (.invokevirtual 57, 3) := by decide +kernel
theorem dL_act_197 : decode cL_act 197 = .ok (.ireturn, 1) := by decide +kernel
theorem dL_act_198 : decode cL_act 198 = .ok (.aload_n 0, 1) := by decide +kernel
theorem dL_act_199 : decode cL_act 199 = .ok (.iload 4, 2) := by decide +kernel
theorem dL_act_201 : decode cL_act 201 = .ok (.iload_n 2, 1) := by decide +kernel
theorem dL_act_202 : decode cL_act 202 = .ok (.iconst 4, 1) := by decide +kernel
theorem dL_act_203 : decode cL_act 203 = .ok (.ishr, 1) := by decide +kernel
theorem dL_act_204 : decode cL_act 204 = .ok (.iconst 1, 1) := by decide +kernel
theorem dL_act_205 : decode cL_act 205 = .ok (.iand, 1) := by decide +kernel
theorem dL_act_206 : decode cL_act 206 = .ok (.ifCond .ne 7, 3) := by decide +kernel
theorem dL_act_209 : decode cL_act 209 = .ok (.iconst 1, 1) := by decide +kernel
theorem dL_act_210 : decode cL_act 210 = .ok (.goto 4, 3) := by decide +kernel
theorem dL_act_213 : decode cL_act 213 = .ok (.iconst 0, 1) := by decide +kernel
theorem dL_act_214 : decode cL_act 214 = .ok (.invokevirtual 60, 3) := by decide +kernel
theorem dL_act_217 : decode cL_act 217 = .ok (.ireturn, 1) := by decide +kernel
theorem dL_act_218 : decode cL_act 218 = .ok (.aload_n 0, 1) := by decide +kernel
theorem dL_act_219 : decode cL_act 219 = .ok (.iload 4, 2) := by decide +kernel
theorem dL_act_221 : decode cL_act 221 = .ok (.iload_n 2, 1) := by decide +kernel
theorem dL_act_222 : decode cL_act 222 = .ok (.iconst 5, 1) := by decide +kernel
theorem dL_act_223 : decode cL_act 223 = .ok (.ishr, 1) := by decide +kernel
theorem dL_act_224 : decode cL_act 224 = .ok (.bipush 12, 2) := by decide +kernel
theorem dL_act_226 : decode cL_act 226 = .ok (.invokestatic 49, 3) := by decide +kernel
theorem dL_act_229 : decode cL_act 229 = .ok (.invokevirtual 64, 3) := by decide +kernel
theorem dL_act_232 : decode cL_act 232 = .ok (.ireturn, 1) := by decide +kernel
theorem dL_act_233 : decode cL_act 233 = .ok (.aload_n 0, 1) := by decide +kernel
theorem dL_act_234 : decode cL_act 234 = .ok (.iload 4, 2) := by decide +kernel
theorem dL_act_236 : decode cL_act 236 = .ok (.iload 6, 2) := by decide +kernel
theorem dL_act_238 : decode cL_act 238 = .ok (.iload_n 2, 1) := by decide +kernel
theorem dL_act_239 : decode cL_act 239 = .ok (.bipush 12, 2) := by decide +kernel
theorem dL_act_241 : decode cL_act 241 = .ok (.ishr, 1) := by decide +kernel
theorem dL_act_242 : decode cL_act 242 = .ok (.iconst 1, 1) := by decide +kernel
theorem dL_act_243 : decode cL_act 243 = .ok (.iand, 1) := by decide +kernel
theorem dL_act_244 : decode cL_act 244 = .ok (.ifCond .ne 7, 3) := by decide +kernel
theorem dL_act_247 : decode cL_act 247 = .ok (.iconst (-1), 1) := by decide +kernel
theorem dL_act_248 : decode cL_act 248 = .ok (.goto 18, 3) := by decide +kernel
theorem dL_act_251 : decode cL_act 251 = .ok (.iload 6, 2) := by decide +kernel
theorem dL_act_253 : decode cL_act 253 = .ok (.iload_n 2, 1) := by decide +kernel
theorem dL_act_254 : decode cL_act 254 = .ok (.bipush 13, 2) := by decide +kernel
theorem dL_act_256 : decode cL_act 256 = .ok (.ishr, 1) := by decide +kernel
theorem dL_act_257 : decode cL_act 257 = .ok (.bipush 10, 2) := by decide +kernel
theorem dL_act_259 : decode cL_act 259 = .ok (.iload 6, 2) := by decide +kernel
theorem dL_act_261 : decode cL_act 261 = .ok (.isub, 1) := by decide +kernel
theorem dL_act_262 : decode cL_act 262 = .ok (.invokestatic 49, 3) := by decide +kernel
theorem dL_act_265 : decode cL_act 265 = .ok (.iadd, 1) := by decide +kernel
theorem dL_act_266 : decode cL_act 266 = .ok (.iload_n 2, 1) := by decide +kernel
theorem dL_act_267 : decode cL_act 267 = .ok (.bipush 7, 2) := by decide +kernel
theorem dL_act_269 : decode cL_act 269 = .ok (.ishr, 1) := by decide +kernel
theorem dL_act_270 : decode cL_act 270 = .ok (.bipush 100, 2) := by decide +kernel
theorem dL_act_272 : decode cL_act 272 = .ok (.invokestatic 49, 3) := by decide +kernel
theorem dL_act_275 : decode cL_act 275 = .ok (.invokevirtual 67, 3) := by decide +kernel
theorem dL_act_278 : decode cL_act 278 = .ok (.ireturn, 1) := by decide +kernel
theorem dL_act_279 : decode cL_act 279 = .ok (.aload_n 0, 1) := by decide +kernel
theorem dL_act_280 : decode cL_act 280 = .ok (.iload 4, 2) := by decide +kernel
theorem dL_act_282 : decode cL_act 282 = .ok (.iload_n 2, 1) := by decide +kernel
theorem dL_act_283 : decode cL_act 283 = .ok (.iconst 5, 1) := by decide +kernel
theorem dL_act_284 : decode cL_act 284 = .ok (.ishr, 1) := by decide +kernel
theorem dL_act_285 : decode cL_act 285 = .ok (.bipush 6, 2) := by decide +kernel
theorem dL_act_287 : decode cL_act 287 = .ok (.invokestatic 49, 3) := by decide +kernel
theorem dL_act_290 : decode cL_act 290 = .ok (.invokevirtual 71, 3) := by decide +kernel
theorem dL_act_293 : decode cL_act 293 = .ok (.ireturn, 1) := by decide +kernel
theorem dL_act_294 : decode cL_act 294 = .ok (.aload_n 0, 1) := by decide +kernel
theorem dL_act_295 : decode cL_act 295 = .ok (.iload 4, 2) := by decide +kernel
theorem dL_act_297 : decode cL_act 297 = .ok (.iload_n 2, 1) := by decide +kernel
theorem dL_act_298 : decode cL_act 298 = .ok (.bipush 8, 2) := by decide +kernel
theorem dL_act_300 : decode cL_act 300 = .ok (.ishr, 1) := by decide +kernel
theorem dL_act_301 : decode cL_act 301 = .ok (.iconst 4, 1) := by decide +kernel
theorem dL_act_302 : decode cL_act 302 = .ok (.invokestatic 49, 3) := by decide +kernel
theorem dL_act_305 : decode cL_act 305 = .ok (.iload 5, 2) := by decide +kernel
theorem dL_act_307 : decode cL_act 307 = .ok (.invokevirtual 74, 3) := by decide +kernel
theorem dL_act_310 : decode cL_act 310 = .ok (.ireturn, 1) := by decide +kernel
theorem dL_act_311 : decode cL_act 311 = .ok (.aload_n 0, 1) := by decide +kernel
theorem dL_act_312 : decode cL_act 312 = .ok (.iload 4, 2) := by decide +kernel
theorem dL_act_314 : decode cL_act 314 = .ok (.iload_n 2, 1) := by decide +kernel
theorem dL_act_315 : decode cL_act 315 = .ok (.bipush 8, 2) := by decide +kernel
theorem dL_act_317 : decode cL_act 317 = .ok (.ishr, 1) := by decide +kernel
theorem dL_act_318 : decode cL_act 318 = .ok (.iconst 4, 1) := by decide +kernel
theorem dL_act_319 : decode cL_act 319 = .ok (.invokestatic 49, 3) := by decide +kernel
theorem dL_act_322 : decode cL_act 322 = .ok (.invokevirtual 78, 3) := by decide +kernel
theorem dL_act_325 : decode cL_act 325 = .ok (.ireturn, 1) := by decide +kernel
theorem dL_act_326 : decode cL_act 326 = .ok (.aload_n 0, 1) := by decide +kernel
theorem dL_act_327 : decode cL_act 327 = .ok (.iload_n 2, 1) := by decide +kernel
theorem dL_act_328 : decode cL_act 328 = .ok (.bipush 60, 2) := by decide +kernel
theorem dL_act_330 : decode cL_act 330 = .ok (.invokestatic 49, 3) := by decide +kernel
theorem dL_act_333 : decode cL_act 333 = .ok (.iload_n 2, 1) := by decide +kernel
theorem dL_act_334 : decode cL_act 334 = .ok (.bipush 6, 2) := by decide +kernel
theorem dL_act_336 : decode cL_act 336 = .ok (.ishr, 1) := by decide +kernel
theorem dL_act_337 : decode cL_act 337 = .ok (.bipush 101, 2) := by decide +kernel
theorem dL_act_339 : decode cL_act 339 = .ok (.invokestatic 49, 3) := by decide +kernel
theorem dL_act_342 : decode cL_act 342 = .ok (.iconst 1, 1) := by decide +kernel
theorem dL_act_343 : decode cL_act 343 = .ok (.isub, 1) := by decide +kernel
theorem dL_act_344 : decode cL_act 344 = .ok (.invokevirtual 81, 3) := by decide +kernel
theorem dL_act_347 : decode cL_act 347 = .ok (.ireturn, 1) := by decide +kernel
theorem dL_act_348 : decode cL_act 348 = .ok (.aload_n 0, 1) := by decide +kernel
theorem dL_act_349 : decode cL_act 349 = .ok (.iload_n 2, 1) := by decide +kernel
theorem dL_act_350 : decode cL_act 350 = .ok (.iconst 3, 1) := by decide +kernel
theorem dL_act_351 : decode cL_act 351 = .ok (.iand, 1) := by decide +kernel
theorem dL_act_352 : decode cL_act 352 = .ok (.ifCond .le 7, 3) := by decide +kernel
theorem dL_act_355 : decode cL_act 355 = .ok (.iconst 0, 1) := by decide +kernel
theorem dL_act_356 : decode cL_act 356 = .ok (.goto 12, 3) := by decide +kernel
theorem dL_act_359 : decode cL_act 359 = .ok (.iload_n 2, 1) := by decide +kernel
theorem dL_act_360 : decode cL_act 360 = .ok (.iconst 2, 1) := by decide +kernel
theorem dL_act_361 : decode cL_act 361 = .ok (.ishr, 1) := by decide +kernel
theorem dL_act_362 : decode cL_act 362 = .ok (.sipush 300, 3) := by decide +kernel
theorem dL_act_365 : decode cL_act 365 = .ok (.invokestatic 49, 3) := by decide +kernel
theorem dL_act_368 : decode cL_act 368 = .ok (.invokevirtual 84, 3) := by decide +kernel
theorem dL_act_371 : decode cL_act 371 = .ok (.ireturn, 1) := by decide +kernel
theorem dL_act_372 : decode cL_act 372 = .ok (.iload_n 2, 1) := by decide +kernel
theorem dL_act_373 : decode cL_act 373 = .ok (.iconst 3, 1) := by decide +kernel
theorem dL_act_374 : decode cL_act 374 = .ok (.iand, 1) := by decide +kernel
theorem dL_act_375 : decode cL_act 375 = .ok (.ifCond .ne 10, 3) := by decide +kernel
theorem dL_act_378 : decode cL_act 378 = .ok (.aload_n 0, 1) := by decide +kernel
theorem dL_act_379 : decode cL_act 379 = .ok (.invokevirtual 87, 3) := by decide +kernel
theorem dL_act_382 : decode cL_act 382 = .ok (.goto 7, 3) := by decide +kernel
theorem dL_act_385 : decode cL_act 385 = .ok (.aload_n 0, 1) := by decide +kernel
theorem dL_act_386 : decode cL_act 386 = .ok (.invokevirtual 90, 3) := by decide +kernel
theorem dL_act_389 : decode cL_act 389 = .ok (.ireturn, 1) := by decide +kernel
theorem dL_act_390 : decode cL_act 390 = .ok (.aload_n 0, 1) := by decide +kernel
theorem dL_act_391 : decode cL_act 391 = .ok (.invokevirtual 93, 3) := by decide +kernel
theorem dL_act_394 : decode cL_act 394 = .ok (.ireturn, 1) := by decide +kernel
theorem dL_act_395 : decode cL_act 395 = .ok (.aload_n 0, 1) := by decide +kernel
theorem dL_act_396 : decode cL_act 396 = .ok (.iload_n 2, 1) := by decide +kernel
theorem dL_act_397 : decode cL_act 397 = .ok (.iconst 4, 1) := by decide +kernel
theorem dL_act_398 : decode cL_act 398 = .ok (.invokestatic 49, 3) := by decide +kernel
theorem dL_act_401 : decode cL_act 401 = .ok (.invokevirtual 96, 3) := by decide +kernel
theorem dL_act_404 : decode cL_act 404 = .ok (.ireturn, 1) := by decide +kernel
theorem dL_act_405 : decode cL_act 405 = .ok (.aload_n 0, 1) := by decide +kernel
theorem dL_act_406 : decode cL_act 406 = .ok (.iconst 1, 1) := by decide +kernel
theorem dL_act_407 : decode cL_act 407 = .ok (.iload_n 2, 1) := by decide +kernel
theorem dL_act_408 : decode cL_act 408 = .ok (.iload_n 2, 1) := by decide +kernel
theorem dL_act_409 : decode cL_act 409 = .ok (.bipush 9, 2) := by decide +kernel
theorem dL_act_411 : decode cL_act 411 = .ok (.ishr, 1) := by decide +kernel
theorem dL_act_412 : decode cL_act 412 = .ok (.iconst 3, 1) := by decide +kernel
theorem dL_act_413 : decode cL_act 413 = .ok (.iand, 1) := by decide +kernel
theorem dL_act_414 : decode cL_act 414 = .ok (.ifCond .ne 8, 3) := by decide +kernel
theorem dL_act_417 : decode cL_act 417 = .ok (.bipush 99, 2) := by decide +kernel
theorem dL_act_419 : decode cL_act 419 = .ok (.goto 5, 3) := by decide +kernel
theorem dL_act_422 : decode cL_act 422 = .ok (.bipush 10, 2) := by decide +kernel
theorem dL_act_424 : decode cL_act 424 = .ok (.invokestatic 49, 3) := by decide +kernel
theorem dL_act_427 : decode cL_act 427 = .ok (.iadd, 1) := by decide +kernel
theorem dL_act_428 : decode cL_act 428 = .ok (.invokevirtual 99, 3) := by decide +kernel
theorem dL_act_431 : decode cL_act 431 = .ok (.ireturn, 1) := by decide +kernel
theorem dL_act_432 : decode cL_act 432 = .ok (.aload_n 0, 1) := by decide +kernel
theorem dL_act_433 : decode cL_act 433 = .ok (.iconst 0, 1) := by decide +kernel
theorem dL_act_434 : decode cL_act 434 = .ok (.invokevirtual 23, 3) := by decide +kernel
theorem dL_act_437 : decode cL_act 437 = .ok (.ifCond .ge 10, 3) := by decide +kernel
theorem dL_act_440 : decode cL_act 440 = .ok (.aload_n 0, 1) := by decide +kernel
theorem dL_act_441 : decode cL_act 441 = .ok (.invokevirtual 90, 3) := by decide +kernel
theorem dL_act_444 : decode cL_act 444 = .ok (.goto 7, 3) := by decide +kernel
theorem dL_act_447 : decode cL_act 447 = .ok (.aload_n 0, 1) := by decide +kernel
theorem dL_act_448 : decode cL_act 448 = .ok (.invokevirtual 102, 3) := by decide +kernel
theorem dL_act_451 : decode cL_act 451 = .ok (.ireturn, 1) := by decide +kernel
theorem dL_holds_0 : decode cL_holds 0 = .ok (.aload_n 0, 1) := by decide +kernel
theorem dL_holds_1 : decode cL_holds 1 = .ok (.iconst 4, 1) := by decide +kernel
theorem dL_holds_2 : decode cL_holds 2 = .ok (.invokevirtual 23, 3) := by decide +kernel
theorem dL_holds_5 : decode cL_holds 5 = .ok (.bipush 40, 2) := by decide +kernel
theorem dL_holds_7 : decode cL_holds 7 = .ok (.if_icmp .gt 16, 3) := by decide +kernel
theorem dL_holds_10 : decode cL_holds 10 = .ok (.aload_n 0, 1) := by decide +kernel
theorem dL_holds_11 : decode cL_holds 11 = .ok (.invokevirtual 13, 3) := by decide +kernel
theorem dL_holds_14 : decode cL_holds 14 = .ok (.bipush 10, 2) := by decide +kernel
theorem dL_holds_16 : decode cL_holds 16 = .ok (.if_icmp .gt 7, 3) := by decide +kernel
theorem dL_holds_19 : decode cL_holds 19 = .ok (.iconst 1, 1) := by decide +kernel
theorem dL_holds_20 : decode cL_holds 20 = .ok (.goto 4, 3) := by decide +kernel
theorem dL_holds_23 : decode cL_holds 23 = .ok (.iconst 0, 1) := by decide +kernel
theorem dL_holds_24 : decode cL_holds 24 = .ok (.istore_n 1, 1) := by decide +kernel
theorem dL_holds_25 : decode cL_holds 25 = .ok (.iconst 0, 1) := by decide +kernel
theorem dL_holds_26 : decode cL_holds 26 = .ok (.istore_n 2, 1) := by decide +kernel
theorem dL_holds_27 : decode cL_holds 27 = .ok (.aload_n 0, 1) := by decide +kernel
theorem dL_holds_28 : decode cL_holds 28 = .ok (.iconst 0, 1) := by decide +kernel
theorem dL_holds_29 : decode cL_holds 29 = .ok (.invokevirtual 23, 3) := by decide +kernel
theorem dL_holds_32 : decode cL_holds 32 = .ok (.istore_n 3, 1) := by decide +kernel
theorem dL_holds_33 : decode cL_holds 33 = .ok (.iconst 0, 1) := by decide +kernel
theorem dL_holds_34 : decode cL_holds 34 = .ok (.istore 4, 2) := by decide +kernel
theorem dL_holds_36 : decode cL_holds 36 = .ok (.iload 4, 2) := by decide +kernel
theorem dL_holds_38 : decode cL_holds 38 = .ok (.aload_n 0, 1) := by decide +kernel
theorem dL_holds_39 : decode cL_holds 39 = .ok (.invokevirtual 13, 3) := by decide +kernel
theorem dL_holds_42 : decode cL_holds 42 = .ok (.if_icmp .ge 318, 3) := by decide +kernel
theorem dL_holds_45 : decode cL_holds 45 = .ok (.iload_n 1, 1) := by decide +kernel
theorem dL_holds_46 : decode cL_holds 46 = .ok (.ifCond .eq 314, 3) := by decide +kernel
theorem dL_holds_49 : decode cL_holds 49 = .ok (.aload_n 0, 1) := by decide +kernel
theorem dL_holds_50 : decode cL_holds 50 = .ok (.iload 4, 2) := by decide +kernel
theorem dL_holds_52 : decode cL_holds 52 = .ok (.invokevirtual 31, 3) := by decide +kernel
theorem dL_holds_55 : decode cL_holds 55 = .ok (.istore 5, 2) := by decide +kernel
theorem dL_holds_57 : decode cL_holds 57 = .ok (.aload_n 0, 1) := by decide +kernel
theorem dL_holds_58 : decode cL_holds 58 = .ok (.iload 5, 2) := by decide +kernel
theorem dL_holds_60 : decode cL_holds 60 = .ok (.iconst 4, 1) := by decide +kernel
theorem dL_holds_61 : decode cL_holds 61 = .ok (.invokevirtual 34, 3) := by decide +kernel
theorem dL_holds_64 : decode cL_holds 64 = .ok (.istore 6, 2) := by decide +kernel
theorem dL_holds_66 : decode cL_holds 66 = .ok (.iconst 0, 1) := by decide +kernel
theorem dL_holds_67 : decode cL_holds 67 = .ok (.istore 7, 2) := by decide +kernel
theorem dL_holds_69 : decode cL_holds 69 = .ok (.iload_n 2, 1) := by decide +kernel
theorem dL_holds_70 : decode cL_holds 70 = .ok (.iload 6, 2) := by decide +kernel
theorem dL_holds_72 : decode cL_holds 72 = .ok (.iconst 1, 1) := by decide +kernel
theorem dL_holds_73 : decode cL_holds 73 = .ok (.iadd, 1) := by decide +kernel
theorem dL_holds_74 : decode cL_holds 74 = .ok (.iadd, 1) := by decide +kernel
theorem dL_holds_75 : decode cL_holds 75 = .ok (.istore_n 2, 1) := by decide +kernel
theorem dL_holds_76 : decode cL_holds 76 = .ok (.iload 6, 2) := by decide +kernel
theorem dL_holds_78 : decode cL_holds 78 = .ok (.istore 8, 2) := by decide +kernel
theorem dL_holds_80 : decode cL_holds 80 = .ok (.iload 8, 2) := by decide +kernel
theorem dL_holds_82 : decode cL_holds 82 = .ok (.bipush 9, 2) := by decide +kernel
theorem dL_holds_84 : decode cL_holds 84 = .ok (.if_icmp .ge 40, 3) := by decide +kernel
theorem dL_holds_87 : decode cL_holds 87 = .ok (.iload_n 1, 1) := by decide +kernel
theorem dL_holds_88 : decode cL_holds 88 = .ok (.ifCond .eq 28, 3) := by decide +kernel
theorem dL_holds_91 : decode cL_holds 91 = .ok (.aload_n 0, 1) := by decide +kernel
theorem dL_holds_92 : decode cL_holds 92 = .ok (.iload 5, 2) := by decide +kernel
theorem dL_holds_94 : decode cL_holds 94 = .ok (.iload 8, 2) := by decide +kernel
theorem dL_holds_96 : decode cL_holds 96 = .ok (.invokevirtual 37, 3) := by decide +kernel
theorem dL_holds_99 : decode cL_holds 99 = .ok (.aload_n 0, 1) := by decide +kernel
theorem dL_holds_100 : decode cL_holds 100 = .ok (.iload 5, 2) := by decide +kernel
theorem dL_holds_102 : decode cL_holds 102 = .ok (.iload 8, 2) := by decide +kernel
theorem dL_holds_104 : decode cL_holds 104 = .ok (.iconst 1, 1) := by decide +kernel
theorem dL_holds_105 : decode cL_holds 105 = .ok (.iadd, 1) := by decide +kernel
theorem dL_holds_106 : decode cL_holds 106 = .ok (.invokevirtual 37, 3) := by decide +kernel
theorem dL_holds_109 : decode cL_holds 109 = .ok (.if_icmp .ne 7, 3) := by decide +kernel
theorem dL_holds_112 : decode cL_holds 112 = .ok (.iconst 1, 1) := by decide +kernel
theorem dL_holds_113 : decode cL_holds 113 = .ok (.goto 4, 3) := by decide +kernel
theorem dL_holds_116 : decode cL_holds 116 = .ok (.iconst 0, 1) := by decide +kernel
theorem dL_holds_117 : decode cL_holds 117 = .ok (.istore_n 1, 1) := by decide +kernel
theorem dL_holds_118 : decode cL_holds 118 = .ok (.iinc 8 1, 3) := by decide +kernel
theorem dL_holds_121 : decode cL_holds 121 = .ok (.goto (-41), 3) := by decide +kernel
theorem dL_holds_124 : decode cL_holds 124 = .ok (.iconst 0, 1) := by decide +kernel
theorem dL_holds_125 : decode cL_holds 125 = .ok (.istore 8, 2) := by decide +kernel
theorem dL_holds_127 : decode cL_holds 127 = .ok (.iload 8, 2) := by decide +kernel
theorem dL_holds_129 : decode cL_holds 129 = .ok (.bipush 10, 2) := by decide +kernel
theorem dL_holds_131 : decode cL_holds 131 = .ok (.if_icmp .ge 111, 3) := by decide +kernel
theorem dL_holds_134 : decode cL_holds 134 = .ok (.aload_n 0, 1) := by decide +kernel
theorem dL_holds_135 : decode cL_holds 135 = .ok (.iload 5, 2) := by decide +kernel
theorem dL_holds_137 : decode cL_holds 137 = .ok (.iload 8, 2) := by decide +kernel
theorem dL_holds_139 : decode cL_holds 139 = .ok (.invokevirtual 40, 3) := by decide +kernel
theorem dL_holds_142 : decode cL_holds 142 = .ok (.istore 9, 2) := by decide +kernel
theorem dL_holds_144 : decode cL_holds 144 = .ok (.iload 7, 2) := by decide +kernel
theorem dL_holds_146 : decode cL_holds 146 = .ok (.iload 9, 2) := by decide +kernel
theorem dL_holds_148 : decode cL_holds 148 = .ok (.ifCond .ge 7, 3) := by decide +kernel
theorem dL_holds_151 : decode cL_holds 151 = .ok (.iconst 0, 1) := by decide +kernel
theorem dL_holds_152 : decode cL_holds 152 = .ok (.goto 4, 3) := by decide +kernel
theorem dL_holds_155 : decode cL_holds 155 = .ok (.iconst 1, 1) := by decide +kernel
theorem dL_holds_156 : decode cL_holds 156 = .ok (.iadd, 1) := by decide +kernel
theorem dL_holds_157 : decode cL_holds 157 = .ok (.istore 7, 2) := by decide +kernel
theorem dL_holds_159 : decode cL_holds 159 = .ok (.iload_n 1, 1) := by decide +kernel
theorem dL_holds_160 : decode cL_holds 160 = .ok (.ifCond .eq 32, 3) := by decide +kernel
theorem dL_holds_163 : decode cL_holds 163 = .ok (.iload 9, 2) := by decide +kernel
theorem dL_holds_165 : decode cL_holds 165 = .ok (.ifCond .ge 13, 3) := by decide +kernel
theorem dL_holds_168 : decode cL_holds 168 = .ok (.iload 9, 2) := by decide +kernel
theorem dL_holds_170 : decode cL_holds 170 = .ok (.bipush (-6), 2) := by decide +kernel
theorem dL_holds_172 : decode cL_holds 172 = .ok (.if_icmp .ne 20, 3) := by decide +kernel
theorem dL_holds_175 : decode cL_holds 175 = .ok (.goto 13, 3) := by decide +kernel
theorem dL_holds_178 : decode cL_holds 178 = .ok (.aload_n 0, 1) := by decide +kernel
theorem dL_holds_179 : decode cL_holds 179 = .ok (.iload 9, 2) := by decide +kernel
theorem dL_holds_181 : decode cL_holds 181 = .ok (.iconst 0, 1) := by decide +kernel
theorem dL_holds_182 : decode cL_holds 182 = .ok (.invokevirtual 34, 3) := by decide +kernel
theorem dL_holds_185 : decode cL_holds 185 = .ok (.ifCond .lt 7, 3) := by decide +kernel
theorem dL_holds_188 : decode cL_holds 188 = .ok (.iconst 1, 1) := by decide +kernel
theorem dL_holds_189 : decode cL_holds 189 = .ok (.goto 4, 3) := by decide +kernel
theorem dL_holds_192 : decode cL_holds 192 = .ok (.iconst 0, 1) := by decide +kernel
theorem dL_holds_193 : decode cL_holds 193 = .ok (.istore_n 1, 1) := by decide +kernel
theorem dL_holds_194 : decode cL_holds 194 = .ok (.iload_n 1, 1) := by decide +kernel
theorem dL_holds_195 : decode cL_holds 195 = .ok (.ifCond .eq 39, 3) := by decide +kernel
theorem dL_holds_198 : decode cL_holds 198 = .ok (.iload_n 3, 1) := by decide +kernel
theorem dL_holds_199 : decode cL_holds 199 = .ok (.iload 5, 2) := by decide +kernel
theorem dL_holds_201 : decode cL_holds 201 = .ok (.if_icmp .ne 29, 3) := by decide +kernel
theorem dL_holds_204 : decode cL_holds 204 = .ok (.iload 9, 2) := by decide +kernel
theorem dL_holds_206 : decode cL_holds 206 = .ok (.ifCond .lt 24, 3) := by decide +kernel
theorem dL_holds_209 : decode cL_holds 209 = .ok (.aload_n 0, 1) := by decide +kernel
theorem dL_holds_210 : decode cL_holds 210 = .ok (.iload 9, 2) := by decide +kernel
theorem dL_holds_212 : decode cL_holds 212 = .ok (.invokevirtual 105, 3) := by decide +kernel
theorem dL_holds_215 : decode cL_holds 215 = .ok (.iload 9, 2) := by decide +kernel
theorem dL_holds_217 : decode cL_holds 217 = .ok (.iload 5, 2) := by decide +kernel
theorem dL_holds_219 : decode cL_holds 219 = .ok (.if_icmp .ne 7, 3) := by decide +kernel
theorem dL_holds_222 : decode cL_holds 222 = .ok (.iconst 0, 1) := by decide +kernel
theorem dL_holds_223 : decode cL_holds 223 = .ok (.goto 4, 3) := by decide +kernel
theorem dL_holds_226 : decode cL_holds 226 = .ok (.iconst 1, 1) := by decide +kernel
theorem dL_holds_227 : decode cL_holds 227 = .ok (.if_icmp .ne 7, 3) := by decide +kernel
theorem dL_holds_230 : decode cL_holds 230 = .ok (.iconst 1, 1) := by decide +kernel
theorem dL_holds_231 : decode cL_holds 231 = .ok (.goto 4, 3) := by decide +kernel
theorem dL_holds_234 : decode cL_holds 234 = .ok (.iconst 0, 1) := by decide +kernel
theorem dL_holds_235 : decode cL_holds 235 = .ok (.istore_n 1, 1) := by decide +kernel
theorem dL_holds_236 : decode cL_holds 236 = .ok (.iinc 8 1, 3) := by decide +kernel
theorem dL_holds_239 : decode cL_holds 239 = .ok (.goto (-112), 3) := by decide +kernel
theorem dL_holds_242 : decode cL_holds 242 = .ok (.iload_n 1, 1) := by decide +kernel
theorem dL_holds_243 : decode cL_holds 243 = .ok (.ifCond .eq 109, 3) := by decide +kernel
theorem dL_holds_246 : decode cL_holds 246 = .ok (.aload_n 0, 1) := by decide +kernel
theorem dL_holds_247 : decode cL_holds 247 = .ok (.iload 5, 2) := by decide +kernel
theorem dL_holds_249 : decode cL_holds 249 = .ok (.iconst 0, 1) := by decide +kernel
theorem dL_holds_250 : decode cL_holds 250 = .ok (.invokevirtual 34, 3) := by decide +kernel
theorem dL_holds_253 : decode cL_holds 253 = .ok (.iload 4, 2) := by decide +kernel
theorem dL_holds_255 : decode cL_holds 255 = .ok (.if_icmp .ne 97, 3) := by decide +kernel
theorem dL_holds_258 : decode cL_holds 258 = .ok (.iload 7, 2) := by decide +kernel
theorem dL_holds_260 : decode cL_holds 260 = .ok (.aload_n 0, 1) := by decide +kernel
theorem dL_holds_261 : decode cL_holds 261 = .ok (.iload 5, 2) := by decide +kernel
theorem dL_holds_263 : decode cL_holds 263 = .ok (.iconst 5, 1) := by decide +kernel
theorem dL_holds_264 : decode cL_holds 264 = .ok (.invokevirtual 34, 3) := by decide +kernel
theorem dL_holds_267 : decode cL_holds 267 = .ok (.if_icmp .ne 85, 3) := by decide +kernel
theorem dL_holds_270 : decode cL_holds 270 = .ok (.iload 7, 2) := by decide +kernel
theorem dL_holds_272 : decode cL_holds 272 = .ok (.iconst 3, 1) := by decide +kernel
theorem dL_holds_273 : decode cL_holds 273 = .ok (.if_icmp .gt 79, 3) := by decide +kernel
theorem dL_holds_276 : decode cL_holds 276 = .ok (.iload 6, 2) := by decide +kernel
theorem dL_holds_278 : decode cL_holds 278 = .ok (.ifCond .eq 24, 3) := by decide +kernel
theorem dL_holds_281 : decode cL_holds 281 = .ok (.aload_n 0, 1) := by decide +kernel
theorem dL_holds_282 : decode cL_holds 282 = .ok (.iload 5, 2) := by decide +kernel
theorem dL_holds_284 : decode cL_holds 284 = .ok (.iload 6, 2) := by decide +kernel
theorem dL_holds_286 : decode cL_holds 286 = .ok (.invokevirtual 37, 3) := by decide +kernel
theorem dL_holds_289 : decode cL_holds 289 = .ok (.aload_n 0, 1) := by decide +kernel
theorem dL_holds_290 : decode cL_holds 290 = .ok (.iload 5, 2) := by decide +kernel
theorem dL_holds_292 : decode cL_holds 292 = .ok (.iload 6, 2) := by decide +kernel
theorem dL_holds_294 : decode cL_holds 294 = .ok (.iconst 1, 1) := by decide +kernel
theorem dL_holds_295 : decode cL_holds 295 = .ok (.isub, 1) := by decide +kernel
theorem dL_holds_296 : decode cL_holds 296 = .ok (.invokevirtual 37, 3) := by decide +kernel
theorem dL_holds_299 : decode cL_holds 299 = .ok (.if_icmp .eq 53, 3) := by decide +kernel
theorem dL_holds_302 : decode cL_holds 302 = .ok (.iload_n 3, 1) := by decide +kernel
theorem dL_holds_303 : decode cL_holds 303 = .ok (.ifCond .ge 17, 3) := by decide +kernel
theorem dL_holds_306 : decode cL_holds 306 = .ok (.aload_n 0, 1) := by decide +kernel
theorem dL_holds_307 : decode cL_holds 307 = .ok (.iload 5, 2) := by decide +kernel
theorem dL_holds_309 : decode cL_holds 309 = .ok (.invokevirtual 105, 3) := by decide +kernel
theorem dL_holds_312 : decode cL_holds 312 = .ok (.bipush (-6), 2) := by decide +kernel
theorem dL_holds_314 : decode cL_holds 314 = .ok (.if_icmp .ne 38, 3) := by decide +kernel
theorem dL_holds_317 : decode cL_holds 317 = .ok (.goto 31, 3) := by decide +kernel
theorem dL_holds_320 : decode cL_holds 320 = .ok (.aload_n 0, 1) := by decide +kernel
theorem dL_holds_321 : decode cL_holds 321 = .ok (.iload 5, 2) := by decide +kernel
theorem dL_holds_323 : decode cL_holds 323 = .ok (.invokevirtual 105, 3) := by decide +kernel
theorem dL_holds_326 : decode cL_holds 326 = .ok (.ifCond .ne 7, 3) := by decide +kernel
theorem dL_holds_329 : decode cL_holds 329 = .ok (.iconst 1, 1) := by decide +kernel
theorem dL_holds_330 : decode cL_holds 330 = .ok (.goto 4, 3) := by decide +kernel
theorem dL_holds_333 : decode cL_holds 333 = .ok (.iconst 0, 1) := by decide +kernel
theorem dL_holds_334 : decode cL_holds 334 = .ok (.iload 5, 2) := by decide +kernel
theorem dL_holds_336 : decode cL_holds 336 = .ok (.iload_n 3, 1) := by decide +kernel
theorem dL_holds_337 : decode cL_holds 337 = .ok (.if_icmp .ne 7, 3) := by decide +kernel
theorem dL_holds_340 : decode cL_holds 340 = .ok (.iconst 1, 1) := by decide +kernel
theorem dL_holds_341 : decode cL_holds 341 = .ok (.goto 4, 3) := by decide +kernel
theorem dL_holds_344 : decode cL_holds 344 = .ok (.iconst 0, 1) := by decide +kernel
theorem dL_holds_345 : decode cL_holds 345 = .ok (.if_icmp .ne 7, 3) := by decide +kernel
theorem dL_holds_348 : decode cL_holds 348 = .ok (.iconst 1, 1) := by decide +kernel
theorem dL_holds_349 : decode cL_holds 349 = .ok (.goto 4, 3) := by decide +kernel
theorem dL_holds_352 : decode cL_holds 352 = .ok (.iconst 0, 1) := by decide +kernel
theorem dL_holds_353 : decode cL_holds 353 = .ok (.istore_n 1, 1) := by decide +kernel
theorem dL_holds_354 : decode cL_holds 354 = .ok (.iinc 4 1, 3) := by decide +kernel
theorem dL_holds_357 : decode cL_holds 357 = .ok (.goto (-321), 3) := by decide +kernel
theorem dL_holds_360 : decode cL_holds 360 = .ok (.aload_n 0, 1) := by decide +kernel
theorem dL_holds_361 : decode cL_holds 361 = .ok (.iconst 5, 1) := by decide +kernel
theorem dL_holds_362 : decode cL_holds 362 = .ok (.invokevirtual 23, 3) := by decide +kernel
theorem dL_holds_365 : decode cL_holds 365 = .ok (.iconst 1, 1) := by decide +kernel
theorem dL_holds_366 : decode cL_holds 366 = .ok (.if_icmp .ne 7, 3) := by decide +kernel
theorem dL_holds_369 : decode cL_holds 369 = .ok (.iconst 1, 1) := by decide +kernel
theorem dL_holds_370 : decode cL_holds 370 = .ok (.goto 4, 3) := by decide +kernel
theorem dL_holds_373 : decode cL_holds 373 = .ok (.iconst 0, 1) := by decide +kernel
theorem dL_holds_374 : decode cL_holds 374 = .ok (.istore 4, 2) := by decide +kernel
theorem dL_holds_376 : decode cL_holds 376 = .ok (.aload_n 0, 1) := by decide +kernel
theorem dL_holds_377 : decode cL_holds 377 = .ok (.invokevirtual 108, 3) := by decide +kernel
theorem dL_holds_380 : decode cL_holds 380 = .ok (.istore 5, 2) := by decide +kernel
theorem dL_holds_382 : decode cL_holds 382 = .ok (.iload_n 1, 1) := by decide +kernel
theorem dL_holds_383 : decode cL_holds 383 = .ok (.ifCond .eq 114, 3) := by decide +kernel
theorem dL_holds_386 : decode cL_holds 386 = .ok (.iload_n 3, 1) := by decide +kernel
theorem dL_holds_387 : decode cL_holds 387 = .ok (.ifCond .ge 34, 3) := by decide +kernel
theorem dL_holds_390 : decode cL_holds 390 = .ok (.aload_n 0, 1) := by decide +kernel
theorem dL_holds_391 : decode cL_holds 391 = .ok (.iconst 1, 1) := by decide +kernel
theorem dL_holds_392 : decode cL_holds 392 = .ok (.invokevirtual 23, 3) := by decide +kernel
theorem dL_holds_395 : decode cL_holds 395 = .ok (.bipush (-6), 2) := by decide +kernel
theorem dL_holds_397 : decode cL_holds 397 = .ok (.if_icmp .ne 100, 3) := by decide +kernel
theorem dL_holds_400 : decode cL_holds 400 = .ok (.aload_n 0, 1) := by decide +kernel
theorem dL_holds_401 : decode cL_holds 401 = .ok (.invokevirtual 111, 3) := by decide +kernel
theorem dL_holds_404 : decode cL_holds 404 = .ok (.bipush (-6), 2) := by decide +kernel
theorem dL_holds_406 : decode cL_holds 406 = .ok (.if_icmp .ne 91, 3) := by decide +kernel
theorem dL_holds_409 : decode cL_holds 409 = .ok (.aload_n 0, 1) := by decide +kernel
theorem dL_holds_410 : decode cL_holds 410 = .ok (.invokevirtual 43, 3) := by decide +kernel
theorem dL_holds_413 : decode cL_holds 413 = .ok (.bipush (-6), 2) := by decide +kernel
theorem dL_holds_415 : decode cL_holds 415 = .ok (.if_icmp .ne 82, 3) := by decide +kernel
theorem dL_holds_418 : decode cL_holds 418 = .ok (.goto 75, 3) := by decide +kernel
theorem dL_holds_421 : decode cL_holds 421 = .ok (.aload_n 0, 1) := by decide +kernel
theorem dL_holds_422 : decode cL_holds 422 = .ok (.iconst 1, 1) := by decide +kernel
theorem dL_holds_423 : decode cL_holds 423 = .ok (.invokevirtual 23, 3) := by decide +kernel
theorem dL_holds_426 : decode cL_holds 426 = .ok (.ifCond .lt 71, 3) := by decide +kernel
theorem dL_holds_429 : decode cL_holds 429 = .ok (.aload_n 0, 1) := by decide +kernel
theorem dL_holds_430 : decode cL_holds 430 = .ok (.iconst 1, 1) := by decide +kernel
theorem dL_holds_431 : decode cL_holds 431 = .ok (.invokevirtual 23, 3) := by decide +kernel
theorem dL_holds_434 : decode cL_holds 434 = .ok (.aload_n 0, 1) := by decide +kernel
theorem dL_holds_435 : decode cL_holds 435 = .ok (.iload_n 3, 1) := by decide +kernel
theorem dL_holds_436 : decode cL_holds 436 = .ok (.iconst 4, 1) := by decide +kernel
theorem dL_holds_437 : decode cL_holds 437 = .ok (.invokevirtual 34, 3) := by decide +kernel
theorem dL_holds_440 : decode cL_holds 440 = .ok (.if_icmp .gt 57, 3) := by decide +kernel
theorem dL_holds_443 : decode cL_holds 443 = .ok (.iload 4, 2) := by decide +kernel
theorem dL_holds_445 : decode cL_holds 445 = .ok (.aload_n 0, 1) := by decide +kernel
theorem dL_holds_446 : decode cL_holds 446 = .ok (.invokevirtual 17, 3) := by decide +kernel
theorem dL_holds_449 : decode cL_holds 449 = .ok (.ifCond .le 19, 3) := by decide +kernel
theorem dL_holds_452 : decode cL_holds 452 = .ok (.aload_n 0, 1) := by decide +kernel
theorem dL_holds_453 : decode cL_holds 453 = .ok (.iconst 2, 1) := by decide +kernel
theorem dL_holds_454 : decode cL_holds 454 = .ok (.invokevirtual 23, 3) := by decide +kernel
theorem dL_holds_457 : decode cL_holds 457 = .ok (.aload_n 0, 1) := by decide +kernel
theorem dL_holds_458 : decode cL_holds 458 = .ok (.invokevirtual 17, 3) := by decide +kernel
theorem dL_holds_461 : decode cL_holds 461 = .ok (.if_icmp .lt 7, 3) := by decide +kernel
theorem dL_holds_464 : decode cL_holds 464 = .ok (.iconst 1, 1) := by decide +kernel
theorem dL_holds_465 : decode cL_holds 465 = .ok (.goto 4, 3) := by decide +kernel
theorem dL_holds_468 : decode cL_holds 468 = .ok (.iconst 0, 1) := by decide +kernel
theorem dL_holds_469 : decode cL_holds 469 = .ok (.if_icmp .ne 28, 3) := by decide +kernel
theorem dL_holds_472 : decode cL_holds 472 = .ok (.aload_n 0, 1) := by decide +kernel
theorem dL_holds_473 : decode cL_holds 473 = .ok (.invokevirtual 111, 3) := by decide +kernel
theorem dL_holds_476 : decode cL_holds 476 = .ok (.ifCond .lt 21, 3) := by decide +kernel
theorem dL_holds_479 : decode cL_holds 479 = .ok (.aload_n 0, 1) := by decide +kernel
theorem dL_holds_480 : decode cL_holds 480 = .ok (.invokevirtual 114, 3) := by decide +kernel
theorem dL_holds_483 : decode cL_holds 483 = .ok (.ifCond .ne 10, 3) := by decide +kernel
theorem dL_holds_486 : decode cL_holds 486 = .ok (.aload_n 0, 1) := by decide +kernel
theorem dL_holds_487 : decode cL_holds 487 = .ok (.invokevirtual 111, 3) := by decide +kernel
theorem dL_holds_490 : decode cL_holds 490 = .ok (.ifCond .ne 7, 3) := by decide +kernel
theorem dL_holds_493 : decode cL_holds 493 = .ok (.iconst 1, 1) := by decide +kernel
theorem dL_holds_494 : decode cL_holds 494 = .ok (.goto 4, 3) := by decide +kernel
theorem dL_holds_497 : decode cL_holds 497 = .ok (.iconst 0, 1) := by decide +kernel
theorem dL_holds_498 : decode cL_holds 498 = .ok (.istore_n 1, 1) := by decide +kernel
theorem dL_holds_499 : decode cL_holds 499 = .ok (.iload_n 1, 1) := by decide +kernel
theorem dL_holds_500 : decode cL_holds 500 = .ok (.ifCond .eq 83, 3) := by decide +kernel
theorem dL_holds_503 : decode cL_holds 503 = .ok (.iload 5, 2) := by decide +kernel
theorem dL_holds_505 : decode cL_holds 505 = .ok (.bipush (-6), 2) := by decide +kernel
theorem dL_holds_507 : decode cL_holds 507 = .ok (.if_icmp .eq 18, 3) := by decide +kernel
theorem dL_holds_510 : decode cL_holds 510 = .ok (.aload_n 0, 1) := by decide +kernel
theorem dL_holds_511 : decode cL_holds 511 = .ok (.iload 5, 2) := by decide +kernel
theorem dL_holds_513 : decode cL_holds 513 = .ok (.iconst 0, 1) := by decide +kernel
theorem dL_holds_514 : decode cL_holds 514 = .ok (.invokevirtual 34, 3) := by decide +kernel
theorem dL_holds_517 : decode cL_holds 517 = .ok (.ifCond .lt 66, 3) := by decide +kernel
theorem dL_holds_520 : decode cL_holds 520 = .ok (.iload 4, 2) := by decide +kernel
theorem dL_holds_522 : decode cL_holds 522 = .ok (.ifCond .ne 61, 3) := by decide +kernel
theorem dL_holds_525 : decode cL_holds 525 = .ok (.aload_n 0, 1) := by decide +kernel
theorem dL_holds_526 : decode cL_holds 526 = .ok (.aload_n 0, 1) := by decide +kernel
theorem dL_holds_527 : decode cL_holds 527 = .ok (.iconst 4, 1) := by decide +kernel
theorem dL_holds_528 : decode cL_holds 528 = .ok (.invokevirtual 23, 3) := by decide +kernel
theorem dL_holds_531 : decode cL_holds 531 = .ok (.ifCond .ge 7, 3) := by decide +kernel
theorem dL_holds_534 : decode cL_holds 534 = .ok (.iconst 0, 1) := by decide +kernel
theorem dL_holds_535 : decode cL_holds 535 = .ok (.goto 8, 3) := by decide +kernel
theorem dL_holds_538 : decode cL_holds 538 = .ok (.aload_n 0, 1) := by decide +kernel
theorem dL_holds_539 : decode cL_holds 539 = .ok (.iconst 4, 1) := by decide +kernel
theorem dL_holds_540 : decode cL_holds 540 = .ok (.invokevirtual 23, 3) := by decide +kernel
theorem dL_holds_543 : decode cL_holds 543 = .ok (.iconst 0, 1) := by decide +kernel
theorem dL_holds_544 : decode cL_holds 544 = .ok (.invokevirtual 27, 3) := by decide +kernel
theorem dL_holds_547 : decode cL_holds 547 = .ok (.bipush (-6), 2) := by decide +kernel
theorem dL_holds_549 : decode cL_holds 549 = .ok (.if_icmp .ne 34, 3) := by decide +kernel
theorem dL_holds_552 : decode cL_holds 552 = .ok (.aload_n 0, 1) := by decide +kernel
theorem dL_holds_553 : decode cL_holds 553 = .ok (.invokevirtual 117, 3) := by decide +kernel
theorem dL_holds_556 : decode cL_holds 556 = .ok (.aload_n 0, 1) := by decide +kernel
theorem dL_holds_557 : decode cL_holds 557 = .ok (.invokevirtual 13, 3) := by decide +kernel
theorem dL_holds_560 : decode cL_holds 560 = .ok (.ifCond .ne 7, 3) := by decide +kernel
theorem dL_holds_563 : decode cL_holds 563 = .ok (.fconst 0, 1) := by decide +kernel
theorem dL_holds_564 : decode cL_holds 564 = .ok (.goto 11, 3) := by decide +kernel
theorem dL_holds_567 : decode cL_holds 567 = .ok (.iload_n 2, 1) := by decide +kernel
theorem dL_holds_568 : decode cL_holds 568 = .ok (.i2f, 1) := by decide +kernel
theorem dL_holds_569 : decode cL_holds 569 = .ok (.aload_n 0, 1) := by decide +kernel
theorem dL_holds_570 : decode cL_holds 570 = .ok (.invokevirtual 13, 3) := by decide +kernel
theorem dL_holds_573 : decode cL_holds 573 = .ok (.i2f, 1) := by decide +kernel
theorem dL_holds_574 : decode cL_holds 574 = .ok (.fdiv, 1) := by decide +kernel
theorem dL_holds_575 : decode cL_holds 575 = .ok (.fcmp .l, 1) := by decide +kernel
theorem dL_holds_576 : decode cL_holds 576 = .ok (.ifCond .ne 7, 3) := by decide +kernel
theorem dL_holds_579 : decode cL_holds 579 = .ok (.iconst 1, 1) := by decide +kernel
theorem dL_holds_580 : decode cL_holds 580 = .ok (.goto 4, 3) := by decide +kernel
theorem dL_holds_583 : decode cL_holds 583 = .ok (.iconst 0, 1) := by decide +kernel
theorem dL_holds_584 : decode cL_holds 584 = .ok (.ireturn, 1) := by decide +kernel
theorem dL_isMoved_0 : decode cL_isMoved 0 = .ok (.aload_n 0, 1) := by decide +kernel
theorem dL_isMoved_1 : decode cL_isMoved 1 = .ok (.iconst 0, 1) := by decide +kernel
theorem dL_isMoved_2 : decode cL_isMoved 2 = .ok (.invokevirtual 23, 3) := by decide +kernel
theorem dL_isMoved_5 : decode cL_isMoved 5 = .ok (.ifCond .ge 56, 3) := by decide +kernel
theorem dL_isMoved_8 : decode cL_isMoved 8 = .ok (.aload_n 0, 1) := by decide +kernel
theorem dL_isMoved_9 : decode cL_isMoved 9 = .ok (.invokevirtual 102, 3) := by decide +kernel
theorem dL_isMoved_12 : decode cL_isMoved 12 = .ok (.bipush (-5), 2) := by decide +kernel
theorem dL_isMoved_14 : decode cL_isMoved 14 = .ok (.if_icmp .ne 45, 3) := by decide +kernel
theorem dL_isMoved_17 : decode cL_isMoved 17 = .ok (.aload_n 0, 1) := by decide +kernel
theorem dL_isMoved_18 : decode cL_isMoved 18 = .ok (.invokevirtual 93, 3) := by decide +kernel
theorem dL_isMoved_21 : decode cL_isMoved 21 = .ok (.bipush (-5), 2) := by decide +kernel
theorem dL_isMoved_23 : decode cL_isMoved 23 = .ok (.if_icmp .ne 36, 3) := by decide +kernel
theorem dL_isMoved_26 : decode cL_isMoved 26 = .ok (.aload_n 0, 1) := by decide +kernel
theorem dL_isMoved_27 : decode cL_isMoved 27 = .ok (.iload_n 1, 1) := by decide +kernel
theorem dL_isMoved_28 : decode cL_isMoved 28 = .ok (.invokevirtual 96, 3) := by decide +kernel
theorem dL_isMoved_31 : decode cL_isMoved 31 = .ok (.bipush (-5), 2) := by decide +kernel
theorem dL_isMoved_33 : decode cL_isMoved 33 = .ok (.if_icmp .ne 26, 3) := by decide +kernel
theorem dL_isMoved_36 : decode cL_isMoved 36 = .ok (.aload_n 0, 1) := by decide +kernel
theorem dL_isMoved_37 : decode cL_isMoved 37 = .ok (.iconst 1, 1) := by decide +kernel
theorem dL_isMoved_38 : decode cL_isMoved 38 = .ok (.invokevirtual 99, 3) := by decide +kernel
theorem dL_isMoved_41 : decode cL_isMoved 41 = .ok (.bipush (-5), 2) := by decide +kernel
theorem dL_isMoved_43 : decode cL_isMoved 43 = .ok (.if_icmp .ne 16, 3) := by decide +kernel
theorem dL_isMoved_46 : decode cL_isMoved 46 = .ok (.aload_n 0, 1) := by decide +kernel
theorem dL_isMoved_47 : decode cL_isMoved 47 = .ok (.invokevirtual 87, 3) := by decide +kernel
theorem dL_isMoved_50 : decode cL_isMoved 50 = .ok (.bipush (-5), 2) := by decide +kernel
theorem dL_isMoved_52 : decode cL_isMoved 52 = .ok (.if_icmp .ne 7, 3) := by decide +kernel
theorem dL_isMoved_55 : decode cL_isMoved 55 = .ok (.iconst 1, 1) := by decide +kernel
theorem dL_isMoved_56 : decode cL_isMoved 56 = .ok (.goto 4, 3) := by decide +kernel
theorem dL_isMoved_59 : decode cL_isMoved 59 = .ok (.iconst 0, 1) := by decide +kernel
theorem dL_isMoved_60 : decode cL_isMoved 60 = .ok (.ireturn, 1) := by decide +kernel
theorem dL_isMoved_61 : decode cL_isMoved 61 = .ok (.aload_n 0, 1) := by decide +kernel
theorem dL_isMoved_62 : decode cL_isMoved 62 = .ok (.invokestatic 121, 3) := by decide +kernel
theorem dL_isMoved_65 : decode cL_isMoved 65 = .ok (.lstore_n 2, 1) := by decide +kernel
theorem dL_isMoved_66 : decode cL_isMoved 66 = .ok (.aload_n 0, 1) := by decide +kernel
theorem dL_isMoved_67 : decode cL_isMoved 67 = .ok (.iconst 0, 1) := by decide +kernel
theorem dL_isMoved_68 : decode cL_isMoved 68 = .ok (.invokevirtual 23, 3) := by decide +kernel
theorem dL_isMoved_71 : decode cL_isMoved 71 = .ok (.istore 4, 2) := by decide +kernel
theorem dL_isMoved_73 : decode cL_isMoved 73 = .ok (.aload_n 0, 1) := by decide +kernel
theorem dL_isMoved_74 : decode cL_isMoved 74 = .ok (.iconst 1, 1) := by decide +kernel
theorem dL_isMoved_75 : decode cL_isMoved 75 = .ok (.invokevirtual 23, 3) := by decide +kernel
theorem dL_isMoved_78 : decode cL_isMoved 78 = .ok (.istore 5, 2) := by decide +kernel
theorem dL_isMoved_80 : decode cL_isMoved 80 = .ok (.aload_n 0, 1) := by decide +kernel
theorem dL_isMoved_81 : decode cL_isMoved 81 = .ok (.bipush 6, 2) := by decide +kernel
theorem dL_isMoved_83 : decode cL_isMoved 83 = .ok (.invokevirtual 23, 3) := by decide +kernel
theorem dL_isMoved_86 : decode cL_isMoved 86 = .ok (.istore 6, 2) := by decide +kernel
theorem dL_isMoved_88 : decode cL_isMoved 88 = .ok (.aload_n 0, 1) := by decide +kernel
theorem dL_isMoved_89 : decode cL_isMoved 89 = .ok (.invokevirtual 111, 3) := by decide +kernel
theorem dL_isMoved_92 : decode cL_isMoved 92 = .ok (.istore 7, 2) := by decide +kernel
theorem dL_isMoved_94 : decode cL_isMoved 94 = .ok (.aload_n 0, 1) := by decide +kernel
theorem dL_isMoved_95 : decode cL_isMoved 95 = .ok (.iconst 4, 1) := by decide +kernel
theorem dL_isMoved_96 : decode cL_isMoved 96 = .ok (.invokevirtual 23, 3) := by decide +kernel
theorem dL_isMoved_99 : decode cL_isMoved 99 = .ok (.istore 8, 2) := by decide +kernel
theorem dL_isMoved_101 : decode cL_isMoved 101 = .ok (.aload_n 0, 1) := by decide +kernel
theorem dL_isMoved_102 : decode cL_isMoved 102 = .ok (.iload 4, 2) := by decide +kernel
theorem dL_isMoved_104 : decode cL_isMoved 104 = .ok (.iload_n 1, 1) := by decide +kernel
theorem dL_isMoved_105 : decode cL_isMoved 105 = .ok (.invokevirtual 40, 3) := by decide +kernel
theorem dL_isMoved_108 : decode cL_isMoved 108 = .ok (.istore 9, 2) := by decide +kernel
theorem dL_isMoved_110 : decode cL_isMoved 110 = .ok (.aload_n 0, 1) := by decide +kernel
theorem dL_isMoved_111 : decode cL_isMoved 111 = .ok (.iconst 5, 1) := by decide +kernel
theorem dL_isMoved_112 : decode cL_isMoved 112 = .ok (.invokevirtual 23, 3) := by decide +kernel
theorem dL_isMoved_115 : decode cL_isMoved 115 = .ok (.iconst 1, 1) := by decide +kernel
theorem dL_isMoved_116 : decode cL_isMoved 116 = .ok (.if_icmp .ne 7, 3) := by decide +kernel
theorem dL_isMoved_119 : decode cL_isMoved 119 = .ok (.iconst 1, 1) := by decide +kernel
theorem dL_isMoved_120 : decode cL_isMoved 120 = .ok (.goto 4, 3) := by decide +kernel
theorem dL_isMoved_123 : decode cL_isMoved 123 = .ok (.iconst 0, 1) := by decide +kernel
theorem dL_isMoved_124 : decode cL_isMoved 124 = .ok (.istore 10, 2) := by decide +kernel
theorem dL_isMoved_126 : decode cL_isMoved 126 = .ok (.aload_n 0, 1) := by decide +kernel
theorem dL_isMoved_127 : decode cL_isMoved 127 = .ok (.iload 4, 2) := by decide +kernel
theorem dL_isMoved_129 : decode cL_isMoved 129 = .ok (.iconst 1, 1) := by decide +kernel
theorem dL_isMoved_130 : decode cL_isMoved 130 = .ok (.invokevirtual 34, 3) := by decide +kernel
theorem dL_isMoved_133 : decode cL_isMoved 133 = .ok (.ifCond .eq 9, 3) := by decide +kernel
theorem dL_isMoved_136 : decode cL_isMoved 136 = .ok (.iload 6, 2) := by decide +kernel
theorem dL_isMoved_138 : decode cL_isMoved 138 = .ok (.iconst 1, 1) := by decide +kernel
theorem dL_isMoved_139 : decode cL_isMoved 139 = .ok (.if_icmp .ne 7, 3) := by decide +kernel
theorem dL_isMoved_142 : decode cL_isMoved 142 = .ok (.iconst 1, 1) := by decide +kernel
theorem dL_isMoved_143 : decode cL_isMoved 143 = .ok (.goto 4, 3) := by decide +kernel
theorem dL_isMoved_146 : decode cL_isMoved 146 = .ok (.iconst 0, 1) := by decide +kernel
theorem dL_isMoved_147 : decode cL_isMoved 147 = .ok (.istore 11, 2) := by decide +kernel
theorem dL_isMoved_149 : decode cL_isMoved 149 = .ok (.aload_n 0, 1) := by decide +kernel
theorem dL_isMoved_150 : decode cL_isMoved 150 = .ok (.invokevirtual 102, 3) := by decide +kernel
theorem dL_isMoved_153 : decode cL_isMoved 153 = .ok (.istore 12, 2) := by decide +kernel
theorem dL_isMoved_155 : decode cL_isMoved 155 = .ok (.iload 12, 2) := by decide +kernel
theorem dL_isMoved_157 : decode cL_isMoved 157 = .ok (.ifCond .lt 7, 3) := by decide +kernel
theorem dL_isMoved_160 : decode cL_isMoved 160 = .ok (.iconst 1, 1) := by decide +kernel
theorem dL_isMoved_161 : decode cL_isMoved 161 = .ok (.goto 4, 3) := by decide +kernel
theorem dL_isMoved_164 : decode cL_isMoved 164 = .ok (.iconst 0, 1) := by decide +kernel
theorem dL_isMoved_165 : decode cL_isMoved 165 = .ok (.iload 7, 2) := by decide +kernel
theorem dL_isMoved_167 : decode cL_isMoved 167 = .ok (.ifCond .le 12, 3) := by decide +kernel
theorem dL_isMoved_170 : decode cL_isMoved 170 = .ok (.iload 10, 2) := by decide +kernel
theorem dL_isMoved_172 : decode cL_isMoved 172 = .ok (.ifCond .ne 7, 3) := by decide +kernel
theorem dL_isMoved_175 : decode cL_isMoved 175 = .ok (.iconst 1, 1) := by decide +kernel
theorem dL_isMoved_176 : decode cL_isMoved 176 = .ok (.goto 4, 3) := by decide +kernel
theorem dL_isMoved_179 : decode cL_isMoved 179 = .ok (.iconst 0, 1) := by decide +kernel
theorem dL_isMoved_180 : decode cL_isMoved 180 = .ok (.if_icmp .ne 19, 3) := by decide +kernel
theorem dL_isMoved_183 : decode cL_isMoved 183 = .ok (.iload 12, 2) := by decide +kernel
theorem dL_isMoved_185 : decode cL_isMoved 185 = .ok (.ifCond .ge 10, 3) := by decide +kernel
theorem dL_isMoved_188 : decode cL_isMoved 188 = .ok (.iload 12, 2) := by decide +kernel
theorem dL_isMoved_190 : decode cL_isMoved 190 = .ok (.bipush (-5), 2) := by decide +kernel
theorem dL_isMoved_192 : decode cL_isMoved 192 = .ok (.if_icmp .ne 7, 3) := by decide +kernel
theorem dL_isMoved_195 : decode cL_isMoved 195 = .ok (.iconst 1, 1) := by decide +kernel
theorem dL_isMoved_196 : decode cL_isMoved 196 = .ok (.goto 4, 3) := by decide +kernel
theorem dL_isMoved_199 : decode cL_isMoved 199 = .ok (.iconst 0, 1) := by decide +kernel
theorem dL_isMoved_200 : decode cL_isMoved 200 = .ok (.istore 13, 2) := by decide +kernel
theorem dL_isMoved_202 : decode cL_isMoved 202 = .ok (.iload 13, 2) := by decide +kernel
theorem dL_isMoved_204 : decode cL_isMoved 204 = .ok (.ifCond .eq 183, 3) := by decide +kernel
theorem dL_isMoved_207 : decode cL_isMoved 207 = .ok (.iload 12, 2) := by decide +kernel
theorem dL_isMoved_209 : decode cL_isMoved 209 = .ok (.ifCond .lt 178, 3) := by decide +kernel
theorem dL_isMoved_212 : decode cL_isMoved 212 = .ok (.aload_n 0, 1) := by decide +kernel
theorem dL_isMoved_213 : decode cL_isMoved 213 = .ok (.iconst 1, 1) := by decide +kernel
theorem dL_isMoved_214 : decode cL_isMoved 214 = .ok (.invokevirtual 23, 3) := by decide +kernel
theorem dL_isMoved_217 : decode cL_isMoved 217 = .ok (.iload 12, 2) := by decide +kernel
theorem dL_isMoved_219 : decode cL_isMoved 219 = .ok (.if_icmp .ne 83, 3) := by decide +kernel
theorem dL_isMoved_222 : decode cL_isMoved 222 = .ok (.aload_n 0, 1) := by decide +kernel
theorem dL_isMoved_223 : decode cL_isMoved 223 = .ok (.iconst 0, 1) := by decide +kernel
theorem dL_isMoved_224 : decode cL_isMoved 224 = .ok (.iconst 0, 1) := by decide +kernel
theorem dL_isMoved_225 : decode cL_isMoved 225 = .ok (.invokevirtual 27, 3) := by decide +kernel
theorem dL_isMoved_228 : decode cL_isMoved 228 = .ok (.iload 4, 2) := by decide +kernel
theorem dL_isMoved_230 : decode cL_isMoved 230 = .ok (.if_icmp .ne 72, 3) := by decide +kernel
theorem dL_isMoved_233 : decode cL_isMoved 233 = .ok (.aload_n 0, 1) := by decide +kernel
theorem dL_isMoved_234 : decode cL_isMoved 234 = .ok (.iconst 0, 1) := by decide +kernel
theorem dL_isMoved_235 : decode cL_isMoved 235 = .ok (.iconst 1, 1) := by decide +kernel
theorem dL_isMoved_236 : decode cL_isMoved 236 = .ok (.invokevirtual 27, 3) := by decide +kernel
theorem dL_isMoved_239 : decode cL_isMoved 239 = .ok (.iload 5, 2) := by decide +kernel
theorem dL_isMoved_241 : decode cL_isMoved 241 = .ok (.if_icmp .ne 61, 3) := by decide +kernel
theorem dL_isMoved_244 : decode cL_isMoved 244 = .ok (.aload_n 0, 1) := by decide +kernel
theorem dL_isMoved_245 : decode cL_isMoved 245 = .ok (.iconst 0, 1) := by decide +kernel
theorem dL_isMoved_246 : decode cL_isMoved 246 = .ok (.iconst 2, 1) := by decide +kernel
theorem dL_isMoved_247 : decode cL_isMoved 247 = .ok (.invokevirtual 27, 3) := by decide +kernel
theorem dL_isMoved_250 : decode cL_isMoved 250 = .ok (.iload 6, 2) := by decide +kernel
theorem dL_isMoved_252 : decode cL_isMoved 252 = .ok (.if_icmp .ne 50, 3) := by decide +kernel
theorem dL_isMoved_255 : decode cL_isMoved 255 = .ok (.aload_n 0, 1) := by decide +kernel
theorem dL_isMoved_256 : decode cL_isMoved 256 = .ok (.iconst 3, 1) := by decide +kernel
theorem dL_isMoved_257 : decode cL_isMoved 257 = .ok (.invokevirtual 23, 3) := by decide +kernel
theorem dL_isMoved_260 : decode cL_isMoved 260 = .ok (.ifCond .ne 42, 3) := by decide +kernel
theorem dL_isMoved_263 : decode cL_isMoved 263 = .ok (.aload_n 0, 1) := by decide +kernel
theorem dL_isMoved_264 : decode cL_isMoved 264 = .ok (.invokevirtual 111, 3) := by decide +kernel
theorem dL_isMoved_267 : decode cL_isMoved 267 = .ok (.iload 7, 2) := by decide +kernel
theorem dL_isMoved_269 : decode cL_isMoved 269 = .ok (.iconst 1, 1) := by decide +kernel
theorem dL_isMoved_270 : decode cL_isMoved 270 = .ok (.isub, 1) := by decide +kernel
theorem dL_isMoved_271 : decode cL_isMoved 271 = .ok (.if_icmp .ne 31, 3) := by decide +kernel
theorem dL_isMoved_274 : decode cL_isMoved 274 = .ok (.aload_n 0, 1) := by decide +kernel
theorem dL_isMoved_275 : decode cL_isMoved 275 = .ok (.iconst 4, 1) := by decide +kernel
theorem dL_isMoved_276 : decode cL_isMoved 276 = .ok (.invokevirtual 23, 3) := by decide +kernel
theorem dL_isMoved_279 : decode cL_isMoved 279 = .ok (.iload 8, 2) := by decide +kernel
theorem dL_isMoved_281 : decode cL_isMoved 281 = .ok (.bipush 40, 2) := by decide +kernel
theorem dL_isMoved_283 : decode cL_isMoved 283 = .ok (.if_icmp .ge 10, 3) := by decide +kernel
theorem dL_isMoved_286 : decode cL_isMoved 286 = .ok (.iload 8, 2) := by decide +kernel
theorem dL_isMoved_288 : decode cL_isMoved 288 = .ok (.iconst 1, 1) := by decide +kernel
theorem dL_isMoved_289 : decode cL_isMoved 289 = .ok (.iadd, 1) := by decide +kernel
theorem dL_isMoved_290 : decode cL_isMoved 290 = .ok (.goto 5, 3) := by decide +kernel
theorem dL_isMoved_293 : decode cL_isMoved 293 = .ok (.bipush 40, 2) := by decide +kernel
theorem dL_isMoved_295 : decode cL_isMoved 295 = .ok (.if_icmp .ne 7, 3) := by decide +kernel
theorem dL_isMoved_298 : decode cL_isMoved 298 = .ok (.iconst 1, 1) := by decide +kernel
theorem dL_isMoved_299 : decode cL_isMoved 299 = .ok (.goto 4, 3) := by decide +kernel
theorem dL_isMoved_302 : decode cL_isMoved 302 = .ok (.iconst 0, 1) := by decide +kernel
theorem dL_isMoved_303 : decode cL_isMoved 303 = .ok (.istore 13, 2) := by decide +kernel
theorem dL_isMoved_305 : decode cL_isMoved 305 = .ok (.iload 13, 2) := by decide +kernel
theorem dL_isMoved_307 : decode cL_isMoved 307 = .ok (.ifCond .eq 61, 3) := by decide +kernel
theorem dL_isMoved_310 : decode cL_isMoved 310 = .ok (.iload 11, 2) := by decide +kernel
theorem dL_isMoved_312 : decode cL_isMoved 312 = .ok (.ifCond .eq 56, 3) := by decide +kernel
theorem dL_isMoved_315 : decode cL_isMoved 315 = .ok (.aload_n 0, 1) := by decide +kernel
theorem dL_isMoved_316 : decode cL_isMoved 316 = .ok (.invokevirtual 108, 3) := by decide +kernel
theorem dL_isMoved_319 : decode cL_isMoved 319 = .ok (.iload 4, 2) := by decide +kernel
theorem dL_isMoved_321 : decode cL_isMoved 321 = .ok (.if_icmp .ne 44, 3) := by decide +kernel
theorem dL_isMoved_324 : decode cL_isMoved 324 = .ok (.aload_n 0, 1) := by decide +kernel
theorem dL_isMoved_325 : decode cL_isMoved 325 = .ok (.invokevirtual 93, 3) := by decide +kernel
theorem dL_isMoved_328 : decode cL_isMoved 328 = .ok (.iload 5, 2) := by decide +kernel
theorem dL_isMoved_330 : decode cL_isMoved 330 = .ok (.if_icmp .ne 35, 3) := by decide +kernel
theorem dL_isMoved_333 : decode cL_isMoved 333 = .ok (.aload_n 0, 1) := by decide +kernel
theorem dL_isMoved_334 : decode cL_isMoved 334 = .ok (.iconst 0, 1) := by decide +kernel
theorem dL_isMoved_335 : decode cL_isMoved 335 = .ok (.invokevirtual 23, 3) := by decide +kernel
theorem dL_isMoved_338 : decode cL_isMoved 338 = .ok (.iload 4, 2) := by decide +kernel
theorem dL_isMoved_340 : decode cL_isMoved 340 = .ok (.if_icmp .ne 25, 3) := by decide +kernel
theorem dL_isMoved_343 : decode cL_isMoved 343 = .ok (.aload_n 0, 1) := by decide +kernel
theorem dL_isMoved_344 : decode cL_isMoved 344 = .ok (.bipush 6, 2) := by decide +kernel
theorem dL_isMoved_346 : decode cL_isMoved 346 = .ok (.invokevirtual 23, 3) := by decide +kernel
theorem dL_isMoved_349 : decode cL_isMoved 349 = .ok (.iload 6, 2) := by decide +kernel
theorem dL_isMoved_351 : decode cL_isMoved 351 = .ok (.if_icmp .ne 14, 3) := by decide +kernel
theorem dL_isMoved_354 : decode cL_isMoved 354 = .ok (.aload_n 0, 1) := by decide +kernel
theorem dL_isMoved_355 : decode cL_isMoved 355 = .ok (.invokevirtual 125, 3) := by decide +kernel
theorem dL_isMoved_358 : decode cL_isMoved 358 = .ok (.ifCond .lt 7, 3) := by decide +kernel
theorem dL_isMoved_361 : decode cL_isMoved 361 = .ok (.iconst 1, 1) := by decide +kernel
theorem dL_isMoved_362 : decode cL_isMoved 362 = .ok (.goto 4, 3) := by decide +kernel
theorem dL_isMoved_365 : decode cL_isMoved 365 = .ok (.iconst 0, 1) := by decide +kernel
theorem dL_isMoved_366 : decode cL_isMoved 366 = .ok (.istore 13, 2) := by decide +kernel
theorem dL_isMoved_368 : decode cL_isMoved 368 = .ok (.iload 13, 2) := by decide +kernel
theorem dL_isMoved_370 : decode cL_isMoved 370 = .ok (.ifCond .eq 14, 3) := by decide +kernel
theorem dL_isMoved_373 : decode cL_isMoved 373 = .ok (.aload_n 0, 1) := by decide +kernel
theorem dL_isMoved_374 : decode cL_isMoved 374 = .ok (.invokevirtual 125, 3) := by decide +kernel
theorem dL_isMoved_377 : decode cL_isMoved 377 = .ok (.ifCond .lt 7, 3) := by decide +kernel
theorem dL_isMoved_380 : decode cL_isMoved 380 = .ok (.iconst 1, 1) := by decide +kernel
theorem dL_isMoved_381 : decode cL_isMoved 381 = .ok (.goto 4, 3) := by decide +kernel
theorem dL_isMoved_384 : decode cL_isMoved 384 = .ok (.iconst 0, 1) := by decide +kernel
theorem dL_isMoved_385 : decode cL_isMoved 385 = .ok (.istore 13, 2) := by decide +kernel
theorem dL_isMoved_387 : decode cL_isMoved 387 = .ok (.iload 13, 2) := by decide +kernel
theorem dL_isMoved_389 : decode cL_isMoved 389 = .ok (.ifCond .eq 11, 3) := by decide +kernel
theorem dL_isMoved_392 : decode cL_isMoved 392 = .ok (.aload_n 0, 1) := by decide +kernel
theorem dL_isMoved_393 : decode cL_isMoved 393 = .ok (.iload_n 1, 1) := by decide +kernel
theorem dL_isMoved_394 : decode cL_isMoved 394 = .ok (.invokevirtual 96, 3) := by decide +kernel
theorem dL_isMoved_397 : decode cL_isMoved 397 = .ok (.goto 4, 3) := by decide +kernel
theorem dL_isMoved_400 : decode cL_isMoved 400 = .ok (.iconst 0, 1) := by decide +kernel
theorem dL_isMoved_401 : decode cL_isMoved 401 = .ok (.istore 14, 2) := by decide +kernel
theorem dL_isMoved_403 : decode cL_isMoved 403 = .ok (.iload 13, 2) := by decide +kernel
theorem dL_isMoved_405 : decode cL_isMoved 405 = .ok (.ifCond .eq 35, 3) := by decide +kernel
theorem dL_isMoved_408 : decode cL_isMoved 408 = .ok (.iload 14, 2) := by decide +kernel
theorem dL_isMoved_410 : decode cL_isMoved 410 = .ok (.ifCond .lt 7, 3) := by decide +kernel
theorem dL_isMoved_413 : decode cL_isMoved 413 = .ok (.iconst 1, 1) := by decide +kernel
theorem dL_isMoved_414 : decode cL_isMoved 414 = .ok (.goto 4, 3) := by decide +kernel
theorem dL_isMoved_417 : decode cL_isMoved 417 = .ok (.iconst 0, 1) := by decide +kernel
theorem dL_isMoved_418 : decode cL_isMoved 418 = .ok (.iload 9, 2) := by decide +kernel
theorem dL_isMoved_420 : decode cL_isMoved 420 = .ok (.ifCond .lt 12, 3) := by decide +kernel
theorem dL_isMoved_423 : decode cL_isMoved 423 = .ok (.iload 10, 2) := by decide +kernel
theorem dL_isMoved_425 : decode cL_isMoved 425 = .ok (.ifCond .ne 7, 3) := by decide +kernel
theorem dL_isMoved_428 : decode cL_isMoved 428 = .ok (.iconst 1, 1) := by decide +kernel
theorem dL_isMoved_429 : decode cL_isMoved 429 = .ok (.goto 4, 3) := by decide +kernel
theorem dL_isMoved_432 : decode cL_isMoved 432 = .ok (.iconst 0, 1) := by decide +kernel
theorem dL_isMoved_433 : decode cL_isMoved 433 = .ok (.if_icmp .ne 7, 3) := by decide +kernel
theorem dL_isMoved_436 : decode cL_isMoved 436 = .ok (.iconst 1, 1) := by decide +kernel
theorem dL_isMoved_437 : decode cL_isMoved 437 = .ok (.goto 4, 3) := by decide +kernel
theorem dL_isMoved_440 : decode cL_isMoved 440 = .ok (.iconst 0, 1) := by decide +kernel
theorem dL_isMoved_441 : decode cL_isMoved 441 = .ok (.istore 13, 2) := by decide +kernel
theorem dL_isMoved_443 : decode cL_isMoved 443 = .ok (.iload 13, 2) := by decide +kernel
theorem dL_isMoved_445 : decode cL_isMoved 445 = .ok (.ifCond .eq 79, 3) := by decide +kernel
theorem dL_isMoved_448 : decode cL_isMoved 448 = .ok (.iload 14, 2) := by decide +kernel
theorem dL_isMoved_450 : decode cL_isMoved 450 = .ok (.ifCond .lt 74, 3) := by decide +kernel
theorem dL_isMoved_453 : decode cL_isMoved 453 = .ok (.iload 14, 2) := by decide +kernel
theorem dL_isMoved_455 : decode cL_isMoved 455 = .ok (.iload 9, 2) := by decide +kernel
theorem dL_isMoved_457 : decode cL_isMoved 457 = .ok (.if_icmp .ne 64, 3) := by decide +kernel
theorem dL_isMoved_460 : decode cL_isMoved 460 = .ok (.aload_n 0, 1) := by decide +kernel
theorem dL_isMoved_461 : decode cL_isMoved 461 = .ok (.iconst 0, 1) := by decide +kernel
theorem dL_isMoved_462 : decode cL_isMoved 462 = .ok (.invokevirtual 23, 3) := by decide +kernel
theorem dL_isMoved_465 : decode cL_isMoved 465 = .ok (.iload 9, 2) := by decide +kernel
theorem dL_isMoved_467 : decode cL_isMoved 467 = .ok (.if_icmp .ne 54, 3) := by decide +kernel
theorem dL_isMoved_470 : decode cL_isMoved 470 = .ok (.aload_n 0, 1) := by decide +kernel
theorem dL_isMoved_471 : decode cL_isMoved 471 = .ok (.iconst 1, 1) := by decide +kernel
theorem dL_isMoved_472 : decode cL_isMoved 472 = .ok (.invokevirtual 23, 3) := by decide +kernel
theorem dL_isMoved_475 : decode cL_isMoved 475 = .ok (.ifCond .ne 46, 3) := by decide +kernel
theorem dL_isMoved_478 : decode cL_isMoved 478 = .ok (.aload_n 0, 1) := by decide +kernel
theorem dL_isMoved_479 : decode cL_isMoved 479 = .ok (.bipush 6, 2) := by decide +kernel
theorem dL_isMoved_481 : decode cL_isMoved 481 = .ok (.invokevirtual 23, 3) := by decide +kernel
theorem dL_isMoved_484 : decode cL_isMoved 484 = .ok (.iconst 1, 1) := by decide +kernel
theorem dL_isMoved_485 : decode cL_isMoved 485 = .ok (.if_icmp .ne 36, 3) := by decide +kernel
theorem dL_isMoved_488 : decode cL_isMoved 488 = .ok (.aload_n 0, 1) := by decide +kernel
theorem dL_isMoved_489 : decode cL_isMoved 489 = .ok (.iconst 0, 1) := by decide +kernel
theorem dL_isMoved_490 : decode cL_isMoved 490 = .ok (.iconst 0, 1) := by decide +kernel
theorem dL_isMoved_491 : decode cL_isMoved 491 = .ok (.invokevirtual 27, 3) := by decide +kernel
theorem dL_isMoved_494 : decode cL_isMoved 494 = .ok (.iload 4, 2) := by decide +kernel
theorem dL_isMoved_496 : decode cL_isMoved 496 = .ok (.if_icmp .ne 25, 3) := by decide +kernel
theorem dL_isMoved_499 : decode cL_isMoved 499 = .ok (.aload_n 0, 1) := by decide +kernel
theorem dL_isMoved_500 : decode cL_isMoved 500 = .ok (.iconst 0, 1) := by decide +kernel
theorem dL_isMoved_501 : decode cL_isMoved 501 = .ok (.iconst 1, 1) := by decide +kernel
theorem dL_isMoved_502 : decode cL_isMoved 502 = .ok (.invokevirtual 27, 3) := by decide +kernel
theorem dL_isMoved_505 : decode cL_isMoved 505 = .ok (.iload 5, 2) := by decide +kernel
theorem dL_isMoved_507 : decode cL_isMoved 507 = .ok (.if_icmp .ne 14, 3) := by decide +kernel
theorem dL_isMoved_510 : decode cL_isMoved 510 = .ok (.aload_n 0, 1) := by decide +kernel
theorem dL_isMoved_511 : decode cL_isMoved 511 = .ok (.invokevirtual 125, 3) := by decide +kernel
theorem dL_isMoved_514 : decode cL_isMoved 514 = .ok (.ifCond .lt 7, 3) := by decide +kernel
theorem dL_isMoved_517 : decode cL_isMoved 517 = .ok (.iconst 1, 1) := by decide +kernel
theorem dL_isMoved_518 : decode cL_isMoved 518 = .ok (.goto 4, 3) := by decide +kernel
theorem dL_isMoved_521 : decode cL_isMoved 521 = .ok (.iconst 0, 1) := by decide +kernel
theorem dL_isMoved_522 : decode cL_isMoved 522 = .ok (.istore 13, 2) := by decide +kernel
theorem dL_isMoved_524 : decode cL_isMoved 524 = .ok (.aload_n 0, 1) := by decide +kernel
theorem dL_isMoved_525 : decode cL_isMoved 525 = .ok (.invokevirtual 108, 3) := by decide +kernel
theorem dL_isMoved_528 : decode cL_isMoved 528 = .ok (.istore 15, 2) := by decide +kernel
theorem dL_isMoved_530 : decode cL_isMoved 530 = .ok (.iload 13, 2) := by decide +kernel
theorem dL_isMoved_532 : decode cL_isMoved 532 = .ok (.ifCond .eq 10, 3) := by decide +kernel
theorem dL_isMoved_535 : decode cL_isMoved 535 = .ok (.aload_n 0, 1) := by decide +kernel
theorem dL_isMoved_536 : decode cL_isMoved 536 = .ok (.invokevirtual 93, 3) := by decide +kernel
theorem dL_isMoved_539 : decode cL_isMoved 539 = .ok (.goto 4, 3) := by decide +kernel
theorem dL_isMoved_542 : decode cL_isMoved 542 = .ok (.iconst 0, 1) := by decide +kernel
theorem dL_isMoved_543 : decode cL_isMoved 543 = .ok (.istore 16, 2) := by decide +kernel
theorem dL_isMoved_545 : decode cL_isMoved 545 = .ok (.iload 13, 2) := by decide +kernel
theorem dL_isMoved_547 : decode cL_isMoved 547 = .ok (.ifCond .eq 30, 3) := by decide +kernel
theorem dL_isMoved_550 : decode cL_isMoved 550 = .ok (.iload 16, 2) := by decide +kernel
theorem dL_isMoved_552 : decode cL_isMoved 552 = .ok (.ifCond .lt 7, 3) := by decide +kernel
theorem dL_isMoved_555 : decode cL_isMoved 555 = .ok (.iconst 1, 1) := by decide +kernel
theorem dL_isMoved_556 : decode cL_isMoved 556 = .ok (.goto 4, 3) := by decide +kernel
theorem dL_isMoved_559 : decode cL_isMoved 559 = .ok (.iconst 0, 1) := by decide +kernel
theorem dL_isMoved_560 : decode cL_isMoved 560 = .ok (.iload 15, 2) := by decide +kernel
theorem dL_isMoved_562 : decode cL_isMoved 562 = .ok (.ifCond .lt 7, 3) := by decide +kernel
theorem dL_isMoved_565 : decode cL_isMoved 565 = .ok (.iconst 1, 1) := by decide +kernel
theorem dL_isMoved_566 : decode cL_isMoved 566 = .ok (.goto 4, 3) := by decide +kernel
theorem dL_isMoved_569 : decode cL_isMoved 569 = .ok (.iconst 0, 1) := by decide +kernel
theorem dL_isMoved_570 : decode cL_isMoved 570 = .ok (.if_icmp .ne 7, 3) := by decide +kernel
theorem dL_isMoved_573 : decode cL_isMoved 573 = .ok (.iconst 1, 1) := by decide +kernel
theorem dL_isMoved_574 : decode cL_isMoved 574 = .ok (.goto 4, 3) := by decide +kernel
theorem dL_isMoved_577 : decode cL_isMoved 577 = .ok (.iconst 0, 1) := by decide +kernel
theorem dL_isMoved_578 : decode cL_isMoved 578 = .ok (.istore 13, 2) := by decide +kernel
theorem dL_isMoved_580 : decode cL_isMoved 580 = .ok (.iload 13, 2) := by decide +kernel
theorem dL_isMoved_582 : decode cL_isMoved 582 = .ok (.ifCond .eq 70, 3) := by decide +kernel
theorem dL_isMoved_585 : decode cL_isMoved 585 = .ok (.iload 16, 2) := by decide +kernel
theorem dL_isMoved_587 : decode cL_isMoved 587 = .ok (.ifCond .lt 65, 3) := by decide +kernel
theorem dL_isMoved_590 : decode cL_isMoved 590 = .ok (.aload_n 0, 1) := by decide +kernel
theorem dL_isMoved_591 : decode cL_isMoved 591 = .ok (.iconst 0, 1) := by decide +kernel
theorem dL_isMoved_592 : decode cL_isMoved 592 = .ok (.invokevirtual 23, 3) := by decide +kernel
theorem dL_isMoved_595 : decode cL_isMoved 595 = .ok (.iload 15, 2) := by decide +kernel
theorem dL_isMoved_597 : decode cL_isMoved 597 = .ok (.if_icmp .ne 52, 3) := by decide +kernel
theorem dL_isMoved_600 : decode cL_isMoved 600 = .ok (.aload_n 0, 1) := by decide +kernel
theorem dL_isMoved_601 : decode cL_isMoved 601 = .ok (.iconst 1, 1) := by decide +kernel
theorem dL_isMoved_602 : decode cL_isMoved 602 = .ok (.invokevirtual 23, 3) := by decide +kernel
theorem dL_isMoved_605 : decode cL_isMoved 605 = .ok (.iload 16, 2) := by decide +kernel
theorem dL_isMoved_607 : decode cL_isMoved 607 = .ok (.if_icmp .ne 42, 3) := by decide +kernel
theorem dL_isMoved_610 : decode cL_isMoved 610 = .ok (.aload_n 0, 1) := by decide +kernel
theorem dL_isMoved_611 : decode cL_isMoved 611 = .ok (.iconst 3, 1) := by decide +kernel
theorem dL_isMoved_612 : decode cL_isMoved 612 = .ok (.invokevirtual 23, 3) := by decide +kernel
theorem dL_isMoved_615 : decode cL_isMoved 615 = .ok (.ifCond .ne 34, 3) := by decide +kernel
theorem dL_isMoved_618 : decode cL_isMoved 618 = .ok (.aload_n 0, 1) := by decide +kernel
theorem dL_isMoved_619 : decode cL_isMoved 619 = .ok (.iload 15, 2) := by decide +kernel
theorem dL_isMoved_621 : decode cL_isMoved 621 = .ok (.iconst 1, 1) := by decide +kernel
theorem dL_isMoved_622 : decode cL_isMoved 622 = .ok (.invokevirtual 34, 3) := by decide +kernel
theorem dL_isMoved_625 : decode cL_isMoved 625 = .ok (.ifCond .eq 13, 3) := by decide +kernel
theorem dL_isMoved_628 : decode cL_isMoved 628 = .ok (.aload_n 0, 1) := by decide +kernel
theorem dL_isMoved_629 : decode cL_isMoved 629 = .ok (.bipush 6, 2) := by decide +kernel
theorem dL_isMoved_631 : decode cL_isMoved 631 = .ok (.invokevirtual 23, 3) := by decide +kernel
theorem dL_isMoved_634 : decode cL_isMoved 634 = .ok (.iconst 1, 1) := by decide +kernel
theorem dL_isMoved_635 : decode cL_isMoved 635 = .ok (.if_icmp .ne 14, 3) := by decide +kernel
theorem dL_isMoved_638 : decode cL_isMoved 638 = .ok (.aload_n 0, 1) := by decide +kernel
theorem dL_isMoved_639 : decode cL_isMoved 639 = .ok (.invokevirtual 125, 3) := by decide +kernel
theorem dL_isMoved_642 : decode cL_isMoved 642 = .ok (.ifCond .lt 7, 3) := by decide +kernel
theorem dL_isMoved_645 : decode cL_isMoved 645 = .ok (.iconst 1, 1) := by decide +kernel
theorem dL_isMoved_646 : decode cL_isMoved 646 = .ok (.goto 4, 3) := by decide +kernel
theorem dL_isMoved_649 : decode cL_isMoved 649 = .ok (.iconst 0, 1) := by decide +kernel
theorem dL_isMoved_650 : decode cL_isMoved 650 = .ok (.istore 13, 2) := by decide +kernel
theorem dL_isMoved_652 : decode cL_isMoved 652 = .ok (.iload 13, 2) := by decide +kernel
theorem dL_isMoved_654 : decode cL_isMoved 654 = .ok (.ifCond .eq 16, 3) := by decide +kernel
theorem dL_isMoved_657 : decode cL_isMoved 657 = .ok (.aload_n 0, 1) := by decide +kernel
theorem dL_isMoved_658 : decode cL_isMoved 658 = .ok (.invokestatic 121, 3) := by decide +kernel
theorem dL_isMoved_661 : decode cL_isMoved 661 = .ok (.lload_n 2, 1) := by decide +kernel
theorem dL_isMoved_662 : decode cL_isMoved 662 = .ok (.lcmp, 1) := by decide +kernel
theorem dL_isMoved_663 : decode cL_isMoved 663 = .ok (.ifCond .ne 7, 3) := by decide +kernel
theorem dL_isMoved_666 : decode cL_isMoved 666 = .ok (.iconst 1, 1) := by decide +kernel
theorem dL_isMoved_667 : decode cL_isMoved 667 = .ok (.goto 4, 3) := by decide +kernel
theorem dL_isMoved_670 : decode cL_isMoved 670 = .ok (.iconst 0, 1) := by decide +kernel
theorem dL_isMoved_671 : decode cL_isMoved 671 = .ok (.ireturn, 1) := by decide +kernel
theorem dL_isWaited_0 : decode cL_isWaited 0 = .ok (.aload_n 0, 1) := by decide +kernel
theorem dL_isWaited_1 : decode cL_isWaited 1 = .ok (.invokevirtual 114, 3) := by decide +kernel
theorem dL_isWaited_4 : decode cL_isWaited 4 = .ok (.istore_n 1, 1) := by decide +kernel
theorem dL_isWaited_5 : decode cL_isWaited 5 = .ok (.iload_n 1, 1) := by decide +kernel
theorem dL_isWaited_6 : decode cL_isWaited 6 = .ok (.ifCond .le 16, 3) := by decide +kernel
theorem dL_isWaited_9 : decode cL_isWaited 9 = .ok (.iload_n 1, 1) := by decide +kernel
theorem dL_isWaited_10 : decode cL_isWaited 10 = .ok (.bipush 99, 2) := by decide +kernel
theorem dL_isWaited_12 : decode cL_isWaited 12 = .ok (.if_icmp .gt 10, 3) := by decide +kernel
theorem dL_isWaited_15 : decode cL_isWaited 15 = .ok (.aload_n 0, 1) := by decide +kernel
theorem dL_isWaited_16 : decode cL_isWaited 16 = .ok (.invokevirtual 17, 3) := by decide +kernel
theorem dL_isWaited_19 : decode cL_isWaited 19 = .ok (.ifCond .le 5, 3) := by decide +kernel
theorem dL_isWaited_22 : decode cL_isWaited 22 = .ok (.iconst 1, 1) := by decide +kernel
theorem dL_isWaited_23 : decode cL_isWaited 23 = .ok (.ireturn, 1) := by decide +kernel
theorem dL_isWaited_24 : decode cL_isWaited 24 = .ok (.aload_n 0, 1) := by decide +kernel
theorem dL_isWaited_25 : decode cL_isWaited 25 = .ok (.invokevirtual 111, 3) := by decide +kernel
theorem dL_isWaited_28 : decode cL_isWaited 28 = .ok (.istore_n 2, 1) := by decide +kernel
theorem dL_isWaited_29 : decode cL_isWaited 29 = .ok (.aload_n 0, 1) := by decide +kernel
theorem dL_isWaited_30 : decode cL_isWaited 30 = .ok (.iload_n 1, 1) := by decide +kernel
theorem dL_isWaited_31 : decode cL_isWaited 31 = .ok (.invokevirtual 99, 3) := by decide +kernel
theorem dL_isWaited_34 : decode cL_isWaited 34 = .ok (.iload_n 2, 1) := by decide +kernel
theorem dL_isWaited_35 : decode cL_isWaited 35 = .ok (.if_icmp .ne 29, 3) := by decide +kernel
theorem dL_isWaited_38 : decode cL_isWaited 38 = .ok (.aload_n 0, 1) := by decide +kernel
theorem dL_isWaited_39 : decode cL_isWaited 39 = .ok (.invokevirtual 111, 3) := by decide +kernel
theorem dL_isWaited_42 : decode cL_isWaited 42 = .ok (.ifCond .ne 22, 3) := by decide +kernel
theorem dL_isWaited_45 : decode cL_isWaited 45 = .ok (.aload_n 0, 1) := by decide +kernel
theorem dL_isWaited_46 : decode cL_isWaited 46 = .ok (.iconst 3, 1) := by decide +kernel
theorem dL_isWaited_47 : decode cL_isWaited 47 = .ok (.invokevirtual 23, 3) := by decide +kernel
theorem dL_isWaited_50 : decode cL_isWaited 50 = .ok (.ifCond .ne 14, 3) := by decide +kernel
theorem dL_isWaited_53 : decode cL_isWaited 53 = .ok (.aload_n 0, 1) := by decide +kernel
theorem dL_isWaited_54 : decode cL_isWaited 54 = .ok (.invokevirtual 125, 3) := by decide +kernel
theorem dL_isWaited_57 : decode cL_isWaited 57 = .ok (.ifCond .lt 7, 3) := by decide +kernel
theorem dL_isWaited_60 : decode cL_isWaited 60 = .ok (.iconst 1, 1) := by decide +kernel
theorem dL_isWaited_61 : decode cL_isWaited 61 = .ok (.goto 4, 3) := by decide +kernel
theorem dL_isWaited_64 : decode cL_isWaited 64 = .ok (.iconst 0, 1) := by decide +kernel
theorem dL_isWaited_65 : decode cL_isWaited 65 = .ok (.istore_n 3, 1) := by decide +kernel
theorem dL_isWaited_66 : decode cL_isWaited 66 = .ok (.iload_n 3, 1) := by decide +kernel
theorem dL_isWaited_67 : decode cL_isWaited 67 = .ok (.ifCond .eq 40, 3) := by decide +kernel
theorem dL_isWaited_70 : decode cL_isWaited 70 = .ok (.iload_n 1, 1) := by decide +kernel
theorem dL_isWaited_71 : decode cL_isWaited 71 = .ok (.iconst 1, 1) := by decide +kernel
theorem dL_isWaited_72 : decode cL_isWaited 72 = .ok (.if_icmp .eq 31, 3) := by decide +kernel
theorem dL_isWaited_75 : decode cL_isWaited 75 = .ok (.aload_n 0, 1) := by decide +kernel
theorem dL_isWaited_76 : decode cL_isWaited 76 = .ok (.iload_n 1, 1) := by decide +kernel
theorem dL_isWaited_77 : decode cL_isWaited 77 = .ok (.iconst 1, 1) := by decide +kernel
theorem dL_isWaited_78 : decode cL_isWaited 78 = .ok (.isub, 1) := by decide +kernel
theorem dL_isWaited_79 : decode cL_isWaited 79 = .ok (.invokevirtual 99, 3) := by decide +kernel
theorem dL_isWaited_82 : decode cL_isWaited 82 = .ok (.iload_n 2, 1) := by decide +kernel
theorem dL_isWaited_83 : decode cL_isWaited 83 = .ok (.iconst 1, 1) := by decide +kernel
theorem dL_isWaited_84 : decode cL_isWaited 84 = .ok (.isub, 1) := by decide +kernel
theorem dL_isWaited_85 : decode cL_isWaited 85 = .ok (.if_icmp .ne 22, 3) := by decide +kernel
theorem dL_isWaited_88 : decode cL_isWaited 88 = .ok (.aload_n 0, 1) := by decide +kernel
theorem dL_isWaited_89 : decode cL_isWaited 89 = .ok (.invokevirtual 111, 3) := by decide +kernel
theorem dL_isWaited_92 : decode cL_isWaited 92 = .ok (.iconst 1, 1) := by decide +kernel
theorem dL_isWaited_93 : decode cL_isWaited 93 = .ok (.if_icmp .ne 14, 3) := by decide +kernel
theorem dL_isWaited_96 : decode cL_isWaited 96 = .ok (.aload_n 0, 1) := by decide +kernel
theorem dL_isWaited_97 : decode cL_isWaited 97 = .ok (.invokevirtual 125, 3) := by decide +kernel
theorem dL_isWaited_100 : decode cL_isWaited 100 = .ok (.ifCond .lt 7, 3) := by decide +kernel
theorem dL_isWaited_103 : decode cL_isWaited 103 = .ok (.iconst 1, 1) := by decide +kernel
theorem dL_isWaited_104 : decode cL_isWaited 104 = .ok (.goto 4, 3) := by decide +kernel
theorem dL_isWaited_107 : decode cL_isWaited 107 = .ok (.iconst 0, 1) := by decide +kernel
theorem dL_isWaited_108 : decode cL_isWaited 108 = .ok (.ireturn, 1) := by decide +kernel
theorem dL_law_0 : decode cL_law 0 = .ok (.new 9, 3) := by decide +kernel
theorem dL_law_3 : decode cL_law 3 = .ok (.dup, 1) := by decide +kernel
theorem dL_law_4 : decode cL_law 4 = .ok (.invokespecial 128, 3) := by decide +kernel
theorem dL_law_7 : decode cL_law 7 = .ok (.astore_n 1, 1) := by decide +kernel
theorem dL_law_8 : decode cL_law 8 = .ok (.aload_n 1, 1) := by decide +kernel
theorem dL_law_9 : decode cL_law 9 = .ok (.invokestatic 129, 3) := by decide +kernel
theorem dL_law_12 : decode cL_law 12 = .ok (.ifCond .eq 16, 3) := by decide +kernel
theorem dL_law_15 : decode cL_law 15 = .ok (.aload_n 1, 1) := by decide +kernel
theorem dL_law_16 : decode cL_law 16 = .ok (.invokevirtual 125, 3) := by decide +kernel
theorem dL_law_19 : decode cL_law 19 = .ok (.bipush (-6), 2) := by decide +kernel
theorem dL_law_21 : decode cL_law 21 = .ok (.if_icmp .ne 7, 3) := by decide +kernel
theorem dL_law_24 : decode cL_law 24 = .ok (.iconst 1, 1) := by decide +kernel
theorem dL_law_25 : decode cL_law 25 = .ok (.goto 4, 3) := by decide +kernel
theorem dL_law_28 : decode cL_law 28 = .ok (.iconst 0, 1) := by decide +kernel
theorem dL_law_29 : decode cL_law 29 = .ok (.istore_n 2, 1) := by decide +kernel
theorem dL_law_30 : decode cL_law 30 = .ok (.iconst 0, 1) := by decide +kernel
theorem dL_law_31 : decode cL_law 31 = .ok (.istore_n 3, 1) := by decide +kernel
theorem dL_law_32 : decode cL_law 32 = .ok (.iload_n 3, 1) := by decide +kernel
theorem dL_law_33 : decode cL_law 33 = .ok (.bipush 64, 2) := by decide +kernel
theorem dL_law_35 : decode cL_law 35 = .ok (.if_icmp .ge 200, 3) := by decide +kernel
theorem dL_law_38 : decode cL_law 38 = .ok (.iload_n 2, 1) := by decide +kernel
theorem dL_law_39 : decode cL_law 39 = .ok (.ifCond .eq 196, 3) := by decide +kernel
theorem dL_law_42 : decode cL_law 42 = .ok (.aload_n 0, 1) := by decide +kernel
theorem dL_law_43 : decode cL_law 43 = .ok (.iconst 2, 1) := by decide +kernel
theorem dL_law_44 : decode cL_law 44 = .ok (.iload_n 3, 1) := by decide +kernel
theorem dL_law_45 : decode cL_law 45 = .ok (.imul, 1) := by decide +kernel
theorem dL_law_46 : decode cL_law 46 = .ok (.invokestatic 133, 3) := by decide +kernel
theorem dL_law_49 : decode cL_law 49 = .ok (.istore 4, 2) := by decide +kernel
theorem dL_law_51 : decode cL_law 51 = .ok (.aload_n 0, 1) := by decide +kernel
theorem dL_law_52 : decode cL_law 52 = .ok (.iconst 2, 1) := by decide +kernel
theorem dL_law_53 : decode cL_law 53 = .ok (.iload_n 3, 1) := by decide +kernel
theorem dL_law_54 : decode cL_law 54 = .ok (.imul, 1) := by decide +kernel
theorem dL_law_55 : decode cL_law 55 = .ok (.iconst 1, 1) := by decide +kernel
theorem dL_law_56 : decode cL_law 56 = .ok (.iadd, 1) := by decide +kernel
theorem dL_law_57 : decode cL_law 57 = .ok (.invokestatic 133, 3) := by decide +kernel
theorem dL_law_60 : decode cL_law 60 = .ok (.istore 5, 2) := by decide +kernel
theorem dL_law_62 : decode cL_law 62 = .ok (.aload_n 1, 1) := by decide +kernel
theorem dL_law_63 : decode cL_law 63 = .ok (.invokestatic 121, 3) := by decide +kernel
theorem dL_law_66 : decode cL_law 66 = .ok (.lstore 6, 2) := by decide +kernel
theorem dL_law_68 : decode cL_law 68 = .ok (.aload_n 1, 1) := by decide +kernel
theorem dL_law_69 : decode cL_law 69 = .ok (.iload 4, 2) := by decide +kernel
theorem dL_law_71 : decode cL_law 71 = .ok (.iload 5, 2) := by decide +kernel
theorem dL_law_73 : decode cL_law 73 = .ok (.invokestatic 137, 3) := by decide +kernel
theorem dL_law_76 : decode cL_law 76 = .ok (.istore 8, 2) := by decide +kernel
theorem dL_law_78 : decode cL_law 78 = .ok (.iload 8, 2) := by decide +kernel
theorem dL_law_80 : decode cL_law 80 = .ok (.invokestatic 141, 3) := by decide +kernel
theorem dL_law_83 : decode cL_law 83 = .ok (.ifCond .eq 13, 3) := by decide +kernel
theorem dL_law_86 : decode cL_law 86 = .ok (.aload_n 1, 1) := by decide +kernel
theorem dL_law_87 : decode cL_law 87 = .ok (.invokestatic 121, 3) := by decide +kernel
theorem dL_law_90 : decode cL_law 90 = .ok (.lload 6, 2) := by decide +kernel
theorem dL_law_92 : decode cL_law 92 = .ok (.lcmp, 1) := by decide +kernel
theorem dL_law_93 : decode cL_law 93 = .ok (.ifCond .ne 7, 3) := by decide +kernel
theorem dL_law_96 : decode cL_law 96 = .ok (.iconst 1, 1) := by decide +kernel
theorem dL_law_97 : decode cL_law 97 = .ok (.goto 4, 3) := by decide +kernel
theorem dL_law_100 : decode cL_law 100 = .ok (.iconst 0, 1) := by decide +kernel
theorem dL_law_101 : decode cL_law 101 = .ok (.istore_n 2, 1) := by decide +kernel
theorem dL_law_102 : decode cL_law 102 = .ok (.iload_n 2, 1) := by decide +kernel
theorem dL_law_103 : decode cL_law 103 = .ok (.ifCond .eq 73, 3) := by decide +kernel
theorem dL_law_106 : decode cL_law 106 = .ok (.iload 8, 2) := by decide +kernel
theorem dL_law_108 : decode cL_law 108 = .ok (.invokestatic 141, 3) := by decide +kernel
theorem dL_law_111 : decode cL_law 111 = .ok (.ifCond .ne 65, 3) := by decide +kernel
theorem dL_law_114 : decode cL_law 114 = .ok (.iload 4, 2) := by decide +kernel
theorem dL_law_116 : decode cL_law 116 = .ok (.bipush 8, 2) := by decide +kernel
theorem dL_law_118 : decode cL_law 118 = .ok (.ishr, 1) := by decide +kernel
theorem dL_law_119 : decode cL_law 119 = .ok (.iconst 3, 1) := by decide +kernel
theorem dL_law_120 : decode cL_law 120 = .ok (.iand, 1) := by decide +kernel
theorem dL_law_121 : decode cL_law 121 = .ok (.ifCond .ne 55, 3) := by decide +kernel
theorem dL_law_124 : decode cL_law 124 = .ok (.aload_n 1, 1) := by decide +kernel
theorem dL_law_125 : decode cL_law 125 = .ok (.invokestatic 121, 3) := by decide +kernel
theorem dL_law_128 : decode cL_law 128 = .ok (.lstore 9, 2) := by decide +kernel
theorem dL_law_130 : decode cL_law 130 = .ok (.aload_n 1, 1) := by decide +kernel
theorem dL_law_131 : decode cL_law 131 = .ok (.invokevirtual 125, 3) := by decide +kernel
theorem dL_law_134 : decode cL_law 134 = .ok (.ifCond .lt 40, 3) := by decide +kernel
theorem dL_law_137 : decode cL_law 137 = .ok (.aload_n 1, 1) := by decide +kernel
theorem dL_law_138 : decode cL_law 138 = .ok (.invokestatic 121, 3) := by decide +kernel
theorem dL_law_141 : decode cL_law 141 = .ok (.lload 6, 2) := by decide +kernel
theorem dL_law_143 : decode cL_law 143 = .ok (.lcmp, 1) := by decide +kernel
theorem dL_law_144 : decode cL_law 144 = .ok (.ifCond .ne 30, 3) := by decide +kernel
theorem dL_law_147 : decode cL_law 147 = .ok (.aload_n 1, 1) := by decide +kernel
theorem dL_law_148 : decode cL_law 148 = .ok (.iload 4, 2) := by decide +kernel
theorem dL_law_150 : decode cL_law 150 = .ok (.iload 5, 2) := by decide +kernel
theorem dL_law_152 : decode cL_law 152 = .ok (.invokestatic 137, 3) := by decide +kernel
theorem dL_law_155 : decode cL_law 155 = .ok (.iload 8, 2) := by decide +kernel
theorem dL_law_157 : decode cL_law 157 = .ok (.if_icmp .ne 17, 3) := by decide +kernel
theorem dL_law_160 : decode cL_law 160 = .ok (.aload_n 1, 1) := by decide +kernel
theorem dL_law_161 : decode cL_law 161 = .ok (.invokestatic 121, 3) := by decide +kernel
theorem dL_law_164 : decode cL_law 164 = .ok (.lload 9, 2) := by decide +kernel
theorem dL_law_166 : decode cL_law 166 = .ok (.lcmp, 1) := by decide +kernel
theorem dL_law_167 : decode cL_law 167 = .ok (.ifCond .ne 7, 3) := by decide +kernel
theorem dL_law_170 : decode cL_law 170 = .ok (.iconst 1, 1) := by decide +kernel
theorem dL_law_171 : decode cL_law 171 = .ok (.goto 4, 3) := by decide +kernel
theorem dL_law_174 : decode cL_law 174 = .ok (.iconst 0, 1) := by decide +kernel
theorem dL_law_175 : decode cL_law 175 = .ok (.istore_n 2, 1) := by decide +kernel
theorem dL_law_176 : decode cL_law 176 = .ok (.iload_n 2, 1) := by decide +kernel
theorem dL_law_177 : decode cL_law 177 = .ok (.ifCond .eq 50, 3) := by decide +kernel
theorem dL_law_180 : decode cL_law 180 = .ok (.aload_n 1, 1) := by decide +kernel
theorem dL_law_181 : decode cL_law 181 = .ok (.invokestatic 129, 3) := by decide +kernel
theorem dL_law_184 : decode cL_law 184 = .ok (.ifCond .eq 43, 3) := by decide +kernel
theorem dL_law_187 : decode cL_law 187 = .ok (.iload_n 3, 1) := by decide +kernel
theorem dL_law_188 : decode cL_law 188 = .ok (.iconst 3, 1) := by decide +kernel
theorem dL_law_189 : decode cL_law 189 = .ok (.irem, 1) := by decide +kernel
theorem dL_law_190 : decode cL_law 190 = .ok (.iconst 1, 1) := by decide +kernel
theorem dL_law_191 : decode cL_law 191 = .ok (.if_icmp .ne 18, 3) := by decide +kernel
theorem dL_law_194 : decode cL_law 194 = .ok (.aload_n 1, 1) := by decide +kernel
theorem dL_law_195 : decode cL_law 195 = .ok (.iload 5, 2) := by decide +kernel
theorem dL_law_197 : decode cL_law 197 = .ok (.iconst 5, 1) := by decide +kernel
theorem dL_law_198 : decode cL_law 198 = .ok (.ishr, 1) := by decide +kernel
theorem dL_law_199 : decode cL_law 199 = .ok (.iconst 4, 1) := by decide +kernel
theorem dL_law_200 : decode cL_law 200 = .ok (.invokestatic 49, 3) := by decide +kernel
theorem dL_law_203 : decode cL_law 203 = .ok (.invokestatic 145, 3) := by decide +kernel
theorem dL_law_206 : decode cL_law 206 = .ok (.ifCond .eq 21, 3) := by decide +kernel
theorem dL_law_209 : decode cL_law 209 = .ok (.iload_n 3, 1) := by decide +kernel
theorem dL_law_210 : decode cL_law 210 = .ok (.iconst 4, 1) := by decide +kernel
theorem dL_law_211 : decode cL_law 211 = .ok (.irem, 1) := by decide +kernel
theorem dL_law_212 : decode cL_law 212 = .ok (.iconst 2, 1) := by decide +kernel
theorem dL_law_213 : decode cL_law 213 = .ok (.if_icmp .ne 10, 3) := by decide +kernel
theorem dL_law_216 : decode cL_law 216 = .ok (.aload_n 1, 1) := by decide +kernel
theorem dL_law_217 : decode cL_law 217 = .ok (.invokestatic 149, 3) := by decide +kernel
theorem dL_law_220 : decode cL_law 220 = .ok (.ifCond .eq 7, 3) := by decide +kernel
theorem dL_law_223 : decode cL_law 223 = .ok (.iconst 1, 1) := by decide +kernel
theorem dL_law_224 : decode cL_law 224 = .ok (.goto 4, 3) := by decide +kernel
theorem dL_law_227 : decode cL_law 227 = .ok (.iconst 0, 1) := by decide +kernel
theorem dL_law_228 : decode cL_law 228 = .ok (.istore_n 2, 1) := by decide +kernel
theorem dL_law_229 : decode cL_law 229 = .ok (.iinc 3 1, 3) := by decide +kernel
theorem dL_law_232 : decode cL_law 232 = .ok (.goto (-200), 3) := by decide +kernel
theorem dL_law_235 : decode cL_law 235 = .ok (.iload_n 2, 1) := by decide +kernel
theorem dL_law_236 : decode cL_law 236 = .ok (.ireturn, 1) := by decide +kernel
