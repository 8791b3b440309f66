theorem dL_cell_0 : decode cL_cell 0 = .ok (.iload_n 1, 1) := by decide +kernel
theorem dL_cell_1 : decode cL_cell 1 = .ok (.aload_n 0, 1) := by decide +kernel
theorem dL_cell_2 : decode cL_cell 2 = .ok (.arraylength, 1) := by decide +kernel
theorem dL_cell_3 : decode cL_cell 3 = .ok (.if_icmp .ge 9, 3) := by decide +kernel
theorem dL_cell_6 : decode cL_cell 6 = .ok (.aload_n 0, 1) := by decide +kernel
theorem dL_cell_7 : decode cL_cell 7 = .ok (.iload_n 1, 1) := by decide +kernel
theorem dL_cell_8 : decode cL_cell 8 = .ok (.iaload, 1) := by decide +kernel
theorem dL_cell_9 : decode cL_cell 9 = .ok (.goto 15, 3) := by decide +kernel
theorem dL_cell_12 : decode cL_cell 12 = .ok (.sipush 7919, 3) := by decide +kernel
theorem dL_cell_15 : decode cL_cell 15 = .ok (.iload_n 1, 1) := by decide +kernel
theorem dL_cell_16 : decode cL_cell 16 = .ok (.iconst 3, 1) := by decide +kernel
theorem dL_cell_17 : decode cL_cell 17 = .ok (.iadd, 1) := by decide +kernel
theorem dL_cell_18 : decode cL_cell 18 = .ok (.imul, 1) := by decide +kernel
theorem dL_cell_19 : decode cL_cell 19 = .ok (.iload_n 1, 1) := by decide +kernel
theorem dL_cell_20 : decode cL_cell 20 = .ok (.bipush 11, 2) := by decide +kernel
theorem dL_cell_22 : decode cL_cell 22 = .ok (.iadd, 1) := by decide +kernel
theorem dL_cell_23 : decode cL_cell 23 = .ok (.imul, 1) := by decide +kernel
theorem dL_cell_24 : decode cL_cell 24 = .ok (.ireturn, 1) := by decide +kernel
theorem dL_low_0 : decode cL_low 0 = .ok (.iload_n 0, 1) := by decide +kernel
theorem dL_low_1 : decode cL_low 1 = .ok (.ldc 7, 2) := by decide +kernel
theorem dL_low_3 : decode cL_low 3 = .ok (.iand, 1) := by decide +kernel
theorem dL_low_4 : decode cL_low 4 = .ok (.iload_n 1, 1) := by decide +kernel
theorem dL_low_5 : decode cL_low 5 = .ok (.irem, 1) := by decide +kernel
theorem dL_low_6 : decode cL_low 6 = .ok (.ireturn, 1) := by decide +kernel
theorem dL_told_0 : decode cL_told 0 = .ok (.ldc2_w 8, 3) := by decide +kernel
theorem dL_told_3 : decode cL_told 3 = .ok (.lstore_n 1, 1) := by decide +kernel
theorem dL_told_4 : decode cL_told 4 = .ok (.iconst 0, 1) := by decide +kernel
theorem dL_told_5 : decode cL_told 5 = .ok (.istore_n 3, 1) := by decide +kernel
theorem dL_told_6 : decode cL_told 6 = .ok (.iload_n 3, 1) := by decide +kernel
theorem dL_told_7 : decode cL_told 7 = .ok (.bipush 13, 2) := by decide +kernel
theorem dL_told_9 : decode cL_told 9 = .ok (.if_icmp .ge 22, 3) := by decide +kernel
theorem dL_told_12 : decode cL_told 12 = .ok (.ldc2_w 10, 3) := by decide +kernel
theorem dL_told_15 : decode cL_told 15 = .ok (.lload_n 1, 1) := by decide +kernel
theorem dL_told_16 : decode cL_told 16 = .ok (.lmul, 1) := by decide +kernel
theorem dL_told_17 : decode cL_told 17 = .ok (.aload_n 0, 1) := by decide +kernel
theorem dL_told_18 : decode cL_told 18 = .ok (.iload_n 3, 1) := by decide +kernel
theorem dL_told_19 : decode cL_told 19 = .ok (.invokevirtual 12, 3) := by decide +kernel
theorem dL_told_22 : decode cL_told 22 = .ok (.i2l, 1) := by decide +kernel
theorem dL_told_23 : decode cL_told 23 = .ok (.ladd, 1) := by decide +kernel
theorem dL_told_24 : decode cL_told 24 = .ok (.lstore_n 1, 1) := by decide +kernel
theorem dL_told_25 : decode cL_told 25 = .ok (.iinc 3 1, 3) := by decide +kernel
theorem dL_told_28 : decode cL_told 28 = .ok (.goto (-22), 3) := by decide +kernel
theorem dL_told_31 : decode cL_told 31 = .ok (.iconst 0, 1) := by decide +kernel
theorem dL_told_32 : decode cL_told 32 = .ok (.istore_n 3, 1) := by decide +kernel
theorem dL_told_33 : decode cL_told 33 = .ok (.iload_n 3, 1) := by decide +kernel
theorem dL_told_34 : decode cL_told 34 = .ok (.bipush 10, 2) := by decide +kernel
theorem dL_told_36 : decode cL_told 36 = .ok (.if_icmp .ge 40, 3) := by decide +kernel
theorem dL_told_39 : decode cL_told 39 = .ok (.iconst 0, 1) := by decide +kernel
theorem dL_told_40 : decode cL_told 40 = .ok (.istore 4, 2) := by decide +kernel
theorem dL_told_42 : decode cL_told 42 = .ok (.iload 4, 2) := by decide +kernel
theorem dL_told_44 : decode cL_told 44 = .ok (.bipush 8, 2) := by decide +kernel
theorem dL_told_46 : decode cL_told 46 = .ok (.if_icmp .ge 24, 3) := by decide +kernel
theorem dL_told_49 : decode cL_told 49 = .ok (.ldc2_w 10, 3) := by decide +kernel
theorem dL_told_52 : decode cL_told 52 = .ok (.lload_n 1, 1) := by decide +kernel
theorem dL_told_53 : decode cL_told 53 = .ok (.lmul, 1) := by decide +kernel
theorem dL_told_54 : decode cL_told 54 = .ok (.aload_n 0, 1) := by decide +kernel
theorem dL_told_55 : decode cL_told 55 = .ok (.iload_n 3, 1) := by decide +kernel
theorem dL_told_56 : decode cL_told 56 = .ok (.iload 4, 2) := by decide +kernel
theorem dL_told_58 : decode cL_told 58 = .ok (.invokevirtual 18, 3) := by decide +kernel
theorem dL_told_61 : decode cL_told 61 = .ok (.i2l, 1) := by decide +kernel
theorem dL_told_62 : decode cL_told 62 = .ok (.ladd, 1) := by decide +kernel
theorem dL_told_63 : decode cL_told 63 = .ok (.lstore_n 1, 1) := by decide +kernel
theorem dL_told_64 : decode cL_told 64 = .ok (.iinc 4 1, 3) := by decide +kernel
theorem dL_told_67 : decode cL_told 67 = .ok (.goto (-25), 3) := by decide +kernel
theorem dL_told_70 : decode cL_told 70 = .ok (.iinc 3 1, 3) := by decide +kernel
theorem dL_told_73 : decode cL_told 73 = .ok (.goto (-40), 3) := by decide +kernel
theorem dL_told_76 : decode cL_told 76 = .ok (.iconst 0, 1) := by decide +kernel
theorem dL_told_77 : decode cL_told 77 = .ok (.istore_n 3, 1) := by decide +kernel
theorem dL_told_78 : decode cL_told 78 = .ok (.iload_n 3, 1) := by decide +kernel
theorem dL_told_79 : decode cL_told 79 = .ok (.bipush 20, 2) := by decide +kernel
theorem dL_told_81 : decode cL_told 81 = .ok (.if_icmp .ge 35, 3) := by decide +kernel
theorem dL_told_84 : decode cL_told 84 = .ok (.ldc2_w 10, 3) := by decide +kernel
theorem dL_told_87 : decode cL_told 87 = .ok (.ldc2_w 10, 3) := by decide +kernel
theorem dL_told_90 : decode cL_told 90 = .ok (.lload_n 1, 1) := by decide +kernel
theorem dL_told_91 : decode cL_told 91 = .ok (.lmul, 1) := by decide +kernel
theorem dL_told_92 : decode cL_told 92 = .ok (.aload_n 0, 1) := by decide +kernel
theorem dL_told_93 : decode cL_told 93 = .ok (.iload_n 3, 1) := by decide +kernel
theorem dL_told_94 : decode cL_told 94 = .ok (.iconst 0, 1) := by decide +kernel
theorem dL_told_95 : decode cL_told 95 = .ok (.invokevirtual 22, 3) := by decide +kernel
theorem dL_told_98 : decode cL_told 98 = .ok (.i2l, 1) := by decide +kernel
theorem dL_told_99 : decode cL_told 99 = .ok (.ladd, 1) := by decide +kernel
theorem dL_told_100 : decode cL_told 100 = .ok (.lmul, 1) := by decide +kernel
theorem dL_told_101 : decode cL_told 101 = .ok (.aload_n 0, 1) := by decide +kernel
theorem dL_told_102 : decode cL_told 102 = .ok (.iload_n 3, 1) := by decide +kernel
theorem dL_told_103 : decode cL_told 103 = .ok (.iconst 2, 1) := by decide +kernel
theorem dL_told_104 : decode cL_told 104 = .ok (.invokevirtual 22, 3) := by decide +kernel
theorem dL_told_107 : decode cL_told 107 = .ok (.i2l, 1) := by decide +kernel
theorem dL_told_108 : decode cL_told 108 = .ok (.ladd, 1) := by decide +kernel
theorem dL_told_109 : decode cL_told 109 = .ok (.lstore_n 1, 1) := by decide +kernel
theorem dL_told_110 : decode cL_told 110 = .ok (.iinc 3 1, 3) := by decide +kernel
theorem dL_told_113 : decode cL_told 113 = .ok (.goto (-35), 3) := by decide +kernel
theorem dL_told_116 : decode cL_told 116 = .ok (.iconst 0, 1) := by decide +kernel
theorem dL_told_117 : decode cL_told 117 = .ok (.istore_n 3, 1) := by decide +kernel
theorem dL_told_118 : decode cL_told 118 = .ok (.iload_n 3, 1) := by decide +kernel
theorem dL_told_119 : decode cL_told 119 = .ok (.aload_n 0, 1) := by decide +kernel
theorem dL_told_120 : decode cL_told 120 = .ok (.iconst 3, 1) := by decide +kernel
theorem dL_told_121 : decode cL_told 121 = .ok (.invokevirtual 12, 3) := by decide +kernel
theorem dL_told_124 : decode cL_told 124 = .ok (.if_icmp .ge 39, 3) := by decide +kernel
theorem dL_told_127 : decode cL_told 127 = .ok (.iconst 0, 1) := by decide +kernel
theorem dL_told_128 : decode cL_told 128 = .ok (.istore 4, 2) := by decide +kernel
theorem dL_told_130 : decode cL_told 130 = .ok (.iload 4, 2) := by decide +kernel
theorem dL_told_132 : decode cL_told 132 = .ok (.iconst 5, 1) := by decide +kernel
theorem dL_told_133 : decode cL_told 133 = .ok (.if_icmp .ge 24, 3) := by decide +kernel
theorem dL_told_136 : decode cL_told 136 = .ok (.ldc2_w 10, 3) := by decide +kernel
theorem dL_told_139 : decode cL_told 139 = .ok (.lload_n 1, 1) := by decide +kernel
theorem dL_told_140 : decode cL_told 140 = .ok (.lmul, 1) := by decide +kernel
theorem dL_told_141 : decode cL_told 141 = .ok (.aload_n 0, 1) := by decide +kernel
theorem dL_told_142 : decode cL_told 142 = .ok (.iload_n 3, 1) := by decide +kernel
theorem dL_told_143 : decode cL_told 143 = .ok (.iload 4, 2) := by decide +kernel
theorem dL_told_145 : decode cL_told 145 = .ok (.invokevirtual 25, 3) := by decide +kernel
theorem dL_told_148 : decode cL_told 148 = .ok (.i2l, 1) := by decide +kernel
theorem dL_told_149 : decode cL_told 149 = .ok (.ladd, 1) := by decide +kernel
theorem dL_told_150 : decode cL_told 150 = .ok (.lstore_n 1, 1) := by decide +kernel
theorem dL_told_151 : decode cL_told 151 = .ok (.iinc 4 1, 3) := by decide +kernel
theorem dL_told_154 : decode cL_told 154 = .ok (.goto (-24), 3) := by decide +kernel
theorem dL_told_157 : decode cL_told 157 = .ok (.iinc 3 1, 3) := by decide +kernel
theorem dL_told_160 : decode cL_told 160 = .ok (.goto (-42), 3) := by decide +kernel
theorem dL_told_163 : decode cL_told 163 = .ok (.ldc2_w 10, 3) := by decide +kernel
theorem dL_told_166 : decode cL_told 166 = .ok (.ldc2_w 10, 3) := by decide +kernel
theorem dL_told_169 : decode cL_told 169 = .ok (.lload_n 1, 1) := by decide +kernel
theorem dL_told_170 : decode cL_told 170 = .ok (.lmul, 1) := by decide +kernel
theorem dL_told_171 : decode cL_told 171 = .ok (.aload_n 0, 1) := by decide +kernel
theorem dL_told_172 : decode cL_told 172 = .ok (.iconst 0, 1) := by decide +kernel
theorem dL_told_173 : decode cL_told 173 = .ok (.invokevirtual 28, 3) := by decide +kernel
theorem dL_told_176 : decode cL_told 176 = .ok (.i2l, 1) := by decide +kernel
theorem dL_told_177 : decode cL_told 177 = .ok (.ladd, 1) := by decide +kernel
theorem dL_told_178 : decode cL_told 178 = .ok (.lmul, 1) := by decide +kernel
theorem dL_told_179 : decode cL_told 179 = .ok (.aload_n 0, 1) := by decide +kernel
theorem dL_told_180 : decode cL_told 180 = .ok (.iconst 1, 1) := by decide +kernel
theorem dL_told_181 : decode cL_told 181 = .ok (.invokevirtual 28, 3) := by decide +kernel
theorem dL_told_184 : decode cL_told 184 = .ok (.i2l, 1) := by decide +kernel
theorem dL_told_185 : decode cL_told 185 = .ok (.ladd, 1) := by decide +kernel
theorem dL_told_186 : decode cL_told 186 = .ok (.lreturn, 1) := by decide +kernel
theorem dL_act_0 : decode cL_act 0 = .ok (.iload_n 1, 1) := by decide +kernel
theorem dL_act_1 : decode cL_act 1 = .ok (.iconst 4, 1) := by decide +kernel
theorem dL_act_2 : decode cL_act 2 = .ok (.ishr, 1) := by decide +kernel
theorem dL_act_3 : decode cL_act 3 = .ok (.iload_n 1, 1) := by decide +kernel
theorem dL_act_4 : decode cL_act 4 = .ok (.bipush 20, 2) := by decide +kernel
theorem dL_act_6 : decode cL_act 6 = .ok (.ishr, 1) := by decide +kernel
theorem dL_act_7 : decode cL_act 7 = .ok (.bipush 7, 2) := by decide +kernel
theorem dL_act_9 : decode cL_act 9 = .ok (.iand, 1) := by decide +kernel
theorem dL_act_10 : decode cL_act 10 = .ok (.ifCond .ne 8, 3) := by decide +kernel
theorem dL_act_13 : decode cL_act 13 = .ok (.bipush 11, 2) := by decide +kernel
theorem dL_act_15 : decode cL_act 15 = .ok (.goto 4, 3) := by decide +kernel
theorem dL_act_18 : decode cL_act 18 = .ok (.iconst 4, 1) := by decide +kernel
theorem dL_act_19 : decode cL_act 19 = .ok (.invokestatic 31, 3) := by decide +kernel
theorem dL_act_22 : decode cL_act 22 = .ok (.istore_n 3, 1) := by decide +kernel
theorem dL_act_23 : decode cL_act 23 = .ok (.aload_n 0, 1) := by decide +kernel
theorem dL_act_24 : decode cL_act 24 = .ok (.iconst 3, 1) := by decide +kernel
theorem dL_act_25 : decode cL_act 25 = .ok (.invokevirtual 12, 3) := by decide +kernel
theorem dL_act_28 : decode cL_act 28 = .ok (.ifCond .ne 7, 3) := by decide +kernel
theorem dL_act_31 : decode cL_act 31 = .ok (.iconst 0, 1) := by decide +kernel
theorem dL_act_32 : decode cL_act 32 = .ok (.goto 16, 3) := by decide +kernel
theorem dL_act_35 : decode cL_act 35 = .ok (.iload_n 1, 1) := by decide +kernel
theorem dL_act_36 : decode cL_act 36 = .ok (.iconst 4, 1) := by decide +kernel
theorem dL_act_37 : decode cL_act 37 = .ok (.ishr, 1) := by decide +kernel
theorem dL_act_38 : decode cL_act 38 = .ok (.aload_n 0, 1) := by decide +kernel
theorem dL_act_39 : decode cL_act 39 = .ok (.iconst 3, 1) := by decide +kernel
theorem dL_act_40 : decode cL_act 40 = .ok (.invokevirtual 12, 3) := by decide +kernel
theorem dL_act_43 : decode cL_act 43 = .ok (.iconst 1, 1) := by decide +kernel
theorem dL_act_44 : decode cL_act 44 = .ok (.iadd, 1) := by decide +kernel
theorem dL_act_45 : decode cL_act 45 = .ok (.invokestatic 31, 3) := by decide +kernel
theorem dL_act_48 : decode cL_act 48 = .ok (.istore 4, 2) := by decide +kernel
theorem dL_act_50 : decode cL_act 50 = .ok (.iload_n 1, 1) := by decide +kernel
theorem dL_act_51 : decode cL_act 51 = .ok (.bipush 15, 2) := by decide +kernel
theorem dL_act_53 : decode cL_act 53 = .ok (.iand, 1) := by decide +kernel
theorem dL_act_54 : decode cL_act 54 = .ok (.tableswitch 265 0 11 #[62, 112, 154, 154, 154, 171, 171, 178, 178, 185, 190, 208], 62) := by decide +kernel
theorem dL_act_116 : decode cL_act 116 = .ok (.iload_n 2, 1) := by decide +kernel
theorem dL_act_117 : decode cL_act 117 = .ok (.iconst 1, 1) := by decide +kernel
theorem dL_act_118 : decode cL_act 118 = .ok (.iand, 1) := by decide +kernel
theorem dL_act_119 : decode cL_act 119 = .ok (.ifCond .ne 26, 3) := by decide +kernel
theorem dL_act_122 : decode cL_act 122 = .ok (.aload_n 0, 1) := by decide +kernel
theorem dL_act_123 : decode cL_act 123 = .ok (.iload_n 1, 1) := by decide +kernel
theorem dL_act_124 : decode cL_act 124 = .ok (.iconst 4, 1) := by decide +kernel
theorem dL_act_125 : decode cL_act 125 = .ok (.ishr, 1) := by decide +kernel
theorem dL_act_126 : decode cL_act 126 = .ok (.bipush 21, 2) := by decide +kernel
theorem dL_act_128 : decode cL_act 128 = .ok (.invokestatic 31, 3) := by decide +kernel
theorem dL_act_131 : decode cL_act 131 = .ok (.iload_n 2, 1) := by decide +kernel
theorem dL_act_132 : decode cL_act 132 = .ok (.iconst 1, 1) := by decide +kernel
theorem dL_act_133 : decode cL_act 133 = .ok (.ishr, 1) := by decide +kernel
theorem dL_act_134 : decode cL_act 134 = .ok (.bipush 10, 2) := by decide +kernel
theorem dL_act_136 : decode cL_act 136 = .ok (.invokestatic 31, 3) := by decide +kernel
theorem dL_act_139 : decode cL_act 139 = .ok (.invokevirtual 36, 3) := by decide +kernel
theorem dL_act_142 : decode cL_act 142 = .ok (.goto 23, 3) := by decide +kernel
theorem dL_act_145 : decode cL_act 145 = .ok (.aload_n 0, 1) := by decide +kernel
theorem dL_act_146 : decode cL_act 146 = .ok (.iload_n 1, 1) := by decide +kernel
theorem dL_act_147 : decode cL_act 147 = .ok (.iconst 4, 1) := by decide +kernel
theorem dL_act_148 : decode cL_act 148 = .ok (.ishr, 1) := by decide +kernel
theorem dL_act_149 : decode cL_act 149 = .ok (.bipush 21, 2) := by decide +kernel
theorem dL_act_151 : decode cL_act 151 = .ok (.invokestatic 31, 3) := by decide +kernel
theorem dL_act_154 : decode cL_act 154 = .ok (.iload_n 2, 1) := by decide +kernel
theorem dL_act_155 : decode cL_act 155 = .ok (.iconst 1, 1) := by decide +kernel
theorem dL_act_156 : decode cL_act 156 = .ok (.ishr, 1) := by decide +kernel
theorem dL_act_157 : decode cL_act 157 = .ok (.bipush 10, 2) := by decide +kernel
theorem dL_act_159 : decode cL_act 159 = .ok (.invokestatic 31, 3) := by decide +kernel
theorem dL_act_162 : decode cL_act 162 = .ok (.invokevirtual 39, 3) := by decide +kernel
theorem dL_act_165 : decode cL_act 165 = .ok (.ireturn, 1) := by decide +kernel
theorem dL_act_166 : decode cL_act 166 = .ok (.iload_n 2, 1) := by decide +kernel
theorem dL_act_167 : decode cL_act 167 = .ok (.iconst 1, 1) := by decide +kernel
theorem dL_act_168 : decode cL_act 168 = .ok (.iand, 1) := by decide +kernel
theorem dL_act_169 : decode cL_act 169 = .ok (.ifCond .ne 19, 3) := by decide +kernel
theorem dL_act_172 : decode cL_act 172 = .ok (.aload_n 0, 1) := by decide +kernel
theorem dL_act_173 : decode cL_act 173 = .ok (.iload_n 3, 1) := by decide +kernel
theorem dL_act_174 : decode cL_act 174 = .ok (.iload_n 2, 1) := by decide +kernel
theorem dL_act_175 : decode cL_act 175 = .ok (.iconst 1, 1) := by decide +kernel
theorem dL_act_176 : decode cL_act 176 = .ok (.ishr, 1) := by decide +kernel
theorem dL_act_177 : decode cL_act 177 = .ok (.bipush 22, 2) := by decide +kernel
theorem dL_act_179 : decode cL_act 179 = .ok (.invokestatic 31, 3) := by decide +kernel
theorem dL_act_182 : decode cL_act 182 = .ok (.invokevirtual 42, 3) := by decide +kernel
theorem dL_act_185 : decode cL_act 185 = .ok (.goto 22, 3) := by decide +kernel
theorem dL_act_188 : decode cL_act 188 = .ok (.aload_n 0, 1) := by decide +kernel
theorem dL_act_189 : decode cL_act 189 = .ok (.iload_n 2, 1) := by decide +kernel
theorem dL_act_190 : decode cL_act 190 = .ok (.iconst 1, 1) := by decide +kernel
theorem dL_act_191 : decode cL_act 191 = .ok (.ishr, 1) := by decide +kernel
theorem dL_act_192 : decode cL_act 192 = .ok (.iconst 3, 1) := by decide +kernel
theorem dL_act_193 : decode cL_act 193 = .ok (.invokestatic 31, 3) := by decide +kernel
theorem dL_act_196 : decode cL_act 196 = .ok (.iload_n 2, 1) := by decide +kernel
theorem dL_act_197 : decode cL_act 197 = .ok (.iconst 3, 1) := by decide +kernel
theorem dL_act_198 : decode cL_act 198 = .ok (.ishr, 1) := by decide +kernel
theorem dL_act_199 : decode cL_act 199 = .ok (.bipush 8, 2) := by decide +kernel
theorem dL_act_201 : decode cL_act 201 = .ok (.invokestatic 31, 3) := by decide +kernel
theorem dL_act_204 : decode cL_act 204 = .ok (.invokevirtual 45, 3) := by decide +kernel
theorem dL_act_207 : decode cL_act 207 = .ok (.ireturn, 1) := by decide +kernel
theorem dL_act_208 : decode cL_act 208 = .ok (.aload_n 0, 1) := by decide +kernel
theorem dL_act_209 : decode cL_act 209 = .ok (.iload_n 3, 1) := by decide +kernel
theorem dL_act_210 : decode cL_act 210 = .ok (.iconst 2, 1) := by decide +kernel
theorem dL_act_211 : decode cL_act 211 = .ok (.iload_n 3, 1) := by decide +kernel
theorem dL_act_212 : decode cL_act 212 = .ok (.imul, 1) := by decide +kernel
theorem dL_act_213 : decode cL_act 213 = .ok (.iload_n 2, 1) := by decide +kernel
theorem dL_act_214 : decode cL_act 214 = .ok (.iconst 4, 1) := by decide +kernel
theorem dL_act_215 : decode cL_act 215 = .ok (.invokestatic 31, 3) := by decide +kernel
theorem dL_act_218 : decode cL_act 218 = .ok (.iadd, 1) := by decide +kernel
theorem dL_act_219 : decode cL_act 219 = .ok (.iconst 1, 1) := by decide +kernel
theorem dL_act_220 : decode cL_act 220 = .ok (.isub, 1) := by decide +kernel
theorem dL_act_221 : decode cL_act 221 = .ok (.invokevirtual 48, 3) := by decide +kernel
theorem dL_act_224 : decode cL_act 224 = .ok (.ireturn, 1) := by decide +kernel
theorem dL_act_225 : decode cL_act 225 = .ok (.aload_n 0, 1) := by decide +kernel
theorem dL_act_226 : decode cL_act 226 = .ok (.iload 4, 2) := by decide +kernel
theorem dL_act_228 : decode cL_act 228 = .ok (.invokevirtual 51, 3) := by decide +kernel
theorem dL_act_231 : decode cL_act 231 = .ok (.ireturn, 1) := by decide +kernel
theorem dL_act_232 : decode cL_act 232 = .ok (.aload_n 0, 1) := by decide +kernel
theorem dL_act_233 : decode cL_act 233 = .ok (.iload 4, 2) := by decide +kernel
theorem dL_act_235 : decode cL_act 235 = .ok (.invokevirtual 54, 3) := by decide +kernel
theorem dL_act_238 : decode cL_act 238 = .ok (.ireturn, 1) := by decide +kernel
theorem dL_act_239 : decode cL_act 239 = .ok (.aload_n 0, 1) := by decide +kernel
theorem dL_act_240 : decode cL_act 240 = .ok (.invokevirtual 57, 3) := by decide +kernel
theorem dL_act_243 : decode cL_act 243 = .ok (.ireturn, 1) := by decide +kernel
theorem dL_act_244 : decode cL_act 244 = .ok (.iload_n 2, 1) := by decide +kernel
theorem dL_act_245 : decode cL_act 245 = .ok (.iconst 3, 1) := by decide +kernel
theorem dL_act_246 : decode cL_act 246 = .ok (.iand, 1) := by decide +kernel
theorem dL_act_247 : decode cL_act 247 = .ok (.ifCond .ne 10, 3) := by decide +kernel
theorem dL_act_250 : decode cL_act 250 = .ok (.aload_n 0, 1) := by decide +kernel
theorem dL_act_251 : decode cL_act 251 = .ok (.invokevirtual 61, 3) := by decide +kernel
theorem dL_act_254 : decode cL_act 254 = .ok (.goto 7, 3) := by decide +kernel
theorem dL_act_257 : decode cL_act 257 = .ok (.aload_n 0, 1) := by decide +kernel
theorem dL_act_258 : decode cL_act 258 = .ok (.invokevirtual 64, 3) := by decide +kernel
theorem dL_act_261 : decode cL_act 261 = .ok (.ireturn, 1) := by decide +kernel
theorem dL_act_262 : decode cL_act 262 = .ok (.aload_n 0, 1) := by decide +kernel
theorem dL_act_263 : decode cL_act 263 = .ok (.invokevirtual 67, 3) := by decide +kernel
theorem dL_act_266 : decode cL_act 266 = .ok (.pop, 1) := by decide +kernel
theorem dL_act_267 : decode cL_act 267 = .ok (.aload_n 0, 1) := by decide +kernel
theorem dL_act_268 : decode cL_act 268 = .ok (.iload_n 2, 1) := by decide +kernel
theorem dL_act_269 : decode cL_act 269 = .ok (.iconst 3, 1) := by decide +kernel
theorem dL_act_270 : decode cL_act 270 = .ok (.iand, 1) := by decide +kernel
theorem dL_act_271 : decode cL_act 271 = .ok (.ifCond .ne 8, 3) := by decide +kernel
theorem dL_act_274 : decode cL_act 274 = .ok (.bipush 114, 2) := by decide +kernel
theorem dL_act_276 : decode cL_act 276 = .ok (.goto 17, 3) := by decide +kernel
theorem dL_act_279 : decode cL_act 279 = .ok (.iload_n 2, 1) := by decide +kernel
theorem dL_act_280 : decode cL_act 280 = .ok (.iconst 3, 1) := by decide +kernel
theorem dL_act_281 : decode cL_act 281 = .ok (.iand, 1) := by decide +kernel
theorem dL_act_282 : decode cL_act 282 = .ok (.iconst 1, 1) := by decide +kernel
theorem dL_act_283 : decode cL_act 283 = .ok (.if_icmp .ne 8, 3) := by decide +kernel
theorem dL_act_286 : decode cL_act 286 = .ok (.bipush 99, 2) := by decide +kernel
theorem dL_act_288 : decode cL_act 288 = .ok (.goto 5, 3) := by decide +kernel
theorem dL_act_291 : decode cL_act 291 = .ok (.bipush 115, 2) := by decide +kernel
theorem dL_act_293 : decode cL_act 293 = .ok (.invokevirtual 70, 3) := by decide +kernel
theorem dL_act_296 : decode cL_act 296 = .ok (.pop, 1) := by decide +kernel
theorem dL_act_297 : decode cL_act 297 = .ok (.aload_n 0, 1) := by decide +kernel
theorem dL_act_298 : decode cL_act 298 = .ok (.bipush 50, 2) := by decide +kernel
theorem dL_act_300 : decode cL_act 300 = .ok (.iload_n 2, 1) := by decide +kernel
theorem dL_act_301 : decode cL_act 301 = .ok (.iconst 2, 1) := by decide +kernel
theorem dL_act_302 : decode cL_act 302 = .ok (.ishr, 1) := by decide +kernel
theorem dL_act_303 : decode cL_act 303 = .ok (.bipush 8, 2) := by decide +kernel
theorem dL_act_305 : decode cL_act 305 = .ok (.invokestatic 31, 3) := by decide +kernel
theorem dL_act_308 : decode cL_act 308 = .ok (.iadd, 1) := by decide +kernel
theorem dL_act_309 : decode cL_act 309 = .ok (.i2c, 1) := by decide +kernel
theorem dL_act_310 : decode cL_act 310 = .ok (.invokevirtual 70, 3) := by decide +kernel
theorem dL_act_313 : decode cL_act 313 = .ok (.pop, 1) := by decide +kernel
theorem dL_act_314 : decode cL_act 314 = .ok (.aload_n 0, 1) := by decide +kernel
theorem dL_act_315 : decode cL_act 315 = .ok (.invokevirtual 74, 3) := by decide +kernel
theorem dL_act_318 : decode cL_act 318 = .ok (.ireturn, 1) := by decide +kernel
theorem dL_act_319 : decode cL_act 319 = .ok (.aload_n 0, 1) := by decide +kernel
theorem dL_act_320 : decode cL_act 320 = .ok (.iload_n 2, 1) := by decide +kernel
theorem dL_act_321 : decode cL_act 321 = .ok (.iconst 4, 1) := by decide +kernel
theorem dL_act_322 : decode cL_act 322 = .ok (.invokestatic 31, 3) := by decide +kernel
theorem dL_act_325 : decode cL_act 325 = .ok (.invokevirtual 77, 3) := by decide +kernel
theorem dL_act_328 : decode cL_act 328 = .ok (.ireturn, 1) := by decide +kernel
theorem dL_holds_0 : decode cL_holds 0 = .ok (.iconst 0, 1) := by decide +kernel
theorem dL_holds_1 : decode cL_holds 1 = .ok (.istore_n 1, 1) := by decide +kernel
theorem dL_holds_2 : decode cL_holds 2 = .ok (.iconst 0, 1) := by decide +kernel
theorem dL_holds_3 : decode cL_holds 3 = .ok (.istore_n 2, 1) := by decide +kernel
theorem dL_holds_4 : decode cL_holds 4 = .ok (.iconst 0, 1) := by decide +kernel
theorem dL_holds_5 : decode cL_holds 5 = .ok (.istore_n 3, 1) := by decide +kernel
theorem dL_holds_6 : decode cL_holds 6 = .ok (.iconst 0, 1) := by decide +kernel
theorem dL_holds_7 : decode cL_holds 7 = .ok (.istore 4, 2) := by decide +kernel
theorem dL_holds_9 : decode cL_holds 9 = .ok (.iload 4, 2) := by decide +kernel
theorem dL_holds_11 : decode cL_holds 11 = .ok (.aload_n 0, 1) := by decide +kernel
theorem dL_holds_12 : decode cL_holds 12 = .ok (.iconst 3, 1) := by decide +kernel
theorem dL_holds_13 : decode cL_holds 13 = .ok (.invokevirtual 12, 3) := by decide +kernel
theorem dL_holds_16 : decode cL_holds 16 = .ok (.if_icmp .ge 110, 3) := by decide +kernel
theorem dL_holds_19 : decode cL_holds 19 = .ok (.aload_n 0, 1) := by decide +kernel
theorem dL_holds_20 : decode cL_holds 20 = .ok (.iload 4, 2) := by decide +kernel
theorem dL_holds_22 : decode cL_holds 22 = .ok (.iconst 2, 1) := by decide +kernel
theorem dL_holds_23 : decode cL_holds 23 = .ok (.invokevirtual 25, 3) := by decide +kernel
theorem dL_holds_26 : decode cL_holds 26 = .ok (.istore 5, 2) := by decide +kernel
theorem dL_holds_28 : decode cL_holds 28 = .ok (.iload 5, 2) := by decide +kernel
theorem dL_holds_30 : decode cL_holds 30 = .ok (.iconst (-1), 1) := by decide +kernel
theorem dL_holds_31 : decode cL_holds 31 = .ok (.if_icmp .eq 89, 3) := by decide +kernel
theorem dL_holds_34 : decode cL_holds 34 = .ok (.iinc 1 1, 3) := by decide +kernel
theorem dL_holds_37 : decode cL_holds 37 = .ok (.iload_n 2, 1) := by decide +kernel
theorem dL_holds_38 : decode cL_holds 38 = .ok (.aload_n 0, 1) := by decide +kernel
theorem dL_holds_39 : decode cL_holds 39 = .ok (.iload 4, 2) := by decide +kernel
theorem dL_holds_41 : decode cL_holds 41 = .ok (.iconst 4, 1) := by decide +kernel
theorem dL_holds_42 : decode cL_holds 42 = .ok (.invokevirtual 25, 3) := by decide +kernel
theorem dL_holds_45 : decode cL_holds 45 = .ok (.iadd, 1) := by decide +kernel
theorem dL_holds_46 : decode cL_holds 46 = .ok (.istore_n 2, 1) := by decide +kernel
theorem dL_holds_47 : decode cL_holds 47 = .ok (.iload_n 3, 1) := by decide +kernel
theorem dL_holds_48 : decode cL_holds 48 = .ok (.aload_n 0, 1) := by decide +kernel
theorem dL_holds_49 : decode cL_holds 49 = .ok (.iload 4, 2) := by decide +kernel
theorem dL_holds_51 : decode cL_holds 51 = .ok (.iconst 5, 1) := by decide +kernel
theorem dL_holds_52 : decode cL_holds 52 = .ok (.invokevirtual 25, 3) := by decide +kernel
theorem dL_holds_55 : decode cL_holds 55 = .ok (.iadd, 1) := by decide +kernel
theorem dL_holds_56 : decode cL_holds 56 = .ok (.istore_n 3, 1) := by decide +kernel
theorem dL_holds_57 : decode cL_holds 57 = .ok (.iload 5, 2) := by decide +kernel
theorem dL_holds_59 : decode cL_holds 59 = .ok (.ifCond .lt 59, 3) := by decide +kernel
theorem dL_holds_62 : decode cL_holds 62 = .ok (.iload 5, 2) := by decide +kernel
theorem dL_holds_64 : decode cL_holds 64 = .ok (.bipush 60, 2) := by decide +kernel
theorem dL_holds_66 : decode cL_holds 66 = .ok (.if_icmp .gt 52, 3) := by decide +kernel
theorem dL_holds_69 : decode cL_holds 69 = .ok (.aload_n 0, 1) := by decide +kernel
theorem dL_holds_70 : decode cL_holds 70 = .ok (.iload 4, 2) := by decide +kernel
theorem dL_holds_72 : decode cL_holds 72 = .ok (.iconst 4, 1) := by decide +kernel
theorem dL_holds_73 : decode cL_holds 73 = .ok (.invokevirtual 25, 3) := by decide +kernel
theorem dL_holds_76 : decode cL_holds 76 = .ok (.iconst 1, 1) := by decide +kernel
theorem dL_holds_77 : decode cL_holds 77 = .ok (.if_icmp .ne 10, 3) := by decide +kernel
theorem dL_holds_80 : decode cL_holds 80 = .ok (.iload 5, 2) := by decide +kernel
theorem dL_holds_82 : decode cL_holds 82 = .ok (.bipush 20, 2) := by decide +kernel
theorem dL_holds_84 : decode cL_holds 84 = .ok (.if_icmp .gt 34, 3) := by decide +kernel
theorem dL_holds_87 : decode cL_holds 87 = .ok (.aload_n 0, 1) := by decide +kernel
theorem dL_holds_88 : decode cL_holds 88 = .ok (.iload 4, 2) := by decide +kernel
theorem dL_holds_90 : decode cL_holds 90 = .ok (.iconst 5, 1) := by decide +kernel
theorem dL_holds_91 : decode cL_holds 91 = .ok (.invokevirtual 25, 3) := by decide +kernel
theorem dL_holds_94 : decode cL_holds 94 = .ok (.iconst 1, 1) := by decide +kernel
theorem dL_holds_95 : decode cL_holds 95 = .ok (.if_icmp .ne 7, 3) := by decide +kernel
theorem dL_holds_98 : decode cL_holds 98 = .ok (.iconst 1, 1) := by decide +kernel
theorem dL_holds_99 : decode cL_holds 99 = .ok (.goto 4, 3) := by decide +kernel
theorem dL_holds_102 : decode cL_holds 102 = .ok (.iconst 0, 1) := by decide +kernel
theorem dL_holds_103 : decode cL_holds 103 = .ok (.iload 5, 2) := by decide +kernel
theorem dL_holds_105 : decode cL_holds 105 = .ok (.bipush 20, 2) := by decide +kernel
theorem dL_holds_107 : decode cL_holds 107 = .ok (.if_icmp .gt 7, 3) := by decide +kernel
theorem dL_holds_110 : decode cL_holds 110 = .ok (.iconst 1, 1) := by decide +kernel
theorem dL_holds_111 : decode cL_holds 111 = .ok (.goto 4, 3) := by decide +kernel
theorem dL_holds_114 : decode cL_holds 114 = .ok (.iconst 0, 1) := by decide +kernel
theorem dL_holds_115 : decode cL_holds 115 = .ok (.if_icmp .eq 5, 3) := by decide +kernel
theorem dL_holds_118 : decode cL_holds 118 = .ok (.iconst 0, 1) := by decide +kernel
theorem dL_holds_119 : decode cL_holds 119 = .ok (.ireturn, 1) := by decide +kernel
theorem dL_holds_120 : decode cL_holds 120 = .ok (.iinc 4 1, 3) := by decide +kernel
theorem dL_holds_123 : decode cL_holds 123 = .ok (.goto (-114), 3) := by decide +kernel
theorem dL_holds_126 : decode cL_holds 126 = .ok (.iconst 0, 1) := by decide +kernel
theorem dL_holds_127 : decode cL_holds 127 = .ok (.istore 4, 2) := by decide +kernel
theorem dL_holds_129 : decode cL_holds 129 = .ok (.iconst 0, 1) := by decide +kernel
theorem dL_holds_130 : decode cL_holds 130 = .ok (.istore 5, 2) := by decide +kernel
theorem dL_holds_132 : decode cL_holds 132 = .ok (.iconst 0, 1) := by decide +kernel
theorem dL_holds_133 : decode cL_holds 133 = .ok (.istore 6, 2) := by decide +kernel
theorem dL_holds_135 : decode cL_holds 135 = .ok (.iconst 0, 1) := by decide +kernel
theorem dL_holds_136 : decode cL_holds 136 = .ok (.istore 7, 2) := by decide +kernel
theorem dL_holds_138 : decode cL_holds 138 = .ok (.iconst 0, 1) := by decide +kernel
theorem dL_holds_139 : decode cL_holds 139 = .ok (.istore 8, 2) := by decide +kernel
theorem dL_holds_141 : decode cL_holds 141 = .ok (.iload 8, 2) := by decide +kernel
theorem dL_holds_143 : decode cL_holds 143 = .ok (.bipush 10, 2) := by decide +kernel
theorem dL_holds_145 : decode cL_holds 145 = .ok (.if_icmp .ge 99, 3) := by decide +kernel
theorem dL_holds_148 : decode cL_holds 148 = .ok (.iload 4, 2) := by decide +kernel
theorem dL_holds_150 : decode cL_holds 150 = .ok (.aload_n 0, 1) := by decide +kernel
theorem dL_holds_151 : decode cL_holds 151 = .ok (.iload 8, 2) := by decide +kernel
theorem dL_holds_153 : decode cL_holds 153 = .ok (.iconst 3, 1) := by decide +kernel
theorem dL_holds_154 : decode cL_holds 154 = .ok (.invokevirtual 18, 3) := by decide +kernel
theorem dL_holds_157 : decode cL_holds 157 = .ok (.iadd, 1) := by decide +kernel
theorem dL_holds_158 : decode cL_holds 158 = .ok (.istore 4, 2) := by decide +kernel
theorem dL_holds_160 : decode cL_holds 160 = .ok (.iload 6, 2) := by decide +kernel
theorem dL_holds_162 : decode cL_holds 162 = .ok (.aload_n 0, 1) := by decide +kernel
theorem dL_holds_163 : decode cL_holds 163 = .ok (.iload 8, 2) := by decide +kernel
theorem dL_holds_165 : decode cL_holds 165 = .ok (.iconst 5, 1) := by decide +kernel
theorem dL_holds_166 : decode cL_holds 166 = .ok (.invokevirtual 18, 3) := by decide +kernel
theorem dL_holds_169 : decode cL_holds 169 = .ok (.iadd, 1) := by decide +kernel
theorem dL_holds_170 : decode cL_holds 170 = .ok (.istore 6, 2) := by decide +kernel
theorem dL_holds_172 : decode cL_holds 172 = .ok (.iload 5, 2) := by decide +kernel
theorem dL_holds_174 : decode cL_holds 174 = .ok (.aload_n 0, 1) := by decide +kernel
theorem dL_holds_175 : decode cL_holds 175 = .ok (.iload 8, 2) := by decide +kernel
theorem dL_holds_177 : decode cL_holds 177 = .ok (.bipush 6, 2) := by decide +kernel
theorem dL_holds_179 : decode cL_holds 179 = .ok (.invokevirtual 18, 3) := by decide +kernel
theorem dL_holds_182 : decode cL_holds 182 = .ok (.iadd, 1) := by decide +kernel
theorem dL_holds_183 : decode cL_holds 183 = .ok (.istore 5, 2) := by decide +kernel
theorem dL_holds_185 : decode cL_holds 185 = .ok (.iload 7, 2) := by decide +kernel
theorem dL_holds_187 : decode cL_holds 187 = .ok (.aload_n 0, 1) := by decide +kernel
theorem dL_holds_188 : decode cL_holds 188 = .ok (.iload 8, 2) := by decide +kernel
theorem dL_holds_190 : decode cL_holds 190 = .ok (.iconst 2, 1) := by decide +kernel
theorem dL_holds_191 : decode cL_holds 191 = .ok (.invokevirtual 18, 3) := by decide +kernel
theorem dL_holds_194 : decode cL_holds 194 = .ok (.iadd, 1) := by decide +kernel
theorem dL_holds_195 : decode cL_holds 195 = .ok (.istore 7, 2) := by decide +kernel
theorem dL_holds_197 : decode cL_holds 197 = .ok (.aload_n 0, 1) := by decide +kernel
theorem dL_holds_198 : decode cL_holds 198 = .ok (.iload 8, 2) := by decide +kernel
theorem dL_holds_200 : decode cL_holds 200 = .ok (.iconst 2, 1) := by decide +kernel
theorem dL_holds_201 : decode cL_holds 201 = .ok (.invokevirtual 18, 3) := by decide +kernel
theorem dL_holds_204 : decode cL_holds 204 = .ok (.ifCond .lt 32, 3) := by decide +kernel
theorem dL_holds_207 : decode cL_holds 207 = .ok (.aload_n 0, 1) := by decide +kernel
theorem dL_holds_208 : decode cL_holds 208 = .ok (.iload 8, 2) := by decide +kernel
theorem dL_holds_210 : decode cL_holds 210 = .ok (.iconst 1, 1) := by decide +kernel
theorem dL_holds_211 : decode cL_holds 211 = .ok (.invokevirtual 18, 3) := by decide +kernel
theorem dL_holds_214 : decode cL_holds 214 = .ok (.bipush 20, 2) := by decide +kernel
theorem dL_holds_216 : decode cL_holds 216 = .ok (.if_icmp .gt 20, 3) := by decide +kernel
theorem dL_holds_219 : decode cL_holds 219 = .ok (.aload_n 0, 1) := by decide +kernel
theorem dL_holds_220 : decode cL_holds 220 = .ok (.iload 8, 2) := by decide +kernel
theorem dL_holds_222 : decode cL_holds 222 = .ok (.iconst 4, 1) := by decide +kernel
theorem dL_holds_223 : decode cL_holds 223 = .ok (.invokevirtual 18, 3) := by decide +kernel
theorem dL_holds_226 : decode cL_holds 226 = .ok (.aload_n 0, 1) := by decide +kernel
theorem dL_holds_227 : decode cL_holds 227 = .ok (.iload 8, 2) := by decide +kernel
theorem dL_holds_229 : decode cL_holds 229 = .ok (.iconst 3, 1) := by decide +kernel
theorem dL_holds_230 : decode cL_holds 230 = .ok (.invokevirtual 18, 3) := by decide +kernel
theorem dL_holds_233 : decode cL_holds 233 = .ok (.if_icmp .le 5, 3) := by decide +kernel
theorem dL_holds_236 : decode cL_holds 236 = .ok (.iconst 0, 1) := by decide +kernel
theorem dL_holds_237 : decode cL_holds 237 = .ok (.ireturn, 1) := by decide +kernel
theorem dL_holds_238 : decode cL_holds 238 = .ok (.iinc 8 1, 3) := by decide +kernel
theorem dL_holds_241 : decode cL_holds 241 = .ok (.goto (-100), 3) := by decide +kernel
theorem dL_holds_244 : decode cL_holds 244 = .ok (.iconst 0, 1) := by decide +kernel
theorem dL_holds_245 : decode cL_holds 245 = .ok (.istore 8, 2) := by decide +kernel
theorem dL_holds_247 : decode cL_holds 247 = .ok (.iload 8, 2) := by decide +kernel
theorem dL_holds_249 : decode cL_holds 249 = .ok (.bipush 20, 2) := by decide +kernel
theorem dL_holds_251 : decode cL_holds 251 = .ok (.if_icmp .ge 97, 3) := by decide +kernel
theorem dL_holds_254 : decode cL_holds 254 = .ok (.aload_n 0, 1) := by decide +kernel
theorem dL_holds_255 : decode cL_holds 255 = .ok (.iload 8, 2) := by decide +kernel
theorem dL_holds_257 : decode cL_holds 257 = .ok (.bipush 10, 2) := by decide +kernel
theorem dL_holds_259 : decode cL_holds 259 = .ok (.irem, 1) := by decide +kernel
theorem dL_holds_260 : decode cL_holds 260 = .ok (.iload 8, 2) := by decide +kernel
theorem dL_holds_262 : decode cL_holds 262 = .ok (.invokevirtual 80, 3) := by decide +kernel
theorem dL_holds_265 : decode cL_holds 265 = .ok (.istore 9, 2) := by decide +kernel
theorem dL_holds_267 : decode cL_holds 267 = .ok (.aload_n 0, 1) := by decide +kernel
theorem dL_holds_268 : decode cL_holds 268 = .ok (.iload 8, 2) := by decide +kernel
theorem dL_holds_270 : decode cL_holds 270 = .ok (.iconst 0, 1) := by decide +kernel
theorem dL_holds_271 : decode cL_holds 271 = .ok (.invokevirtual 22, 3) := by decide +kernel
theorem dL_holds_274 : decode cL_holds 274 = .ok (.ifCond .lt 66, 3) := by decide +kernel
theorem dL_holds_277 : decode cL_holds 277 = .ok (.aload_n 0, 1) := by decide +kernel
theorem dL_holds_278 : decode cL_holds 278 = .ok (.iload 8, 2) := by decide +kernel
theorem dL_holds_280 : decode cL_holds 280 = .ok (.iconst 0, 1) := by decide +kernel
theorem dL_holds_281 : decode cL_holds 281 = .ok (.invokevirtual 22, 3) := by decide +kernel
theorem dL_holds_284 : decode cL_holds 284 = .ok (.bipush 6, 2) := by decide +kernel
theorem dL_holds_286 : decode cL_holds 286 = .ok (.if_icmp .gt 54, 3) := by decide +kernel
theorem dL_holds_289 : decode cL_holds 289 = .ok (.iload 9, 2) := by decide +kernel
theorem dL_holds_291 : decode cL_holds 291 = .ok (.ifCond .lt 49, 3) := by decide +kernel
theorem dL_holds_294 : decode cL_holds 294 = .ok (.iload 9, 2) := by decide +kernel
theorem dL_holds_296 : decode cL_holds 296 = .ok (.iconst 4, 1) := by decide +kernel
theorem dL_holds_297 : decode cL_holds 297 = .ok (.if_icmp .gt 43, 3) := by decide +kernel
theorem dL_holds_300 : decode cL_holds 300 = .ok (.aload_n 0, 1) := by decide +kernel
theorem dL_holds_301 : decode cL_holds 301 = .ok (.iload 8, 2) := by decide +kernel
theorem dL_holds_303 : decode cL_holds 303 = .ok (.iconst 3, 1) := by decide +kernel
theorem dL_holds_304 : decode cL_holds 304 = .ok (.invokevirtual 22, 3) := by decide +kernel
theorem dL_holds_307 : decode cL_holds 307 = .ok (.ifCond .ne 7, 3) := by decide +kernel
theorem dL_holds_310 : decode cL_holds 310 = .ok (.iconst 1, 1) := by decide +kernel
theorem dL_holds_311 : decode cL_holds 311 = .ok (.goto 4, 3) := by decide +kernel
theorem dL_holds_314 : decode cL_holds 314 = .ok (.iconst 0, 1) := by decide +kernel
theorem dL_holds_315 : decode cL_holds 315 = .ok (.aload_n 0, 1) := by decide +kernel
theorem dL_holds_316 : decode cL_holds 316 = .ok (.iload 8, 2) := by decide +kernel
theorem dL_holds_318 : decode cL_holds 318 = .ok (.iconst 1, 1) := by decide +kernel
theorem dL_holds_319 : decode cL_holds 319 = .ok (.invokevirtual 22, 3) := by decide +kernel
theorem dL_holds_322 : decode cL_holds 322 = .ok (.aload_n 0, 1) := by decide +kernel
theorem dL_holds_323 : decode cL_holds 323 = .ok (.iload 8, 2) := by decide +kernel
theorem dL_holds_325 : decode cL_holds 325 = .ok (.iconst 2, 1) := by decide +kernel
theorem dL_holds_326 : decode cL_holds 326 = .ok (.invokevirtual 22, 3) := by decide +kernel
theorem dL_holds_329 : decode cL_holds 329 = .ok (.if_icmp .ne 7, 3) := by decide +kernel
theorem dL_holds_332 : decode cL_holds 332 = .ok (.iconst 1, 1) := by decide +kernel
theorem dL_holds_333 : decode cL_holds 333 = .ok (.goto 4, 3) := by decide +kernel
theorem dL_holds_336 : decode cL_holds 336 = .ok (.iconst 0, 1) := by decide +kernel
theorem dL_holds_337 : decode cL_holds 337 = .ok (.if_icmp .eq 5, 3) := by decide +kernel
theorem dL_holds_340 : decode cL_holds 340 = .ok (.iconst 0, 1) := by decide +kernel
theorem dL_holds_341 : decode cL_holds 341 = .ok (.ireturn, 1) := by decide +kernel
theorem dL_holds_342 : decode cL_holds 342 = .ok (.iinc 8 1, 3) := by decide +kernel
theorem dL_holds_345 : decode cL_holds 345 = .ok (.goto (-98), 3) := by decide +kernel
theorem dL_holds_348 : decode cL_holds 348 = .ok (.aload_n 0, 1) := by decide +kernel
theorem dL_holds_349 : decode cL_holds 349 = .ok (.bipush 9, 2) := by decide +kernel
theorem dL_holds_351 : decode cL_holds 351 = .ok (.invokevirtual 12, 3) := by decide +kernel
theorem dL_holds_354 : decode cL_holds 354 = .ok (.istore 8, 2) := by decide +kernel
theorem dL_holds_356 : decode cL_holds 356 = .ok (.iconst 0, 1) := by decide +kernel
theorem dL_holds_357 : decode cL_holds 357 = .ok (.istore 9, 2) := by decide +kernel
theorem dL_holds_359 : decode cL_holds 359 = .ok (.iload 9, 2) := by decide +kernel
theorem dL_holds_361 : decode cL_holds 361 = .ok (.iload 8, 2) := by decide +kernel
theorem dL_holds_363 : decode cL_holds 363 = .ok (.if_icmp .ge 52, 3) := by decide +kernel
theorem dL_holds_366 : decode cL_holds 366 = .ok (.aload_n 0, 1) := by decide +kernel
theorem dL_holds_367 : decode cL_holds 367 = .ok (.iload 9, 2) := by decide +kernel
theorem dL_holds_369 : decode cL_holds 369 = .ok (.iconst 0, 1) := by decide +kernel
theorem dL_holds_370 : decode cL_holds 370 = .ok (.invokevirtual 83, 3) := by decide +kernel
theorem dL_holds_373 : decode cL_holds 373 = .ok (.aload_n 0, 1) := by decide +kernel
theorem dL_holds_374 : decode cL_holds 374 = .ok (.iload 9, 2) := by decide +kernel
theorem dL_holds_376 : decode cL_holds 376 = .ok (.iconst 1, 1) := by decide +kernel
theorem dL_holds_377 : decode cL_holds 377 = .ok (.invokevirtual 83, 3) := by decide +kernel
theorem dL_holds_380 : decode cL_holds 380 = .ok (.if_icmp .eq 27, 3) := by decide +kernel
theorem dL_holds_383 : decode cL_holds 383 = .ok (.iload 9, 2) := by decide +kernel
theorem dL_holds_385 : decode cL_holds 385 = .ok (.ifCond .le 24, 3) := by decide +kernel
theorem dL_holds_388 : decode cL_holds 388 = .ok (.aload_n 0, 1) := by decide +kernel
theorem dL_holds_389 : decode cL_holds 389 = .ok (.iload 9, 2) := by decide +kernel
theorem dL_holds_391 : decode cL_holds 391 = .ok (.iconst 2, 1) := by decide +kernel
theorem dL_holds_392 : decode cL_holds 392 = .ok (.invokevirtual 83, 3) := by decide +kernel
theorem dL_holds_395 : decode cL_holds 395 = .ok (.aload_n 0, 1) := by decide +kernel
theorem dL_holds_396 : decode cL_holds 396 = .ok (.iload 9, 2) := by decide +kernel
theorem dL_holds_398 : decode cL_holds 398 = .ok (.iconst 1, 1) := by decide +kernel
theorem dL_holds_399 : decode cL_holds 399 = .ok (.isub, 1) := by decide +kernel
theorem dL_holds_400 : decode cL_holds 400 = .ok (.iconst 2, 1) := by decide +kernel
theorem dL_holds_401 : decode cL_holds 401 = .ok (.invokevirtual 83, 3) := by decide +kernel
theorem dL_holds_404 : decode cL_holds 404 = .ok (.if_icmp .gt 5, 3) := by decide +kernel
theorem dL_holds_407 : decode cL_holds 407 = .ok (.iconst 0, 1) := by decide +kernel
theorem dL_holds_408 : decode cL_holds 408 = .ok (.ireturn, 1) := by decide +kernel
theorem dL_holds_409 : decode cL_holds 409 = .ok (.iinc 9 1, 3) := by decide +kernel
theorem dL_holds_412 : decode cL_holds 412 = .ok (.goto (-53), 3) := by decide +kernel
theorem dL_holds_415 : decode cL_holds 415 = .ok (.iload_n 1, 1) := by decide +kernel
theorem dL_holds_416 : decode cL_holds 416 = .ok (.aload_n 0, 1) := by decide +kernel
theorem dL_holds_417 : decode cL_holds 417 = .ok (.iconst 2, 1) := by decide +kernel
theorem dL_holds_418 : decode cL_holds 418 = .ok (.invokevirtual 12, 3) := by decide +kernel
theorem dL_holds_421 : decode cL_holds 421 = .ok (.if_icmp .ne 56, 3) := by decide +kernel
theorem dL_holds_424 : decode cL_holds 424 = .ok (.iload 4, 2) := by decide +kernel
theorem dL_holds_426 : decode cL_holds 426 = .ok (.iload_n 1, 1) := by decide +kernel
theorem dL_holds_427 : decode cL_holds 427 = .ok (.if_icmp .ne 50, 3) := by decide +kernel
theorem dL_holds_430 : decode cL_holds 430 = .ok (.iload_n 2, 1) := by decide +kernel
theorem dL_holds_431 : decode cL_holds 431 = .ok (.aload_n 0, 1) := by decide +kernel
theorem dL_holds_432 : decode cL_holds 432 = .ok (.iconst 4, 1) := by decide +kernel
theorem dL_holds_433 : decode cL_holds 433 = .ok (.invokevirtual 12, 3) := by decide +kernel
theorem dL_holds_436 : decode cL_holds 436 = .ok (.if_icmp .ne 41, 3) := by decide +kernel
theorem dL_holds_439 : decode cL_holds 439 = .ok (.iload_n 3, 1) := by decide +kernel
theorem dL_holds_440 : decode cL_holds 440 = .ok (.aload_n 0, 1) := by decide +kernel
theorem dL_holds_441 : decode cL_holds 441 = .ok (.iconst 5, 1) := by decide +kernel
theorem dL_holds_442 : decode cL_holds 442 = .ok (.invokevirtual 12, 3) := by decide +kernel
theorem dL_holds_445 : decode cL_holds 445 = .ok (.if_icmp .ne 32, 3) := by decide +kernel
theorem dL_holds_448 : decode cL_holds 448 = .ok (.iload 6, 2) := by decide +kernel
theorem dL_holds_450 : decode cL_holds 450 = .ok (.bipush 20, 2) := by decide +kernel
theorem dL_holds_452 : decode cL_holds 452 = .ok (.if_icmp .ne 25, 3) := by decide +kernel
theorem dL_holds_455 : decode cL_holds 455 = .ok (.iload 5, 2) := by decide +kernel
theorem dL_holds_457 : decode cL_holds 457 = .ok (.bipush 20, 2) := by decide +kernel
theorem dL_holds_459 : decode cL_holds 459 = .ok (.if_icmp .ne 18, 3) := by decide +kernel
theorem dL_holds_462 : decode cL_holds 462 = .ok (.iload 7, 2) := by decide +kernel
theorem dL_holds_464 : decode cL_holds 464 = .ok (.aload_n 0, 1) := by decide +kernel
theorem dL_holds_465 : decode cL_holds 465 = .ok (.bipush 7, 2) := by decide +kernel
theorem dL_holds_467 : decode cL_holds 467 = .ok (.invokevirtual 12, 3) := by decide +kernel
theorem dL_holds_470 : decode cL_holds 470 = .ok (.if_icmp .ne 7, 3) := by decide +kernel
theorem dL_holds_473 : decode cL_holds 473 = .ok (.iconst 1, 1) := by decide +kernel
theorem dL_holds_474 : decode cL_holds 474 = .ok (.goto 4, 3) := by decide +kernel
theorem dL_holds_477 : decode cL_holds 477 = .ok (.iconst 0, 1) := by decide +kernel
theorem dL_holds_478 : decode cL_holds 478 = .ok (.istore 9, 2) := by decide +kernel
theorem dL_holds_480 : decode cL_holds 480 = .ok (.iload 9, 2) := by decide +kernel
theorem dL_holds_482 : decode cL_holds 482 = .ok (.ifCond .eq 80, 3) := by decide +kernel
theorem dL_holds_485 : decode cL_holds 485 = .ok (.aload_n 0, 1) := by decide +kernel
theorem dL_holds_486 : decode cL_holds 486 = .ok (.bipush 8, 2) := by decide +kernel
theorem dL_holds_488 : decode cL_holds 488 = .ok (.invokevirtual 12, 3) := by decide +kernel
theorem dL_holds_491 : decode cL_holds 491 = .ok (.aload_n 0, 1) := by decide +kernel
theorem dL_holds_492 : decode cL_holds 492 = .ok (.iconst 3, 1) := by decide +kernel
theorem dL_holds_493 : decode cL_holds 493 = .ok (.invokevirtual 12, 3) := by decide +kernel
theorem dL_holds_496 : decode cL_holds 496 = .ok (.iadd, 1) := by decide +kernel
theorem dL_holds_497 : decode cL_holds 497 = .ok (.bipush 120, 2) := by decide +kernel
theorem dL_holds_499 : decode cL_holds 499 = .ok (.if_icmp .ne 63, 3) := by decide +kernel
theorem dL_holds_502 : decode cL_holds 502 = .ok (.aload_n 0, 1) := by decide +kernel
theorem dL_holds_503 : decode cL_holds 503 = .ok (.iconst 2, 1) := by decide +kernel
theorem dL_holds_504 : decode cL_holds 504 = .ok (.invokevirtual 12, 3) := by decide +kernel
theorem dL_holds_507 : decode cL_holds 507 = .ok (.aload_n 0, 1) := by decide +kernel
theorem dL_holds_508 : decode cL_holds 508 = .ok (.bipush 6, 2) := by decide +kernel
theorem dL_holds_510 : decode cL_holds 510 = .ok (.invokevirtual 12, 3) := by decide +kernel
theorem dL_holds_513 : decode cL_holds 513 = .ok (.iadd, 1) := by decide +kernel
theorem dL_holds_514 : decode cL_holds 514 = .ok (.aload_n 0, 1) := by decide +kernel
theorem dL_holds_515 : decode cL_holds 515 = .ok (.iconst 3, 1) := by decide +kernel
theorem dL_holds_516 : decode cL_holds 516 = .ok (.invokevirtual 12, 3) := by decide +kernel
theorem dL_holds_519 : decode cL_holds 519 = .ok (.if_icmp .gt 43, 3) := by decide +kernel
theorem dL_holds_522 : decode cL_holds 522 = .ok (.aload_n 0, 1) := by decide +kernel
theorem dL_holds_523 : decode cL_holds 523 = .ok (.bipush 10, 2) := by decide +kernel
theorem dL_holds_525 : decode cL_holds 525 = .ok (.invokevirtual 12, 3) := by decide +kernel
theorem dL_holds_528 : decode cL_holds 528 = .ok (.iload 8, 2) := by decide +kernel
theorem dL_holds_530 : decode cL_holds 530 = .ok (.if_icmp .lt 32, 3) := by decide +kernel
theorem dL_holds_533 : decode cL_holds 533 = .ok (.aload_n 0, 1) := by decide +kernel
theorem dL_holds_534 : decode cL_holds 534 = .ok (.iload 8, 2) := by decide +kernel
theorem dL_holds_536 : decode cL_holds 536 = .ok (.iconst 0, 1) := by decide +kernel
theorem dL_holds_537 : decode cL_holds 537 = .ok (.invokevirtual 83, 3) := by decide +kernel
theorem dL_holds_540 : decode cL_holds 540 = .ok (.bipush (-5), 2) := by decide +kernel
theorem dL_holds_542 : decode cL_holds 542 = .ok (.if_icmp .ne 20, 3) := by decide +kernel
theorem dL_holds_545 : decode cL_holds 545 = .ok (.aload_n 0, 1) := by decide +kernel
theorem dL_holds_546 : decode cL_holds 546 = .ok (.iconst 0, 1) := by decide +kernel
theorem dL_holds_547 : decode cL_holds 547 = .ok (.invokevirtual 28, 3) := by decide +kernel
theorem dL_holds_550 : decode cL_holds 550 = .ok (.aload_n 0, 1) := by decide +kernel
theorem dL_holds_551 : decode cL_holds 551 = .ok (.iconst 1, 1) := by decide +kernel
theorem dL_holds_552 : decode cL_holds 552 = .ok (.invokevirtual 28, 3) := by decide +kernel
theorem dL_holds_555 : decode cL_holds 555 = .ok (.if_icmp .eq 7, 3) := by decide +kernel
theorem dL_holds_558 : decode cL_holds 558 = .ok (.iconst 1, 1) := by decide +kernel
theorem dL_holds_559 : decode cL_holds 559 = .ok (.goto 4, 3) := by decide +kernel
theorem dL_holds_562 : decode cL_holds 562 = .ok (.iconst 0, 1) := by decide +kernel
theorem dL_holds_563 : decode cL_holds 563 = .ok (.ireturn, 1) := by decide +kernel
theorem dL_law_0 : decode cL_law 0 = .ok (.new 13, 3) := by decide +kernel
theorem dL_law_3 : decode cL_law 3 = .ok (.dup, 1) := by decide +kernel
theorem dL_law_4 : decode cL_law 4 = .ok (.invokespecial 86, 3) := by decide +kernel
theorem dL_law_7 : decode cL_law 7 = .ok (.astore_n 1, 1) := by decide +kernel
theorem dL_law_8 : decode cL_law 8 = .ok (.aload_n 1, 1) := by decide +kernel
theorem dL_law_9 : decode cL_law 9 = .ok (.invokevirtual 87, 3) := by decide +kernel
theorem dL_law_12 : decode cL_law 12 = .ok (.bipush (-5), 2) := by decide +kernel
theorem dL_law_14 : decode cL_law 14 = .ok (.if_icmp .ne 19, 3) := by decide +kernel
theorem dL_law_17 : decode cL_law 17 = .ok (.aload_n 1, 1) := by decide +kernel
theorem dL_law_18 : decode cL_law 18 = .ok (.invokevirtual 64, 3) := by decide +kernel
theorem dL_law_21 : decode cL_law 21 = .ok (.bipush (-5), 2) := by decide +kernel
theorem dL_law_23 : decode cL_law 23 = .ok (.if_icmp .ne 10, 3) := by decide +kernel
theorem dL_law_26 : decode cL_law 26 = .ok (.aload_n 1, 1) := by decide +kernel
theorem dL_law_27 : decode cL_law 27 = .ok (.invokevirtual 90, 3) := by decide +kernel
theorem dL_law_30 : decode cL_law 30 = .ok (.ifCond .eq 5, 3) := by decide +kernel
theorem dL_law_33 : decode cL_law 33 = .ok (.iconst 0, 1) := by decide +kernel
theorem dL_law_34 : decode cL_law 34 = .ok (.ireturn, 1) := by decide +kernel
theorem dL_law_35 : decode cL_law 35 = .ok (.aload_n 1, 1) := by decide +kernel
theorem dL_law_36 : decode cL_law 36 = .ok (.invokestatic 93, 3) := by decide +kernel
theorem dL_law_39 : decode cL_law 39 = .ok (.lstore_n 2, 1) := by decide +kernel
theorem dL_law_40 : decode cL_law 40 = .ok (.iconst 0, 1) := by decide +kernel
theorem dL_law_41 : decode cL_law 41 = .ok (.istore 4, 2) := by decide +kernel
theorem dL_law_43 : decode cL_law 43 = .ok (.iload 4, 2) := by decide +kernel
theorem dL_law_45 : decode cL_law 45 = .ok (.bipush 38, 2) := by decide +kernel
theorem dL_law_47 : decode cL_law 47 = .ok (.if_icmp .ge 286, 3) := by decide +kernel
theorem dL_law_50 : decode cL_law 50 = .ok (.aload_n 0, 1) := by decide +kernel
theorem dL_law_51 : decode cL_law 51 = .ok (.iconst 2, 1) := by decide +kernel
theorem dL_law_52 : decode cL_law 52 = .ok (.iload 4, 2) := by decide +kernel
theorem dL_law_54 : decode cL_law 54 = .ok (.imul, 1) := by decide +kernel
theorem dL_law_55 : decode cL_law 55 = .ok (.invokestatic 97, 3) := by decide +kernel
theorem dL_law_58 : decode cL_law 58 = .ok (.istore 5, 2) := by decide +kernel
theorem dL_law_60 : decode cL_law 60 = .ok (.aload_n 0, 1) := by decide +kernel
theorem dL_law_61 : decode cL_law 61 = .ok (.iconst 2, 1) := by decide +kernel
theorem dL_law_62 : decode cL_law 62 = .ok (.iload 4, 2) := by decide +kernel
theorem dL_law_64 : decode cL_law 64 = .ok (.imul, 1) := by decide +kernel
theorem dL_law_65 : decode cL_law 65 = .ok (.iconst 1, 1) := by decide +kernel
theorem dL_law_66 : decode cL_law 66 = .ok (.iadd, 1) := by decide +kernel
theorem dL_law_67 : decode cL_law 67 = .ok (.invokestatic 97, 3) := by decide +kernel
theorem dL_law_70 : decode cL_law 70 = .ok (.istore 6, 2) := by decide +kernel
theorem dL_law_72 : decode cL_law 72 = .ok (.aload_n 1, 1) := by decide +kernel
theorem dL_law_73 : decode cL_law 73 = .ok (.invokestatic 93, 3) := by decide +kernel
theorem dL_law_76 : decode cL_law 76 = .ok (.lstore 7, 2) := by decide +kernel
theorem dL_law_78 : decode cL_law 78 = .ok (.aload_n 1, 1) := by decide +kernel
theorem dL_law_79 : decode cL_law 79 = .ok (.bipush 13, 2) := by decide +kernel
theorem dL_law_81 : decode cL_law 81 = .ok (.invokevirtual 12, 3) := by decide +kernel
theorem dL_law_84 : decode cL_law 84 = .ok (.istore 9, 2) := by decide +kernel
theorem dL_law_86 : decode cL_law 86 = .ok (.aload_n 1, 1) := by decide +kernel
theorem dL_law_87 : decode cL_law 87 = .ok (.bipush 6, 2) := by decide +kernel
theorem dL_law_89 : decode cL_law 89 = .ok (.invokevirtual 12, 3) := by decide +kernel
theorem dL_law_92 : decode cL_law 92 = .ok (.istore 10, 2) := by decide +kernel
theorem dL_law_94 : decode cL_law 94 = .ok (.aload_n 1, 1) := by decide +kernel
theorem dL_law_95 : decode cL_law 95 = .ok (.iload 5, 2) := by decide +kernel
theorem dL_law_97 : decode cL_law 97 = .ok (.iload 6, 2) := by decide +kernel
theorem dL_law_99 : decode cL_law 99 = .ok (.invokestatic 101, 3) := by decide +kernel
theorem dL_law_102 : decode cL_law 102 = .ok (.istore 11, 2) := by decide +kernel
theorem dL_law_104 : decode cL_law 104 = .ok (.aload_n 1, 1) := by decide +kernel
theorem dL_law_105 : decode cL_law 105 = .ok (.invokestatic 93, 3) := by decide +kernel
theorem dL_law_108 : decode cL_law 108 = .ok (.lstore 12, 2) := by decide +kernel
theorem dL_law_110 : decode cL_law 110 = .ok (.iload 11, 2) := by decide +kernel
theorem dL_law_112 : decode cL_law 112 = .ok (.ifCond .ge 25, 3) := by decide +kernel
theorem dL_law_115 : decode cL_law 115 = .ok (.lload 12, 2) := by decide +kernel
theorem dL_law_117 : decode cL_law 117 = .ok (.lload 7, 2) := by decide +kernel
theorem dL_law_119 : decode cL_law 119 = .ok (.lcmp, 1) := by decide +kernel
theorem dL_law_120 : decode cL_law 120 = .ok (.ifCond .ne 40, 3) := by decide +kernel
theorem dL_law_123 : decode cL_law 123 = .ok (.aload_n 1, 1) := by decide +kernel
theorem dL_law_124 : decode cL_law 124 = .ok (.bipush 13, 2) := by decide +kernel
theorem dL_law_126 : decode cL_law 126 = .ok (.invokevirtual 12, 3) := by decide +kernel
theorem dL_law_129 : decode cL_law 129 = .ok (.iload 9, 2) := by decide +kernel
theorem dL_law_131 : decode cL_law 131 = .ok (.if_icmp .eq 31, 3) := by decide +kernel
theorem dL_law_134 : decode cL_law 134 = .ok (.goto 26, 3) := by decide +kernel
theorem dL_law_137 : decode cL_law 137 = .ok (.aload_n 1, 1) := by decide +kernel
theorem dL_law_138 : decode cL_law 138 = .ok (.bipush 13, 2) := by decide +kernel
theorem dL_law_140 : decode cL_law 140 = .ok (.invokevirtual 12, 3) := by decide +kernel
theorem dL_law_143 : decode cL_law 143 = .ok (.iload 9, 2) := by decide +kernel
theorem dL_law_145 : decode cL_law 145 = .ok (.iconst 4, 1) := by decide +kernel
theorem dL_law_146 : decode cL_law 146 = .ok (.if_icmp .ge 10, 3) := by decide +kernel
theorem dL_law_149 : decode cL_law 149 = .ok (.iload 9, 2) := by decide +kernel
theorem dL_law_151 : decode cL_law 151 = .ok (.iconst 1, 1) := by decide +kernel
theorem dL_law_152 : decode cL_law 152 = .ok (.iadd, 1) := by decide +kernel
theorem dL_law_153 : decode cL_law 153 = .ok (.goto 4, 3) := by decide +kernel
theorem dL_law_156 : decode cL_law 156 = .ok (.iconst 4, 1) := by decide +kernel
theorem dL_law_157 : decode cL_law 157 = .ok (.if_icmp .eq 5, 3) := by decide +kernel
theorem dL_law_160 : decode cL_law 160 = .ok (.iconst 0, 1) := by decide +kernel
theorem dL_law_161 : decode cL_law 161 = .ok (.ireturn, 1) := by decide +kernel
theorem dL_law_162 : decode cL_law 162 = .ok (.iload 11, 2) := by decide +kernel
theorem dL_law_164 : decode cL_law 164 = .ok (.ifCond .lt 27, 3) := by decide +kernel
theorem dL_law_167 : decode cL_law 167 = .ok (.iload 5, 2) := by decide +kernel
theorem dL_law_169 : decode cL_law 169 = .ok (.bipush 15, 2) := by decide +kernel
theorem dL_law_171 : decode cL_law 171 = .ok (.iand, 1) := by decide +kernel
theorem dL_law_172 : decode cL_law 172 = .ok (.bipush 11, 2) := by decide +kernel
theorem dL_law_174 : decode cL_law 174 = .ok (.if_icmp .le 17, 3) := by decide +kernel
theorem dL_law_177 : decode cL_law 177 = .ok (.aload_n 1, 1) := by decide +kernel
theorem dL_law_178 : decode cL_law 178 = .ok (.bipush 6, 2) := by decide +kernel
theorem dL_law_180 : decode cL_law 180 = .ok (.invokevirtual 12, 3) := by decide +kernel
theorem dL_law_183 : decode cL_law 183 = .ok (.iload 10, 2) := by decide +kernel
theorem dL_law_185 : decode cL_law 185 = .ok (.iload 11, 2) := by decide +kernel
theorem dL_law_187 : decode cL_law 187 = .ok (.iadd, 1) := by decide +kernel
theorem dL_law_188 : decode cL_law 188 = .ok (.if_icmp .ne 32, 3) := by decide +kernel
theorem dL_law_191 : decode cL_law 191 = .ok (.iload 11, 2) := by decide +kernel
theorem dL_law_193 : decode cL_law 193 = .ok (.ifCond .lt 29, 3) := by decide +kernel
theorem dL_law_196 : decode cL_law 196 = .ok (.iload 5, 2) := by decide +kernel
theorem dL_law_198 : decode cL_law 198 = .ok (.bipush 15, 2) := by decide +kernel
theorem dL_law_200 : decode cL_law 200 = .ok (.iand, 1) := by decide +kernel
theorem dL_law_201 : decode cL_law 201 = .ok (.bipush 10, 2) := by decide +kernel
theorem dL_law_203 : decode cL_law 203 = .ok (.if_icmp .ne 19, 3) := by decide +kernel
theorem dL_law_206 : decode cL_law 206 = .ok (.iload 6, 2) := by decide +kernel
theorem dL_law_208 : decode cL_law 208 = .ok (.iconst 3, 1) := by decide +kernel
theorem dL_law_209 : decode cL_law 209 = .ok (.iand, 1) := by decide +kernel
theorem dL_law_210 : decode cL_law 210 = .ok (.ifCond .le 12, 3) := by decide +kernel
theorem dL_law_213 : decode cL_law 213 = .ok (.lload 12, 2) := by decide +kernel
theorem dL_law_215 : decode cL_law 215 = .ok (.lload_n 2, 1) := by decide +kernel
theorem dL_law_216 : decode cL_law 216 = .ok (.lcmp, 1) := by decide +kernel
theorem dL_law_217 : decode cL_law 217 = .ok (.ifCond .eq 5, 3) := by decide +kernel
theorem dL_law_220 : decode cL_law 220 = .ok (.iconst 0, 1) := by decide +kernel
theorem dL_law_221 : decode cL_law 221 = .ok (.ireturn, 1) := by decide +kernel
theorem dL_law_222 : decode cL_law 222 = .ok (.iload 11, 2) := by decide +kernel
theorem dL_law_224 : decode cL_law 224 = .ok (.ifCond .lt 67, 3) := by decide +kernel
theorem dL_law_227 : decode cL_law 227 = .ok (.iload 5, 2) := by decide +kernel
theorem dL_law_229 : decode cL_law 229 = .ok (.bipush 9, 2) := by decide +kernel
theorem dL_law_231 : decode cL_law 231 = .ok (.ishr, 1) := by decide +kernel
theorem dL_law_232 : decode cL_law 232 = .ok (.iconst 1, 1) := by decide +kernel
theorem dL_law_233 : decode cL_law 233 = .ok (.iand, 1) := by decide +kernel
theorem dL_law_234 : decode cL_law 234 = .ok (.ifCond .ne 57, 3) := by decide +kernel
theorem dL_law_237 : decode cL_law 237 = .ok (.aload_n 1, 1) := by decide +kernel
theorem dL_law_238 : decode cL_law 238 = .ok (.bipush 13, 2) := by decide +kernel
theorem dL_law_240 : decode cL_law 240 = .ok (.invokevirtual 12, 3) := by decide +kernel
theorem dL_law_243 : decode cL_law 243 = .ok (.iconst 1, 1) := by decide +kernel
theorem dL_law_244 : decode cL_law 244 = .ok (.isub, 1) := by decide +kernel
theorem dL_law_245 : decode cL_law 245 = .ok (.istore 14, 2) := by decide +kernel
theorem dL_law_247 : decode cL_law 247 = .ok (.aload_n 1, 1) := by decide +kernel
theorem dL_law_248 : decode cL_law 248 = .ok (.invokevirtual 87, 3) := by decide +kernel
theorem dL_law_251 : decode cL_law 251 = .ok (.iload 14, 2) := by decide +kernel
theorem dL_law_253 : decode cL_law 253 = .ok (.if_icmp .ne 36, 3) := by decide +kernel
theorem dL_law_256 : decode cL_law 256 = .ok (.aload_n 1, 1) := by decide +kernel
theorem dL_law_257 : decode cL_law 257 = .ok (.invokestatic 93, 3) := by decide +kernel
theorem dL_law_260 : decode cL_law 260 = .ok (.lload 7, 2) := by decide +kernel
theorem dL_law_262 : decode cL_law 262 = .ok (.lcmp, 1) := by decide +kernel
theorem dL_law_263 : decode cL_law 263 = .ok (.ifCond .ne 26, 3) := by decide +kernel
theorem dL_law_266 : decode cL_law 266 = .ok (.aload_n 1, 1) := by decide +kernel
theorem dL_law_267 : decode cL_law 267 = .ok (.iload 5, 2) := by decide +kernel
theorem dL_law_269 : decode cL_law 269 = .ok (.iload 6, 2) := by decide +kernel
theorem dL_law_271 : decode cL_law 271 = .ok (.invokestatic 101, 3) := by decide +kernel
theorem dL_law_274 : decode cL_law 274 = .ok (.iload 11, 2) := by decide +kernel
theorem dL_law_276 : decode cL_law 276 = .ok (.if_icmp .ne 13, 3) := by decide +kernel
theorem dL_law_279 : decode cL_law 279 = .ok (.aload_n 1, 1) := by decide +kernel
theorem dL_law_280 : decode cL_law 280 = .ok (.invokestatic 93, 3) := by decide +kernel
theorem dL_law_283 : decode cL_law 283 = .ok (.lload 12, 2) := by decide +kernel
theorem dL_law_285 : decode cL_law 285 = .ok (.lcmp, 1) := by decide +kernel
theorem dL_law_286 : decode cL_law 286 = .ok (.ifCond .eq 5, 3) := by decide +kernel
theorem dL_law_289 : decode cL_law 289 = .ok (.iconst 0, 1) := by decide +kernel
theorem dL_law_290 : decode cL_law 290 = .ok (.ireturn, 1) := by decide +kernel
theorem dL_law_291 : decode cL_law 291 = .ok (.iload 4, 2) := by decide +kernel
theorem dL_law_293 : decode cL_law 293 = .ok (.iconst 2, 1) := by decide +kernel
theorem dL_law_294 : decode cL_law 294 = .ok (.irem, 1) := by decide +kernel
theorem dL_law_295 : decode cL_law 295 = .ok (.iconst 1, 1) := by decide +kernel
theorem dL_law_296 : decode cL_law 296 = .ok (.if_icmp .ne 12, 3) := by decide +kernel
theorem dL_law_299 : decode cL_law 299 = .ok (.aload_n 1, 1) := by decide +kernel
theorem dL_law_300 : decode cL_law 300 = .ok (.invokestatic 105, 3) := by decide +kernel
theorem dL_law_303 : decode cL_law 303 = .ok (.ifCond .ne 5, 3) := by decide +kernel
theorem dL_law_306 : decode cL_law 306 = .ok (.iconst 0, 1) := by decide +kernel
theorem dL_law_307 : decode cL_law 307 = .ok (.ireturn, 1) := by decide +kernel
theorem dL_law_308 : decode cL_law 308 = .ok (.iload 5, 2) := by decide +kernel
theorem dL_law_310 : decode cL_law 310 = .ok (.bipush 10, 2) := by decide +kernel
theorem dL_law_312 : decode cL_law 312 = .ok (.ishr, 1) := by decide +kernel
theorem dL_law_313 : decode cL_law 313 = .ok (.bipush 7, 2) := by decide +kernel
theorem dL_law_315 : decode cL_law 315 = .ok (.iand, 1) := by decide +kernel
theorem dL_law_316 : decode cL_law 316 = .ok (.ifCond .ne 11, 3) := by decide +kernel
theorem dL_law_319 : decode cL_law 319 = .ok (.aload_n 1, 1) := by decide +kernel
theorem dL_law_320 : decode cL_law 320 = .ok (.invokevirtual 90, 3) := by decide +kernel
theorem dL_law_323 : decode cL_law 323 = .ok (.pop, 1) := by decide +kernel
theorem dL_law_324 : decode cL_law 324 = .ok (.lload 12, 2) := by decide +kernel
theorem dL_law_326 : decode cL_law 326 = .ok (.lstore_n 2, 1) := by decide +kernel
theorem dL_law_327 : decode cL_law 327 = .ok (.iinc 4 1, 3) := by decide +kernel
theorem dL_law_330 : decode cL_law 330 = .ok (.goto (-287), 3) := by decide +kernel
theorem dL_law_333 : decode cL_law 333 = .ok (.iconst 1, 1) := by decide +kernel
theorem dL_law_334 : decode cL_law 334 = .ok (.ireturn, 1) := by decide +kernel
