theorem dc_L_law_0 : decode bc_L_law 0 = .ok (.new 8, 3) := by decide +kernel
theorem dc_L_law_3 : decode bc_L_law 3 = .ok (.dup, 1) := by decide +kernel
theorem dc_L_law_4 : decode bc_L_law 4 = .ok (.invokespecial 73, 3) := by decide +kernel
theorem dc_L_law_7 : decode bc_L_law 7 = .ok (.astore_n 1, 1) := by decide +kernel
theorem dc_L_law_8 : decode bc_L_law 8 = .ok (.new 74, 3) := by decide +kernel
theorem dc_L_law_11 : decode bc_L_law 11 = .ok (.dup, 1) := by decide +kernel
theorem dc_L_law_12 : decode bc_L_law 12 = .ok (.invokespecial 76, 3) := by decide +kernel
theorem dc_L_law_15 : decode bc_L_law 15 = .ok (.astore_n 2, 1) := by decide +kernel
theorem dc_L_law_16 : decode bc_L_law 16 = .ok (.iconst 1, 1) := by decide +kernel
theorem dc_L_law_17 : decode bc_L_law 17 = .ok (.newarray .long, 2) := by decide +kernel
theorem dc_L_law_19 : decode bc_L_law 19 = .ok (.astore_n 3, 1) := by decide +kernel
theorem dc_L_law_20 : decode bc_L_law 20 = .ok (.iconst 0, 1) := by decide +kernel
theorem dc_L_law_21 : decode bc_L_law 21 = .ok (.istore 4, 2) := by decide +kernel
theorem dc_L_law_23 : decode bc_L_law 23 = .ok (.iload 4, 2) := by decide +kernel
theorem dc_L_law_25 : decode bc_L_law 25 = .ok (.aload_n 0, 1) := by decide +kernel
theorem dc_L_law_26 : decode bc_L_law 26 = .ok (.arraylength, 1) := by decide +kernel
theorem dc_L_law_27 : decode bc_L_law 27 = .ok (.iconst 5, 1) := by decide +kernel
theorem dc_L_law_28 : decode bc_L_law 28 = .ok (.isub, 1) := by decide +kernel
theorem dc_L_law_29 : decode bc_L_law 29 = .ok (.if_icmp .gt 1226, 3) := by decide +kernel
theorem dc_L_law_32 : decode bc_L_law 32 = .ok (.aload_n 0, 1) := by decide +kernel
theorem dc_L_law_33 : decode bc_L_law 33 = .ok (.iload 4, 2) := by decide +kernel
theorem dc_L_law_35 : decode bc_L_law 35 = .ok (.iaload, 1) := by decide +kernel
theorem dc_L_law_36 : decode bc_L_law 36 = .ok (.bipush 31, 2) := by decide +kernel
theorem dc_L_law_38 : decode bc_L_law 38 = .ok (.iand, 1) := by decide +kernel
theorem dc_L_law_39 : decode bc_L_law 39 = .ok (.tableswitch 1210 0 17 #[85, 141, 185, 253, 333, 389, 445, 501, 569, 625, 744, 819, 894, 950, 1017, 1073, 1141, 1197], 85) := by decide +kernel
theorem dc_L_law_124 : decode bc_L_law 124 = .ok (.aload_n 1, 1) := by decide +kernel
theorem dc_L_law_125 : decode bc_L_law 125 = .ok (.aload_n 0, 1) := by decide +kernel
theorem dc_L_law_126 : decode bc_L_law 126 = .ok (.iload 4, 2) := by decide +kernel
theorem dc_L_law_128 : decode bc_L_law 128 = .ok (.iconst 1, 1) := by decide +kernel
theorem dc_L_law_129 : decode bc_L_law 129 = .ok (.iadd, 1) := by decide +kernel
theorem dc_L_law_130 : decode bc_L_law 130 = .ok (.iaload, 1) := by decide +kernel
theorem dc_L_law_131 : decode bc_L_law 131 = .ok (.aload_n 3, 1) := by decide +kernel
theorem dc_L_law_132 : decode bc_L_law 132 = .ok (.invokestatic 77, 3) := by decide +kernel
theorem dc_L_law_135 : decode bc_L_law 135 = .ok (.istore 5, 2) := by decide +kernel
theorem dc_L_law_137 : decode bc_L_law 137 = .ok (.aload_n 2, 1) := by decide +kernel
theorem dc_L_law_138 : decode bc_L_law 138 = .ok (.aload_n 0, 1) := by decide +kernel
theorem dc_L_law_139 : decode bc_L_law 139 = .ok (.iload 4, 2) := by decide +kernel
theorem dc_L_law_141 : decode bc_L_law 141 = .ok (.iconst 1, 1) := by decide +kernel
theorem dc_L_law_142 : decode bc_L_law 142 = .ok (.iadd, 1) := by decide +kernel
theorem dc_L_law_143 : decode bc_L_law 143 = .ok (.iaload, 1) := by decide +kernel
theorem dc_L_law_144 : decode bc_L_law 144 = .ok (.invokevirtual 82, 3) := by decide +kernel
theorem dc_L_law_147 : decode bc_L_law 147 = .ok (.istore 6, 2) := by decide +kernel
theorem dc_L_law_149 : decode bc_L_law 149 = .ok (.aload_n 2, 1) := by decide +kernel
theorem dc_L_law_150 : decode bc_L_law 150 = .ok (.invokevirtual 83, 3) := by decide +kernel
theorem dc_L_law_153 : decode bc_L_law 153 = .ok (.iload 5, 2) := by decide +kernel
theorem dc_L_law_155 : decode bc_L_law 155 = .ok (.if_icmp .eq 5, 3) := by decide +kernel
theorem dc_L_law_158 : decode bc_L_law 158 = .ok (.iconst 0, 1) := by decide +kernel
theorem dc_L_law_159 : decode bc_L_law 159 = .ok (.ireturn, 1) := by decide +kernel
theorem dc_L_law_160 : decode bc_L_law 160 = .ok (.iload 5, 2) := by decide +kernel
theorem dc_L_law_162 : decode bc_L_law 162 = .ok (.ifCond .ne 15, 3) := by decide +kernel
theorem dc_L_law_165 : decode bc_L_law 165 = .ok (.aload_n 3, 1) := by decide +kernel
theorem dc_L_law_166 : decode bc_L_law 166 = .ok (.iconst 0, 1) := by decide +kernel
theorem dc_L_law_167 : decode bc_L_law 167 = .ok (.laload, 1) := by decide +kernel
theorem dc_L_law_168 : decode bc_L_law 168 = .ok (.iload 6, 2) := by decide +kernel
theorem dc_L_law_170 : decode bc_L_law 170 = .ok (.i2l, 1) := by decide +kernel
theorem dc_L_law_171 : decode bc_L_law 171 = .ok (.lcmp, 1) := by decide +kernel
theorem dc_L_law_172 : decode bc_L_law 172 = .ok (.ifCond .eq 5, 3) := by decide +kernel
theorem dc_L_law_175 : decode bc_L_law 175 = .ok (.iconst 0, 1) := by decide +kernel
theorem dc_L_law_176 : decode bc_L_law 176 = .ok (.ireturn, 1) := by decide +kernel
theorem dc_L_law_177 : decode bc_L_law 177 = .ok (.goto 1072, 3) := by decide +kernel
theorem dc_L_law_180 : decode bc_L_law 180 = .ok (.aload_n 1, 1) := by decide +kernel
theorem dc_L_law_181 : decode bc_L_law 181 = .ok (.aload_n 3, 1) := by decide +kernel
theorem dc_L_law_182 : decode bc_L_law 182 = .ok (.invokestatic 86, 3) := by decide +kernel
theorem dc_L_law_185 : decode bc_L_law 185 = .ok (.istore 5, 2) := by decide +kernel
theorem dc_L_law_187 : decode bc_L_law 187 = .ok (.aload_n 2, 1) := by decide +kernel
theorem dc_L_law_188 : decode bc_L_law 188 = .ok (.invokevirtual 89, 3) := by decide +kernel
theorem dc_L_law_191 : decode bc_L_law 191 = .ok (.istore 6, 2) := by decide +kernel
theorem dc_L_law_193 : decode bc_L_law 193 = .ok (.aload_n 2, 1) := by decide +kernel
theorem dc_L_law_194 : decode bc_L_law 194 = .ok (.invokevirtual 83, 3) := by decide +kernel
theorem dc_L_law_197 : decode bc_L_law 197 = .ok (.iload 5, 2) := by decide +kernel
theorem dc_L_law_199 : decode bc_L_law 199 = .ok (.if_icmp .eq 5, 3) := by decide +kernel
theorem dc_L_law_202 : decode bc_L_law 202 = .ok (.iconst 0, 1) := by decide +kernel
theorem dc_L_law_203 : decode bc_L_law 203 = .ok (.ireturn, 1) := by decide +kernel
theorem dc_L_law_204 : decode bc_L_law 204 = .ok (.iload 5, 2) := by decide +kernel
theorem dc_L_law_206 : decode bc_L_law 206 = .ok (.ifCond .ne 15, 3) := by decide +kernel
theorem dc_L_law_209 : decode bc_L_law 209 = .ok (.aload_n 3, 1) := by decide +kernel
theorem dc_L_law_210 : decode bc_L_law 210 = .ok (.iconst 0, 1) := by decide +kernel
theorem dc_L_law_211 : decode bc_L_law 211 = .ok (.laload, 1) := by decide +kernel
theorem dc_L_law_212 : decode bc_L_law 212 = .ok (.iload 6, 2) := by decide +kernel
theorem dc_L_law_214 : decode bc_L_law 214 = .ok (.i2l, 1) := by decide +kernel
theorem dc_L_law_215 : decode bc_L_law 215 = .ok (.lcmp, 1) := by decide +kernel
theorem dc_L_law_216 : decode bc_L_law 216 = .ok (.ifCond .eq 5, 3) := by decide +kernel
theorem dc_L_law_219 : decode bc_L_law 219 = .ok (.iconst 0, 1) := by decide +kernel
theorem dc_L_law_220 : decode bc_L_law 220 = .ok (.ireturn, 1) := by decide +kernel
theorem dc_L_law_221 : decode bc_L_law 221 = .ok (.goto 1028, 3) := by decide +kernel
theorem dc_L_law_224 : decode bc_L_law 224 = .ok (.aload_n 1, 1) := by decide +kernel
theorem dc_L_law_225 : decode bc_L_law 225 = .ok (.aload_n 0, 1) := by decide +kernel
theorem dc_L_law_226 : decode bc_L_law 226 = .ok (.iload 4, 2) := by decide +kernel
theorem dc_L_law_228 : decode bc_L_law 228 = .ok (.iconst 1, 1) := by decide +kernel
theorem dc_L_law_229 : decode bc_L_law 229 = .ok (.iadd, 1) := by decide +kernel
theorem dc_L_law_230 : decode bc_L_law 230 = .ok (.iaload, 1) := by decide +kernel
theorem dc_L_law_231 : decode bc_L_law 231 = .ok (.aload_n 0, 1) := by decide +kernel
theorem dc_L_law_232 : decode bc_L_law 232 = .ok (.iload 4, 2) := by decide +kernel
theorem dc_L_law_234 : decode bc_L_law 234 = .ok (.iconst 2, 1) := by decide +kernel
theorem dc_L_law_235 : decode bc_L_law 235 = .ok (.iadd, 1) := by decide +kernel
