theorem d_L_law_154 : decode code 154 = .ok (.aload_n 0, 1) := by decide +kernel
theorem d_L_law_155 : decode code 155 = .ok (.iload 4, 2) := by decide +kernel
theorem d_L_law_157 : decode code 157 = .ok (.iconst 2, 1) := by decide +kernel
theorem d_L_law_158 : decode code 158 = .ok (.iadd, 1) := by decide +kernel
theorem d_L_law_159 : decode code 159 = .ok (.iaload, 1) := by decide +kernel
theorem d_L_law_160 : decode code 160 = .ok (.i2l, 1) := by decide +kernel
theorem d_L_law_161 : decode code 161 = .ok (.ldc2_w 66, 3) := by decide +kernel
theorem d_L_law_164 : decode code 164 = .ok (.land, 1) := by decide +kernel
theorem d_L_law_165 : decode code 165 = .ok (.lor, 1) := by decide +kernel
theorem d_L_law_166 : decode code 166 = .ok (.aload_n 0, 1) := by decide +kernel
theorem d_L_law_167 : decode code 167 = .ok (.iload 4, 2) := by decide +kernel
theorem d_L_law_169 : decode code 169 = .ok (.iconst 3, 1) := by decide +kernel
theorem d_L_law_170 : decode code 170 = .ok (.iadd, 1) := by decide +kernel
theorem d_L_law_171 : decode code 171 = .ok (.iaload, 1) := by decide +kernel
theorem d_L_law_172 : decode code 172 = .ok (.invokevirtual 73, 3) := by decide +kernel
theorem d_L_law_175 : decode code 175 = .ok (.istore 6, 2) := by decide +kernel
theorem d_L_law_177 : decode code 177 = .ok (.aload_n 2, 1) := by decide +kernel
theorem d_L_law_178 : decode code 178 = .ok (.invokevirtual 74, 3) := by decide +kernel
theorem d_L_law_181 : decode code 181 = .ok (.iload 5, 2) := by decide +kernel
theorem d_L_law_183 : decode code 183 = .ok (.if_icmp .eq 5, 3) := by decide +kernel
theorem d_L_law_186 : decode code 186 = .ok (.iconst 0, 1) := by decide +kernel
theorem d_L_law_187 : decode code 187 = .ok (.ireturn, 1) := by decide +kernel
theorem d_L_law_188 : decode code 188 = .ok (.iload 5, 2) := by decide +kernel
theorem d_L_law_190 : decode code 190 = .ok (.ifCond .ne 15, 3) := by decide +kernel
theorem d_L_law_193 : decode code 193 = .ok (.aload_n 3, 1) := by decide +kernel
theorem d_L_law_194 : decode code 194 = .ok (.iconst 0, 1) := by decide +kernel
theorem d_L_law_195 : decode code 195 = .ok (.laload, 1) := by decide +kernel
theorem d_L_law_196 : decode code 196 = .ok (.iload 6, 2) := by decide +kernel
theorem d_L_law_198 : decode code 198 = .ok (.i2l, 1) := by decide +kernel
theorem d_L_law_199 : decode code 199 = .ok (.lcmp, 1) := by decide +kernel
theorem d_L_law_200 : decode code 200 = .ok (.ifCond .eq 5, 3) := by decide +kernel
theorem d_L_law_203 : decode code 203 = .ok (.iconst 0, 1) := by decide +kernel
theorem d_L_law_204 : decode code 204 = .ok (.ireturn, 1) := by decide +kernel
theorem d_L_law_205 : decode code 205 = .ok (.goto 897, 3) := by decide +kernel
theorem d_L_law_208 : decode code 208 = .ok (.aload_n 1, 1) := by decide +kernel
theorem d_L_law_209 : decode code 209 = .ok (.aload_n 0, 1) := by decide +kernel
theorem d_L_law_210 : decode code 210 = .ok (.iload 4, 2) := by decide +kernel
theorem d_L_law_212 : decode code 212 = .ok (.iconst 1, 1) := by decide +kernel
theorem d_L_law_213 : decode code 213 = .ok (.iadd, 1) := by decide +kernel
theorem d_L_law_214 : decode code 214 = .ok (.iaload, 1) := by decide +kernel
theorem d_L_law_215 : decode code 215 = .ok (.i2l, 1) := by decide +kernel
theorem d_L_law_216 : decode code 216 = .ok (.bipush 32, 2) := by decide +kernel
theorem d_L_law_218 : decode code 218 = .ok (.lshl, 1) := by decide +kernel
theorem d_L_law_219 : decode code 219 = .ok (.aload_n 0, 1) := by decide +kernel
theorem d_L_law_220 : decode code 220 = .ok (.iload 4, 2) := by decide +kernel
theorem d_L_law_222 : decode code 222 = .ok (.iconst 2, 1) := by decide +kernel
theorem d_L_law_223 : decode code 223 = .ok (.iadd, 1) := by decide +kernel
theorem d_L_law_224 : decode code 224 = .ok (.iaload, 1) := by decide +kernel
theorem d_L_law_225 : decode code 225 = .ok (.i2l, 1) := by decide +kernel
theorem d_L_law_226 : decode code 226 = .ok (.ldc2_w 66, 3) := by decide +kernel
theorem d_L_law_229 : decode code 229 = .ok (.land, 1) := by decide +kernel
theorem d_L_law_230 : decode code 230 = .ok (.lor, 1) := by decide +kernel
theorem d_L_law_231 : decode code 231 = .ok (.aload_n 0, 1) := by decide +kernel
theorem d_L_law_232 : decode code 232 = .ok (.iload 4, 2) := by decide +kernel
theorem d_L_law_234 : decode code 234 = .ok (.iconst 3, 1) := by decide +kernel
theorem d_L_law_235 : decode code 235 = .ok (.iadd, 1) := by decide +kernel
theorem d_L_law_236 : decode code 236 = .ok (.iaload, 1) := by decide +kernel
theorem d_L_law_237 : decode code 237 = .ok (.i2l, 1) := by decide +kernel
theorem d_L_law_238 : decode code 238 = .ok (.bipush 32, 2) := by decide +kernel
theorem d_L_law_240 : decode code 240 = .ok (.lshl, 1) := by decide +kernel
