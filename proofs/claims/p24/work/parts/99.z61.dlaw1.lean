theorem dl_175 : decode code 175 = .ok (.iaload, 1) := by decide +kernel
theorem dl_176 : decode code 176 = .ok (.aload_n 0, 1) := by decide +kernel
theorem dl_177 : decode code 177 = .ok (.iload_n 3, 1) := by decide +kernel
theorem dl_178 : decode code 178 = .ok (.iconst 2, 1) := by decide +kernel
theorem dl_179 : decode code 179 = .ok (.iadd, 1) := by decide +kernel
theorem dl_180 : decode code 180 = .ok (.iaload, 1) := by decide +kernel
theorem dl_181 : decode code 181 = .ok (.i2l, 1) := by decide +kernel
theorem dl_182 : decode code 182 = .ok (.bipush 32, 2) := by decide +kernel
theorem dl_184 : decode code 184 = .ok (.lshl, 1) := by decide +kernel
theorem dl_185 : decode code 185 = .ok (.aload_n 0, 1) := by decide +kernel
theorem dl_186 : decode code 186 = .ok (.iload_n 3, 1) := by decide +kernel
theorem dl_187 : decode code 187 = .ok (.iconst 3, 1) := by decide +kernel
theorem dl_188 : decode code 188 = .ok (.iadd, 1) := by decide +kernel
theorem dl_189 : decode code 189 = .ok (.iaload, 1) := by decide +kernel
theorem dl_190 : decode code 190 = .ok (.i2l, 1) := by decide +kernel
theorem dl_191 : decode code 191 = .ok (.ldc2_w 13, 3) := by decide +kernel
theorem dl_194 : decode code 194 = .ok (.land, 1) := by decide +kernel
theorem dl_195 : decode code 195 = .ok (.lor, 1) := by decide +kernel
theorem dl_196 : decode code 196 = .ok (.invokevirtual 19, 3) := by decide +kernel
theorem dl_199 : decode code 199 = .ok (.pop, 1) := by decide +kernel
theorem dl_200 : decode code 200 = .ok (.goto 519, 3) := by decide +kernel
theorem dl_203 : decode code 203 = .ok (.aload_n 1, 1) := by decide +kernel
theorem dl_204 : decode code 204 = .ok (.aload_n 0, 1) := by decide +kernel
theorem dl_205 : decode code 205 = .ok (.iload_n 3, 1) := by decide +kernel
theorem dl_206 : decode code 206 = .ok (.iconst 1, 1) := by decide +kernel
theorem dl_207 : decode code 207 = .ok (.iadd, 1) := by decide +kernel
theorem dl_208 : decode code 208 = .ok (.iaload, 1) := by decide +kernel
theorem dl_209 : decode code 209 = .ok (.invokevirtual 20, 3) := by decide +kernel
theorem dl_212 : decode code 212 = .ok (.pop, 1) := by decide +kernel
theorem dl_213 : decode code 213 = .ok (.aload_n 2, 1) := by decide +kernel
theorem dl_214 : decode code 214 = .ok (.aload_n 0, 1) := by decide +kernel
theorem dl_215 : decode code 215 = .ok (.iload_n 3, 1) := by decide +kernel
theorem dl_216 : decode code 216 = .ok (.iconst 1, 1) := by decide +kernel
theorem dl_217 : decode code 217 = .ok (.iadd, 1) := by decide +kernel
theorem dl_218 : decode code 218 = .ok (.iaload, 1) := by decide +kernel
theorem dl_219 : decode code 219 = .ok (.invokevirtual 24, 3) := by decide +kernel
theorem dl_222 : decode code 222 = .ok (.pop, 1) := by decide +kernel
theorem dl_223 : decode code 223 = .ok (.goto 496, 3) := by decide +kernel
theorem dl_226 : decode code 226 = .ok (.aload_n 1, 1) := by decide +kernel
theorem dl_227 : decode code 227 = .ok (.aload_n 0, 1) := by decide +kernel
theorem dl_228 : decode code 228 = .ok (.iload_n 3, 1) := by decide +kernel
theorem dl_229 : decode code 229 = .ok (.iconst 1, 1) := by decide +kernel
theorem dl_230 : decode code 230 = .ok (.iadd, 1) := by decide +kernel
theorem dl_231 : decode code 231 = .ok (.iaload, 1) := by decide +kernel
theorem dl_232 : decode code 232 = .ok (.invokevirtual 25, 3) := by decide +kernel
theorem dl_235 : decode code 235 = .ok (.pop, 1) := by decide +kernel
theorem dl_236 : decode code 236 = .ok (.aload_n 2, 1) := by decide +kernel
theorem dl_237 : decode code 237 = .ok (.aload_n 0, 1) := by decide +kernel
theorem dl_238 : decode code 238 = .ok (.iload_n 3, 1) := by decide +kernel
theorem dl_239 : decode code 239 = .ok (.iconst 1, 1) := by decide +kernel
theorem dl_240 : decode code 240 = .ok (.iadd, 1) := by decide +kernel
theorem dl_241 : decode code 241 = .ok (.iaload, 1) := by decide +kernel
