theorem d_Law_law_186 : decode b_Law_law 186 = .ok (.aload_n 0, 1) := by decide +kernel
theorem d_Law_law_187 : decode b_Law_law 187 = .ok (.iload 4, 2) := by decide +kernel
theorem d_Law_law_189 : decode b_Law_law 189 = .ok (.iconst 1, 1) := by decide +kernel
theorem d_Law_law_190 : decode b_Law_law 190 = .ok (.iadd, 1) := by decide +kernel
theorem d_Law_law_191 : decode b_Law_law 191 = .ok (.iaload, 1) := by decide +kernel
theorem d_Law_law_192 : decode b_Law_law 192 = .ok (.invokevirtual 73, 3) := by decide +kernel
theorem d_Law_law_195 : decode b_Law_law 195 = .ok (.istore 6, 2) := by decide +kernel
theorem d_Law_law_197 : decode b_Law_law 197 = .ok (.aload_n 2, 1) := by decide +kernel
theorem d_Law_law_198 : decode b_Law_law 198 = .ok (.invokevirtual 67, 3) := by decide +kernel
theorem d_Law_law_201 : decode b_Law_law 201 = .ok (.iload 5, 2) := by decide +kernel
theorem d_Law_law_203 : decode b_Law_law 203 = .ok (.if_icmp .eq 5, 3) := by decide +kernel
theorem d_Law_law_206 : decode b_Law_law 206 = .ok (.iconst 0, 1) := by decide +kernel
theorem d_Law_law_207 : decode b_Law_law 207 = .ok (.ireturn, 1) := by decide +kernel
theorem d_Law_law_208 : decode b_Law_law 208 = .ok (.iload 5, 2) := by decide +kernel
theorem d_Law_law_210 : decode b_Law_law 210 = .ok (.ifCond .ne 15, 3) := by decide +kernel
theorem d_Law_law_213 : decode b_Law_law 213 = .ok (.aload_n 3, 1) := by decide +kernel
theorem d_Law_law_214 : decode b_Law_law 214 = .ok (.iconst 0, 1) := by decide +kernel
theorem d_Law_law_215 : decode b_Law_law 215 = .ok (.laload, 1) := by decide +kernel
theorem d_Law_law_216 : decode b_Law_law 216 = .ok (.iload 6, 2) := by decide +kernel
theorem d_Law_law_218 : decode b_Law_law 218 = .ok (.i2l, 1) := by decide +kernel
theorem d_Law_law_219 : decode b_Law_law 219 = .ok (.lcmp, 1) := by decide +kernel
theorem d_Law_law_220 : decode b_Law_law 220 = .ok (.ifCond .eq 5, 3) := by decide +kernel
theorem d_Law_law_223 : decode b_Law_law 223 = .ok (.iconst 0, 1) := by decide +kernel
theorem d_Law_law_224 : decode b_Law_law 224 = .ok (.ireturn, 1) := by decide +kernel
theorem d_Law_law_225 : decode b_Law_law 225 = .ok (.goto 919, 3) := by decide +kernel
theorem d_Law_law_228 : decode b_Law_law 228 = .ok (.aload_n 1, 1) := by decide +kernel
theorem d_Law_law_229 : decode b_Law_law 229 = .ok (.aload_n 0, 1) := by decide +kernel
theorem d_Law_law_230 : decode b_Law_law 230 = .ok (.iload 4, 2) := by decide +kernel
theorem d_Law_law_232 : decode b_Law_law 232 = .ok (.iconst 1, 1) := by decide +kernel
theorem d_Law_law_233 : decode b_Law_law 233 = .ok (.iadd, 1) := by decide +kernel
theorem d_Law_law_234 : decode b_Law_law 234 = .ok (.iaload, 1) := by decide +kernel
theorem d_Law_law_235 : decode b_Law_law 235 = .ok (.aload_n 3, 1) := by decide +kernel
theorem d_Law_law_236 : decode b_Law_law 236 = .ok (.invokestatic 74, 3) := by decide +kernel
theorem d_Law_law_239 : decode b_Law_law 239 = .ok (.istore 5, 2) := by decide +kernel
theorem d_Law_law_241 : decode b_Law_law 241 = .ok (.aload_n 2, 1) := by decide +kernel
theorem d_Law_law_242 : decode b_Law_law 242 = .ok (.aload_n 0, 1) := by decide +kernel
theorem d_Law_law_243 : decode b_Law_law 243 = .ok (.iload 4, 2) := by decide +kernel
theorem d_Law_law_245 : decode b_Law_law 245 = .ok (.iconst 1, 1) := by decide +kernel
theorem d_Law_law_246 : decode b_Law_law 246 = .ok (.iadd, 1) := by decide +kernel
theorem d_Law_law_247 : decode b_Law_law 247 = .ok (.iaload, 1) := by decide +kernel
theorem d_Law_law_248 : decode b_Law_law 248 = .ok (.invokevirtual 76, 3) := by decide +kernel
theorem d_Law_law_251 : decode b_Law_law 251 = .ok (.istore 6, 2) := by decide +kernel
theorem d_Law_law_253 : decode b_Law_law 253 = .ok (.aload_n 2, 1) := by decide +kernel
theorem d_Law_law_254 : decode b_Law_law 254 = .ok (.invokevirtual 67, 3) := by decide +kernel
theorem d_Law_law_257 : decode b_Law_law 257 = .ok (.iload 5, 2) := by decide +kernel
theorem d_Law_law_259 : decode b_Law_law 259 = .ok (.if_icmp .eq 5, 3) := by decide +kernel
theorem d_Law_law_262 : decode b_Law_law 262 = .ok (.iconst 0, 1) := by decide +kernel
theorem d_Law_law_263 : decode b_Law_law 263 = .ok (.ireturn, 1) := by decide +kernel
theorem d_Law_law_264 : decode b_Law_law 264 = .ok (.iload 5, 2) := by decide +kernel
theorem d_Law_law_266 : decode b_Law_law 266 = .ok (.ifCond .ne 15, 3) := by decide +kernel
theorem d_Law_law_269 : decode b_Law_law 269 = .ok (.aload_n 3, 1) := by decide +kernel
theorem d_Law_law_270 : decode b_Law_law 270 = .ok (.iconst 0, 1) := by decide +kernel
theorem d_Law_law_271 : decode b_Law_law 271 = .ok (.laload, 1) := by decide +kernel
theorem d_Law_law_272 : decode b_Law_law 272 = .ok (.iload 6, 2) := by decide +kernel
theorem d_Law_law_274 : decode b_Law_law 274 = .ok (.i2l, 1) := by decide +kernel
theorem d_Law_law_275 : decode b_Law_law 275 = .ok (.lcmp, 1) := by decide +kernel
theorem d_Law_law_276 : decode b_Law_law 276 = .ok (.ifCond .eq 5, 3) := by decide +kernel
theorem d_Law_law_279 : decode b_Law_law 279 = .ok (.iconst 0, 1) := by decide +kernel
theorem d_Law_law_280 : decode b_Law_law 280 = .ok (.ireturn, 1) := by decide +kernel
theorem d_Law_law_281 : decode b_Law_law 281 = .ok (.goto 863, 3) := by decide +kernel
