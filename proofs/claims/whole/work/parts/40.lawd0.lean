theorem d_LW_law_18 : decode M_LW_law.2.1 18 = .ok (.iload_n 3, 1) := by decide +kernel
theorem d_LW_law_19 : decode M_LW_law.2.1 19 = .ok (.aload_n 0, 1) := by decide +kernel
theorem d_LW_law_20 : decode M_LW_law.2.1 20 = .ok (.arraylength, 1) := by decide +kernel
theorem d_LW_law_21 : decode M_LW_law.2.1 21 = .ok (.iconst 5, 1) := by decide +kernel
theorem d_LW_law_22 : decode M_LW_law.2.1 22 = .ok (.isub, 1) := by decide +kernel
theorem d_LW_law_23 : decode M_LW_law.2.1 23 = .ok (.if_icmp .gt 1009, 3) := by decide +kernel
theorem d_LW_law_26 : decode M_LW_law.2.1 26 = .ok (.aload_n 0, 1) := by decide +kernel
theorem d_LW_law_27 : decode M_LW_law.2.1 27 = .ok (.iload_n 3, 1) := by decide +kernel
theorem d_LW_law_28 : decode M_LW_law.2.1 28 = .ok (.iaload, 1) := by decide +kernel
theorem d_LW_law_29 : decode M_LW_law.2.1 29 = .ok (.bipush 31, 2) := by decide +kernel
theorem d_LW_law_31 : decode M_LW_law.2.1 31 = .ok (.iand, 1) := by decide +kernel
theorem d_LW_law_32 : decode M_LW_law.2.1 32 = .ok (.tableswitch 994 0 27 #[128, 181, 214, 247, 270, 293, 316, 339, 362, 385, 408, 461, 504, 537, 570, 593, 606, 639, 652, 675, 698, 757, 780, 823, 866, 915, 928, 961], 128) := by decide +kernel
theorem d_LW_law_160 : decode M_LW_law.2.1 160 = .ok (.aload_n 1, 1) := by decide +kernel
theorem d_LW_law_161 : decode M_LW_law.2.1 161 = .ok (.aload_n 0, 1) := by decide +kernel
theorem d_LW_law_162 : decode M_LW_law.2.1 162 = .ok (.iload_n 3, 1) := by decide +kernel
theorem d_LW_law_163 : decode M_LW_law.2.1 163 = .ok (.iconst 1, 1) := by decide +kernel
theorem d_LW_law_164 : decode M_LW_law.2.1 164 = .ok (.iadd, 1) := by decide +kernel
theorem d_LW_law_165 : decode M_LW_law.2.1 165 = .ok (.iaload, 1) := by decide +kernel
theorem d_LW_law_166 : decode M_LW_law.2.1 166 = .ok (.i2l, 1) := by decide +kernel
theorem d_LW_law_167 : decode M_LW_law.2.1 167 = .ok (.bipush 32, 2) := by decide +kernel
theorem d_LW_law_169 : decode M_LW_law.2.1 169 = .ok (.lshl, 1) := by decide +kernel
theorem d_LW_law_170 : decode M_LW_law.2.1 170 = .ok (.aload_n 0, 1) := by decide +kernel
theorem d_LW_law_171 : decode M_LW_law.2.1 171 = .ok (.iload_n 3, 1) := by decide +kernel
theorem d_LW_law_172 : decode M_LW_law.2.1 172 = .ok (.iconst 2, 1) := by decide +kernel
theorem d_LW_law_173 : decode M_LW_law.2.1 173 = .ok (.iadd, 1) := by decide +kernel
theorem d_LW_law_174 : decode M_LW_law.2.1 174 = .ok (.iaload, 1) := by decide +kernel
theorem d_LW_law_175 : decode M_LW_law.2.1 175 = .ok (.i2l, 1) := by decide +kernel
theorem d_LW_law_176 : decode M_LW_law.2.1 176 = .ok (.ldc2_w 13, 3) := by decide +kernel
theorem d_LW_law_179 : decode M_LW_law.2.1 179 = .ok (.land, 1) := by decide +kernel
theorem d_LW_law_180 : decode M_LW_law.2.1 180 = .ok (.lor, 1) := by decide +kernel
theorem d_LW_law_181 : decode M_LW_law.2.1 181 = .ok (.invokevirtual 15, 3) := by decide +kernel
theorem d_LW_law_184 : decode M_LW_law.2.1 184 = .ok (.aload_n 2, 1) := by decide +kernel
theorem d_LW_law_185 : decode M_LW_law.2.1 185 = .ok (.aload_n 0, 1) := by decide +kernel
theorem d_LW_law_186 : decode M_LW_law.2.1 186 = .ok (.iload_n 3, 1) := by decide +kernel
theorem d_LW_law_187 : decode M_LW_law.2.1 187 = .ok (.iconst 1, 1) := by decide +kernel
theorem d_LW_law_188 : decode M_LW_law.2.1 188 = .ok (.iadd, 1) := by decide +kernel
theorem d_LW_law_189 : decode M_LW_law.2.1 189 = .ok (.iaload, 1) := by decide +kernel
theorem d_LW_law_190 : decode M_LW_law.2.1 190 = .ok (.i2l, 1) := by decide +kernel
theorem d_LW_law_191 : decode M_LW_law.2.1 191 = .ok (.bipush 32, 2) := by decide +kernel
theorem d_LW_law_193 : decode M_LW_law.2.1 193 = .ok (.lshl, 1) := by decide +kernel
theorem d_LW_law_194 : decode M_LW_law.2.1 194 = .ok (.aload_n 0, 1) := by decide +kernel
theorem d_LW_law_195 : decode M_LW_law.2.1 195 = .ok (.iload_n 3, 1) := by decide +kernel
theorem d_LW_law_196 : decode M_LW_law.2.1 196 = .ok (.iconst 2, 1) := by decide +kernel
theorem d_LW_law_197 : decode M_LW_law.2.1 197 = .ok (.iadd, 1) := by decide +kernel
theorem d_LW_law_198 : decode M_LW_law.2.1 198 = .ok (.iaload, 1) := by decide +kernel
theorem d_LW_law_199 : decode M_LW_law.2.1 199 = .ok (.i2l, 1) := by decide +kernel
theorem d_LW_law_200 : decode M_LW_law.2.1 200 = .ok (.ldc2_w 13, 3) := by decide +kernel
theorem d_LW_law_203 : decode M_LW_law.2.1 203 = .ok (.land, 1) := by decide +kernel
theorem d_LW_law_204 : decode M_LW_law.2.1 204 = .ok (.lor, 1) := by decide +kernel
theorem d_LW_law_205 : decode M_LW_law.2.1 205 = .ok (.invokevirtual 19, 3) := by decide +kernel
theorem d_LW_law_208 : decode M_LW_law.2.1 208 = .ok (.if_icmp .eq 818, 3) := by decide +kernel
theorem d_LW_law_211 : decode M_LW_law.2.1 211 = .ok (.iconst 0, 1) := by decide +kernel
theorem d_LW_law_212 : decode M_LW_law.2.1 212 = .ok (.ireturn, 1) := by decide +kernel
theorem d_LW_law_213 : decode M_LW_law.2.1 213 = .ok (.aload_n 1, 1) := by decide +kernel
theorem d_LW_law_214 : decode M_LW_law.2.1 214 = .ok (.aload_n 0, 1) := by decide +kernel
theorem d_LW_law_215 : decode M_LW_law.2.1 215 = .ok (.iload_n 3, 1) := by decide +kernel
theorem d_LW_law_216 : decode M_LW_law.2.1 216 = .ok (.iconst 1, 1) := by decide +kernel
theorem d_LW_law_217 : decode M_LW_law.2.1 217 = .ok (.iadd, 1) := by decide +kernel
theorem d_LW_law_218 : decode M_LW_law.2.1 218 = .ok (.iaload, 1) := by decide +kernel
theorem d_LW_law_219 : decode M_LW_law.2.1 219 = .ok (.aload_n 0, 1) := by decide +kernel
theorem d_LW_law_220 : decode M_LW_law.2.1 220 = .ok (.iload_n 3, 1) := by decide +kernel
theorem d_LW_law_221 : decode M_LW_law.2.1 221 = .ok (.iconst 2, 1) := by decide +kernel
theorem d_LW_law_222 : decode M_LW_law.2.1 222 = .ok (.iadd, 1) := by decide +kernel
theorem d_LW_law_223 : decode M_LW_law.2.1 223 = .ok (.iaload, 1) := by decide +kernel
theorem d_LW_law_224 : decode M_LW_law.2.1 224 = .ok (.invokevirtual 20, 3) := by decide +kernel
theorem d_LW_law_227 : decode M_LW_law.2.1 227 = .ok (.aload_n 2, 1) := by decide +kernel
theorem d_LW_law_228 : decode M_LW_law.2.1 228 = .ok (.aload_n 0, 1) := by decide +kernel
theorem d_LW_law_229 : decode M_LW_law.2.1 229 = .ok (.iload_n 3, 1) := by decide +kernel
theorem d_LW_law_230 : decode M_LW_law.2.1 230 = .ok (.iconst 1, 1) := by decide +kernel
theorem d_LW_law_231 : decode M_LW_law.2.1 231 = .ok (.iadd, 1) := by decide +kernel
theorem d_LW_law_232 : decode M_LW_law.2.1 232 = .ok (.iaload, 1) := by decide +kernel
theorem d_LW_law_233 : decode M_LW_law.2.1 233 = .ok (.aload_n 0, 1) := by decide +kernel
theorem d_LW_law_234 : decode M_LW_law.2.1 234 = .ok (.iload_n 3, 1) := by decide +kernel
theorem d_LW_law_235 : decode M_LW_law.2.1 235 = .ok (.iconst 2, 1) := by decide +kernel
theorem d_LW_law_236 : decode M_LW_law.2.1 236 = .ok (.iadd, 1) := by decide +kernel
theorem d_LW_law_237 : decode M_LW_law.2.1 237 = .ok (.iaload, 1) := by decide +kernel
theorem d_LW_law_238 : decode M_LW_law.2.1 238 = .ok (.invokevirtual 24, 3) := by decide +kernel
theorem d_LW_law_241 : decode M_LW_law.2.1 241 = .ok (.if_icmp .eq 785, 3) := by decide +kernel
theorem d_LW_law_244 : decode M_LW_law.2.1 244 = .ok (.iconst 0, 1) := by decide +kernel
theorem d_LW_law_245 : decode M_LW_law.2.1 245 = .ok (.ireturn, 1) := by decide +kernel
theorem d_LW_law_246 : decode M_LW_law.2.1 246 = .ok (.aload_n 1, 1) := by decide +kernel
theorem d_LW_law_247 : decode M_LW_law.2.1 247 = .ok (.aload_n 0, 1) := by decide +kernel
theorem d_LW_law_248 : decode M_LW_law.2.1 248 = .ok (.iload_n 3, 1) := by decide +kernel
theorem d_LW_law_249 : decode M_LW_law.2.1 249 = .ok (.iconst 1, 1) := by decide +kernel
theorem d_LW_law_250 : decode M_LW_law.2.1 250 = .ok (.iadd, 1) := by decide +kernel
theorem d_LW_law_251 : decode M_LW_law.2.1 251 = .ok (.iaload, 1) := by decide +kernel
theorem d_LW_law_252 : decode M_LW_law.2.1 252 = .ok (.aload_n 0, 1) := by decide +kernel
theorem d_LW_law_253 : decode M_LW_law.2.1 253 = .ok (.iload_n 3, 1) := by decide +kernel
theorem d_LW_law_254 : decode M_LW_law.2.1 254 = .ok (.iconst 2, 1) := by decide +kernel
theorem d_LW_law_255 : decode M_LW_law.2.1 255 = .ok (.iadd, 1) := by decide +kernel
theorem d_LW_law_256 : decode M_LW_law.2.1 256 = .ok (.iaload, 1) := by decide +kernel
theorem d_LW_law_257 : decode M_LW_law.2.1 257 = .ok (.invokevirtual 25, 3) := by decide +kernel
theorem d_LW_law_260 : decode M_LW_law.2.1 260 = .ok (.aload_n 2, 1) := by decide +kernel
theorem d_LW_law_261 : decode M_LW_law.2.1 261 = .ok (.aload_n 0, 1) := by decide +kernel
theorem d_LW_law_262 : decode M_LW_law.2.1 262 = .ok (.iload_n 3, 1) := by decide +kernel
theorem d_LW_law_263 : decode M_LW_law.2.1 263 = .ok (.iconst 1, 1) := by decide +kernel
theorem d_LW_law_264 : decode M_LW_law.2.1 264 = .ok (.iadd, 1) := by decide +kernel
theorem d_LW_law_265 : decode M_LW_law.2.1 265 = .ok (.iaload, 1) := by decide +kernel
theorem d_LW_law_266 : decode M_LW_law.2.1 266 = .ok (.aload_n 0, 1) := by decide +kernel
theorem d_LW_law_267 : decode M_LW_law.2.1 267 = .ok (.iload_n 3, 1) := by decide +kernel
theorem d_LW_law_268 : decode M_LW_law.2.1 268 = .ok (.iconst 2, 1) := by decide +kernel
theorem d_LW_law_269 : decode M_LW_law.2.1 269 = .ok (.iadd, 1) := by decide +kernel
theorem d_LW_law_270 : decode M_LW_law.2.1 270 = .ok (.iaload, 1) := by decide +kernel
theorem d_LW_law_271 : decode M_LW_law.2.1 271 = .ok (.invokevirtual 28, 3) := by decide +kernel
theorem d_LW_law_274 : decode M_LW_law.2.1 274 = .ok (.if_icmp .eq 752, 3) := by decide +kernel
theorem d_LW_law_277 : decode M_LW_law.2.1 277 = .ok (.iconst 0, 1) := by decide +kernel
theorem d_LW_law_278 : decode M_LW_law.2.1 278 = .ok (.ireturn, 1) := by decide +kernel
theorem d_LW_law_279 : decode M_LW_law.2.1 279 = .ok (.aload_n 1, 1) := by decide +kernel
theorem d_LW_law_280 : decode M_LW_law.2.1 280 = .ok (.aload_n 0, 1) := by decide +kernel
theorem d_LW_law_281 : decode M_LW_law.2.1 281 = .ok (.iload_n 3, 1) := by decide +kernel
theorem d_LW_law_282 : decode M_LW_law.2.1 282 = .ok (.iconst 1, 1) := by decide +kernel
theorem d_LW_law_283 : decode M_LW_law.2.1 283 = .ok (.iadd, 1) := by decide +kernel
theorem d_LW_law_284 : decode M_LW_law.2.1 284 = .ok (.iaload, 1) := by decide +kernel
theorem d_LW_law_285 : decode M_LW_law.2.1 285 = .ok (.invokevirtual 29, 3) := by decide +kernel
theorem d_LW_law_288 : decode M_LW_law.2.1 288 = .ok (.aload_n 2, 1) := by decide +kernel
theorem d_LW_law_289 : decode M_LW_law.2.1 289 = .ok (.aload_n 0, 1) := by decide +kernel
theorem d_LW_law_290 : decode M_LW_law.2.1 290 = .ok (.iload_n 3, 1) := by decide +kernel
theorem d_LW_law_291 : decode M_LW_law.2.1 291 = .ok (.iconst 1, 1) := by decide +kernel
theorem d_LW_law_292 : decode M_LW_law.2.1 292 = .ok (.iadd, 1) := by decide +kernel
theorem d_LW_law_293 : decode M_LW_law.2.1 293 = .ok (.iaload, 1) := by decide +kernel
