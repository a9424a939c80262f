theorem dX7_init_156 : decode cX7_init 156 = .ok (.bipush 17, 2) := by decide +kernel
theorem dX7_init_158 : decode cX7_init 158 = .ok (.bipush 118, 2) := by decide +kernel
theorem dX7_init_160 : decode cX7_init 160 = .ok (.iastore, 1) := by decide +kernel
theorem dX7_init_161 : decode cX7_init 161 = .ok (.dup, 1) := by decide +kernel
theorem dX7_init_162 : decode cX7_init 162 = .ok (.bipush 18, 2) := by decide +kernel
theorem dX7_init_164 : decode cX7_init 164 = .ok (.bipush 101, 2) := by decide +kernel
theorem dX7_init_166 : decode cX7_init 166 = .ok (.iastore, 1) := by decide +kernel
theorem dX7_init_167 : decode cX7_init 167 = .ok (.dup, 1) := by decide +kernel
theorem dX7_init_168 : decode cX7_init 168 = .ok (.bipush 19, 2) := by decide +kernel
theorem dX7_init_170 : decode cX7_init 170 = .ok (.bipush 114, 2) := by decide +kernel
theorem dX7_init_172 : decode cX7_init 172 = .ok (.iastore, 1) := by decide +kernel
theorem dX7_init_173 : decode cX7_init 173 = .ok (.dup, 1) := by decide +kernel
theorem dX7_init_174 : decode cX7_init 174 = .ok (.bipush 20, 2) := by decide +kernel
theorem dX7_init_176 : decode cX7_init 176 = .ok (.bipush 98, 2) := by decide +kernel
theorem dX7_init_178 : decode cX7_init 178 = .ok (.iastore, 1) := by decide +kernel
theorem dX7_init_179 : decode cX7_init 179 = .ok (.dup, 1) := by decide +kernel
theorem dX7_init_180 : decode cX7_init 180 = .ok (.bipush 21, 2) := by decide +kernel
theorem dX7_init_182 : decode cX7_init 182 = .ok (.bipush 97, 2) := by decide +kernel
theorem dX7_init_184 : decode cX7_init 184 = .ok (.iastore, 1) := by decide +kernel
theorem dX7_init_185 : decode cX7_init 185 = .ok (.dup, 1) := by decide +kernel
theorem dX7_init_186 : decode cX7_init 186 = .ok (.bipush 22, 2) := by decide +kernel
theorem dX7_init_188 : decode cX7_init 188 = .ok (.bipush 99, 2) := by decide +kernel
theorem dX7_init_190 : decode cX7_init 190 = .ok (.iastore, 1) := by decide +kernel
theorem dX7_init_191 : decode cX7_init 191 = .ok (.dup, 1) := by decide +kernel
theorem dX7_init_192 : decode cX7_init 192 = .ok (.bipush 23, 2) := by decide +kernel
theorem dX7_init_194 : decode cX7_init 194 = .ok (.bipush 107, 2) := by decide +kernel
theorem dX7_init_196 : decode cX7_init 196 = .ok (.iastore, 1) := by decide +kernel
theorem dX7_init_197 : decode cX7_init 197 = .ok (.dup, 1) := by decide +kernel
theorem dX7_init_198 : decode cX7_init 198 = .ok (.bipush 24, 2) := by decide +kernel
theorem dX7_init_200 : decode cX7_init 200 = .ok (.bipush 116, 2) := by decide +kernel
theorem dX7_init_202 : decode cX7_init 202 = .ok (.iastore, 1) := by decide +kernel
theorem dX7_init_203 : decode cX7_init 203 = .ok (.dup, 1) := by decide +kernel
theorem dX7_init_204 : decode cX7_init 204 = .ok (.bipush 25, 2) := by decide +kernel
theorem dX7_init_206 : decode cX7_init 206 = .ok (.bipush 111, 2) := by decide +kernel
theorem dX7_init_208 : decode cX7_init 208 = .ok (.iastore, 1) := by decide +kernel
theorem dX7_init_209 : decode cX7_init 209 = .ok (.dup, 1) := by decide +kernel
theorem dX7_init_210 : decode cX7_init 210 = .ok (.bipush 26, 2) := by decide +kernel
theorem dX7_init_212 : decode cX7_init 212 = .ok (.bipush 112, 2) := by decide +kernel
theorem dX7_init_214 : decode cX7_init 214 = .ok (.iastore, 1) := by decide +kernel
theorem dX7_init_215 : decode cX7_init 215 = .ok (.dup, 1) := by decide +kernel
theorem dX7_init_216 : decode cX7_init 216 = .ok (.bipush 27, 2) := by decide +kernel
theorem dX7_init_218 : decode cX7_init 218 = .ok (.iconst 0, 1) := by decide +kernel
theorem dX7_init_219 : decode cX7_init 219 = .ok (.iastore, 1) := by decide +kernel
theorem dX7_init_220 : decode cX7_init 220 = .ok (.putfield 21, 3) := by decide +kernel
theorem dX7_init_223 : decode cX7_init 223 = .ok (.aload_n 0, 1) := by decide +kernel
theorem dX7_init_224 : decode cX7_init 224 = .ok (.bipush 7, 2) := by decide +kernel
theorem dX7_init_226 : decode cX7_init 226 = .ok (.newarray .int, 2) := by decide +kernel
theorem dX7_init_228 : decode cX7_init 228 = .ok (.dup, 1) := by decide +kernel
theorem dX7_init_229 : decode cX7_init 229 = .ok (.iconst 0, 1) := by decide +kernel
theorem dX7_init_230 : decode cX7_init 230 = .ok (.iconst 4, 1) := by decide +kernel
theorem dX7_init_231 : decode cX7_init 231 = .ok (.iastore, 1) := by decide +kernel
theorem dX7_init_232 : decode cX7_init 232 = .ok (.dup, 1) := by decide +kernel
theorem dX7_init_233 : decode cX7_init 233 = .ok (.iconst 1, 1) := by decide +kernel
theorem dX7_init_234 : decode cX7_init 234 = .ok (.iconst 1, 1) := by decide +kernel
theorem dX7_init_235 : decode cX7_init 235 = .ok (.iastore, 1) := by decide +kernel
theorem dX7_init_236 : decode cX7_init 236 = .ok (.dup, 1) := by decide +kernel
theorem dX7_init_237 : decode cX7_init 237 = .ok (.iconst 2, 1) := by decide +kernel
theorem dX7_init_238 : decode cX7_init 238 = .ok (.iconst 0, 1) := by decide +kernel
theorem dX7_init_239 : decode cX7_init 239 = .ok (.iastore, 1) := by decide +kernel
theorem dX7_init_240 : decode cX7_init 240 = .ok (.dup, 1) := by decide +kernel
theorem dX7_init_241 : decode cX7_init 241 = .ok (.iconst 3, 1) := by decide +kernel
theorem dX7_init_242 : decode cX7_init 242 = .ok (.iconst 0, 1) := by decide +kernel
theorem dX7_init_243 : decode cX7_init 243 = .ok (.iastore, 1) := by decide +kernel
theorem dX7_init_244 : decode cX7_init 244 = .ok (.dup, 1) := by decide +kernel
theorem dX7_init_245 : decode cX7_init 245 = .ok (.iconst 4, 1) := by decide +kernel
theorem dX7_init_246 : decode cX7_init 246 = .ok (.bipush 100, 2) := by decide +kernel
theorem dX7_init_248 : decode cX7_init 248 = .ok (.iastore, 1) := by decide +kernel
theorem dX7_init_249 : decode cX7_init 249 = .ok (.dup, 1) := by decide +kernel
theorem dX7_init_250 : decode cX7_init 250 = .ok (.iconst 5, 1) := by decide +kernel
theorem dX7_init_251 : decode cX7_init 251 = .ok (.bipush 50, 2) := by decide +kernel
theorem dX7_init_253 : decode cX7_init 253 = .ok (.iastore, 1) := by decide +kernel
theorem dX7_init_254 : decode cX7_init 254 = .ok (.dup, 1) := by decide +kernel
theorem dX7_init_255 : decode cX7_init 255 = .ok (.bipush 6, 2) := by decide +kernel
theorem dX7_init_257 : decode cX7_init 257 = .ok (.bipush 100, 2) := by decide +kernel
theorem dX7_init_259 : decode cX7_init 259 = .ok (.iastore, 1) := by decide +kernel
theorem dX7_init_260 : decode cX7_init 260 = .ok (.putfield 24, 3) := by decide +kernel
theorem dX7_init_263 : decode cX7_init 263 = .ok (.aload_n 0, 1) := by decide +kernel
theorem dX7_init_264 : decode cX7_init 264 = .ok (.bipush 7, 2) := by decide +kernel
theorem dX7_init_266 : decode cX7_init 266 = .ok (.newarray .int, 2) := by decide +kernel
theorem dX7_init_268 : decode cX7_init 268 = .ok (.dup, 1) := by decide +kernel
theorem dX7_init_269 : decode cX7_init 269 = .ok (.iconst 0, 1) := by decide +kernel
theorem dX7_init_270 : decode cX7_init 270 = .ok (.sipush 200, 3) := by decide +kernel
theorem dX7_init_273 : decode cX7_init 273 = .ok (.iastore, 1) := by decide +kernel
theorem dX7_init_274 : decode cX7_init 274 = .ok (.dup, 1) := by decide +kernel
theorem dX7_init_275 : decode cX7_init 275 = .ok (.iconst 1, 1) := by decide +kernel
theorem dX7_init_276 : decode cX7_init 276 = .ok (.bipush 50, 2) := by decide +kernel
theorem dX7_init_278 : decode cX7_init 278 = .ok (.iastore, 1) := by decide +kernel
theorem dX7_init_279 : decode cX7_init 279 = .ok (.dup, 1) := by decide +kernel
theorem dX7_init_280 : decode cX7_init 280 = .ok (.iconst 2, 1) := by decide +kernel
theorem dX7_init_281 : decode cX7_init 281 = .ok (.sipush 2000, 3) := by decide +kernel
theorem dX7_init_284 : decode cX7_init 284 = .ok (.iastore, 1) := by decide +kernel
theorem dX7_init_285 : decode cX7_init 285 = .ok (.dup, 1) := by decide +kernel
theorem dX7_init_286 : decode cX7_init 286 = .ok (.iconst 3, 1) := by decide +kernel
theorem dX7_init_287 : decode cX7_init 287 = .ok (.sipush 2000, 3) := by decide +kernel
theorem dX7_init_290 : decode cX7_init 290 = .ok (.iastore, 1) := by decide +kernel
theorem dX7_init_291 : decode cX7_init 291 = .ok (.dup, 1) := by decide +kernel
theorem dX7_init_292 : decode cX7_init 292 = .ok (.iconst 4, 1) := by decide +kernel
theorem dX7_init_293 : decode cX7_init 293 = .ok (.sipush 9999, 3) := by decide +kernel
theorem dX7_init_296 : decode cX7_init 296 = .ok (.iastore, 1) := by decide +kernel
theorem dX7_init_297 : decode cX7_init 297 = .ok (.dup, 1) := by decide +kernel
theorem dX7_init_298 : decode cX7_init 298 = .ok (.iconst 5, 1) := by decide +kernel
theorem dX7_init_299 : decode cX7_init 299 = .ok (.sipush 9999, 3) := by decide +kernel
theorem dX7_init_302 : decode cX7_init 302 = .ok (.iastore, 1) := by decide +kernel
theorem dX7_init_303 : decode cX7_init 303 = .ok (.dup, 1) := by decide +kernel
theorem dX7_init_304 : decode cX7_init 304 = .ok (.bipush 6, 2) := by decide +kernel
theorem dX7_init_306 : decode cX7_init 306 = .ok (.sipush 20000, 3) := by decide +kernel
theorem dX7_init_309 : decode cX7_init 309 = .ok (.iastore, 1) := by decide +kernel
theorem dX7_init_310 : decode cX7_init 310 = .ok (.putfield 27, 3) := by decide +kernel
theorem dX7_init_313 : decode cX7_init 313 = .ok (.aload_n 0, 1) := by decide +kernel
theorem dX7_init_314 : decode cX7_init 314 = .ok (.sipush 275, 3) := by decide +kernel
