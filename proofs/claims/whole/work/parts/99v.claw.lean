/-! the law's code -/
def lX (G : xG) (b N : Nat) (xs : Nat → Int32) : Array Value → State → Prop := fun a s => va_X b N xs s s.heap ∧ b < s.heap.size ∧ b < G.2.2.1 ∧ a = #[.ref b] ∧ s.heap.size = G.2.2.1
def x_sld (b N : Nat) (xs : Nat → Int32) (k : xK) : xK := fun lv st S => match st with
  | .int i :: .ref a :: r => a = b ∧ vp_in i N ∧ k lv (.int (xs i.toNatClampNeg) :: r) S
  | _ => False
def x_slen (b N : Nat) (_ : Nat → Int32) (k : xK) : xK := fun lv st S => match st with
  | .ref a :: r => a = b ∧ k lv (.int (Int32.ofNat N) :: r) S
  | _ => False
theorem xo_sld {G : xG} {l : Launch} {M : xMd} {P : xP} {pc b N : Nat} {xs : Nat → Int32} {k : xK} (hd : decode M.1 pc = .ok (.iaload, 1)) (h : xW G l M (lX G b N xs) P (pc + 1) k) : xW G l M (lX G b N xs) P pc (x_sld b N xs k) := by
  intro p e s m args below meth c C lv st S H locs cells slots ls hK hl hR hS hc hs
  unfold x_sld at hK
  split at hK
  · rename_i i a r
    obtain ⟨rfl, hin, hK⟩ := hK
    obtain ⟨hX, hbl, hbA, -⟩ := C.2.2.2.2.2.2.2.2.2.1
    exact va_sld C.1 C.2.1 hX hbl (Nat.not_le.mpr hbA) hS hin hd (h p e s m args below meth c C _ _ S H locs cells slots ls hK hl hR hS hc hs)
  · exact hK.elim
theorem xo_slen {G : xG} {l : Launch} {M : xMd} {P : xP} {pc b N : Nat} {xs : Nat → Int32} {k : xK} (hd : decode M.1 pc = .ok (.arraylength, 1)) (h : xW G l M (lX G b N xs) P (pc + 1) k) : xW G l M (lX G b N xs) P pc (x_slen b N xs k) := by
  intro p e s m args below meth c C lv st S H locs cells slots ls hK hl hR hS hc hs
  unfold x_slen at hK
  split at hK
  · rename_i a r
    obtain ⟨rfl, hK⟩ := hK
    obtain ⟨hX, hbl, hbA, -⟩ := C.2.2.2.2.2.2.2.2.2.1
    exact va_slen C.1 C.2.1 hX hbl (Nat.not_le.mpr hbA) hS hd (h p e s m args below meth c C _ _ S H locs cells slots ls hK hl hR hS hc hs)
  · exact hK.elim
theorem dL_law_0 : decode cL_law 0 = .ok (.new 7, 3) := by decide +kernel
theorem dL_law_3 : decode cL_law 3 = .ok (.dup, 1) := by decide +kernel
theorem dL_law_4 : decode cL_law 4 = .ok (.invokespecial 9, 3) := by decide +kernel
theorem dL_law_7 : decode cL_law 7 = .ok (.astore_n 1, 1) := by decide +kernel
theorem dL_law_8 : decode cL_law 8 = .ok (.new 10, 3) := by decide +kernel
theorem dL_law_11 : decode cL_law 11 = .ok (.dup, 1) := by decide +kernel
theorem dL_law_12 : decode cL_law 12 = .ok (.invokespecial 12, 3) := by decide +kernel
theorem dL_law_15 : decode cL_law 15 = .ok (.astore_n 2, 1) := by decide +kernel
theorem dL_law_16 : decode cL_law 16 = .ok (.iconst 0, 1) := by decide +kernel
theorem dL_law_17 : decode cL_law 17 = .ok (.istore_n 3, 1) := by decide +kernel
theorem dL_law_18 : decode cL_law 18 = .ok (.iload_n 3, 1) := by decide +kernel
theorem dL_law_19 : decode cL_law 19 = .ok (.aload_n 0, 1) := by decide +kernel
theorem dL_law_20 : decode cL_law 20 = .ok (.arraylength, 1) := by decide +kernel
theorem dL_law_21 : decode cL_law 21 = .ok (.bipush 6, 2) := by decide +kernel
theorem dL_law_23 : decode cL_law 23 = .ok (.isub, 1) := by decide +kernel
theorem dL_law_24 : decode cL_law 24 = .ok (.if_icmp .gt 831, 3) := by decide +kernel
theorem dL_law_27 : decode cL_law 27 = .ok (.aload_n 0, 1) := by decide +kernel
theorem dL_law_28 : decode cL_law 28 = .ok (.iload_n 3, 1) := by decide +kernel
theorem dL_law_29 : decode cL_law 29 = .ok (.iaload, 1) := by decide +kernel
theorem dL_law_30 : decode cL_law 30 = .ok (.bipush 31, 2) := by decide +kernel
theorem dL_law_32 : decode cL_law 32 = .ok (.iand, 1) := by decide +kernel
theorem dL_law_33 : decode cL_law 33 = .ok (.tableswitch 816 0 20 #[99, 162, 185, 198, 291, 324, 357, 400, 443, 476, 489, 502, 526, 550, 573, 607, 640, 703, 746, 779, 803], 99) := by decide +kernel
theorem dL_law_132 : decode cL_law 132 = .ok (.aload_n 1, 1) := by decide +kernel
theorem dL_law_133 : decode cL_law 133 = .ok (.aload_n 0, 1) := by decide +kernel
theorem dL_law_134 : decode cL_law 134 = .ok (.iload_n 3, 1) := by decide +kernel
theorem dL_law_135 : decode cL_law 135 = .ok (.iconst 1, 1) := by decide +kernel
theorem dL_law_136 : decode cL_law 136 = .ok (.iadd, 1) := by decide +kernel
theorem dL_law_137 : decode cL_law 137 = .ok (.iaload, 1) := by decide +kernel
theorem dL_law_138 : decode cL_law 138 = .ok (.aload_n 0, 1) := by decide +kernel
theorem dL_law_139 : decode cL_law 139 = .ok (.iload_n 3, 1) := by decide +kernel
theorem dL_law_140 : decode cL_law 140 = .ok (.iconst 2, 1) := by decide +kernel
theorem dL_law_141 : decode cL_law 141 = .ok (.iadd, 1) := by decide +kernel
theorem dL_law_142 : decode cL_law 142 = .ok (.iaload, 1) := by decide +kernel
theorem dL_law_143 : decode cL_law 143 = .ok (.aload_n 0, 1) := by decide +kernel
theorem dL_law_144 : decode cL_law 144 = .ok (.iload_n 3, 1) := by decide +kernel
theorem dL_law_145 : decode cL_law 145 = .ok (.iconst 3, 1) := by decide +kernel
theorem dL_law_146 : decode cL_law 146 = .ok (.iadd, 1) := by decide +kernel
theorem dL_law_147 : decode cL_law 147 = .ok (.iaload, 1) := by decide +kernel
theorem dL_law_148 : decode cL_law 148 = .ok (.aload_n 0, 1) := by decide +kernel
theorem dL_law_149 : decode cL_law 149 = .ok (.iload_n 3, 1) := by decide +kernel
theorem dL_law_150 : decode cL_law 150 = .ok (.iconst 4, 1) := by decide +kernel
theorem dL_law_151 : decode cL_law 151 = .ok (.iadd, 1) := by decide +kernel
theorem dL_law_152 : decode cL_law 152 = .ok (.iaload, 1) := by decide +kernel
theorem dL_law_153 : decode cL_law 153 = .ok (.aload_n 0, 1) := by decide +kernel
theorem dL_law_154 : decode cL_law 154 = .ok (.iload_n 3, 1) := by decide +kernel
theorem dL_law_155 : decode cL_law 155 = .ok (.iconst 5, 1) := by decide +kernel
theorem dL_law_156 : decode cL_law 156 = .ok (.iadd, 1) := by decide +kernel
theorem dL_law_157 : decode cL_law 157 = .ok (.iaload, 1) := by decide +kernel
theorem dL_law_158 : decode cL_law 158 = .ok (.invokevirtual 13, 3) := by decide +kernel
theorem dL_law_161 : decode cL_law 161 = .ok (.aload_n 2, 1) := by decide +kernel
theorem dL_law_162 : decode cL_law 162 = .ok (.aload_n 0, 1) := by decide +kernel
theorem dL_law_163 : decode cL_law 163 = .ok (.iload_n 3, 1) := by decide +kernel
theorem dL_law_164 : decode cL_law 164 = .ok (.iconst 1, 1) := by decide +kernel
theorem dL_law_165 : decode cL_law 165 = .ok (.iadd, 1) := by decide +kernel
theorem dL_law_166 : decode cL_law 166 = .ok (.iaload, 1) := by decide +kernel
theorem dL_law_167 : decode cL_law 167 = .ok (.aload_n 0, 1) := by decide +kernel
theorem dL_law_168 : decode cL_law 168 = .ok (.iload_n 3, 1) := by decide +kernel
theorem dL_law_169 : decode cL_law 169 = .ok (.iconst 2, 1) := by decide +kernel
theorem dL_law_170 : decode cL_law 170 = .ok (.iadd, 1) := by decide +kernel
theorem dL_law_171 : decode cL_law 171 = .ok (.iaload, 1) := by decide +kernel
theorem dL_law_172 : decode cL_law 172 = .ok (.aload_n 0, 1) := by decide +kernel
theorem dL_law_173 : decode cL_law 173 = .ok (.iload_n 3, 1) := by decide +kernel
theorem dL_law_174 : decode cL_law 174 = .ok (.iconst 3, 1) := by decide +kernel
theorem dL_law_175 : decode cL_law 175 = .ok (.iadd, 1) := by decide +kernel
theorem dL_law_176 : decode cL_law 176 = .ok (.iaload, 1) := by decide +kernel
theorem dL_law_177 : decode cL_law 177 = .ok (.aload_n 0, 1) := by decide +kernel
theorem dL_law_178 : decode cL_law 178 = .ok (.iload_n 3, 1) := by decide +kernel
theorem dL_law_179 : decode cL_law 179 = .ok (.iconst 4, 1) := by decide +kernel
theorem dL_law_180 : decode cL_law 180 = .ok (.iadd, 1) := by decide +kernel
theorem dL_law_181 : decode cL_law 181 = .ok (.iaload, 1) := by decide +kernel
theorem dL_law_182 : decode cL_law 182 = .ok (.aload_n 0, 1) := by decide +kernel
theorem dL_law_183 : decode cL_law 183 = .ok (.iload_n 3, 1) := by decide +kernel
theorem dL_law_184 : decode cL_law 184 = .ok (.iconst 5, 1) := by decide +kernel
theorem dL_law_185 : decode cL_law 185 = .ok (.iadd, 1) := by decide +kernel
theorem dL_law_186 : decode cL_law 186 = .ok (.iaload, 1) := by decide +kernel
theorem dL_law_187 : decode cL_law 187 = .ok (.invokevirtual 17, 3) := by decide +kernel
theorem dL_law_190 : decode cL_law 190 = .ok (.if_icmp .eq 659, 3) := by decide +kernel
theorem dL_law_193 : decode cL_law 193 = .ok (.iconst 0, 1) := by decide +kernel
theorem dL_law_194 : decode cL_law 194 = .ok (.ireturn, 1) := by decide +kernel
theorem dL_law_195 : decode cL_law 195 = .ok (.aload_n 1, 1) := by decide +kernel
theorem dL_law_196 : decode cL_law 196 = .ok (.aload_n 0, 1) := by decide +kernel
theorem dL_law_197 : decode cL_law 197 = .ok (.iload_n 3, 1) := by decide +kernel
theorem dL_law_198 : decode cL_law 198 = .ok (.iconst 1, 1) := by decide +kernel
theorem dL_law_199 : decode cL_law 199 = .ok (.iadd, 1) := by decide +kernel
theorem dL_law_200 : decode cL_law 200 = .ok (.iaload, 1) := by decide +kernel
theorem dL_law_201 : decode cL_law 201 = .ok (.invokevirtual 18, 3) := by decide +kernel
theorem dL_law_204 : decode cL_law 204 = .ok (.aload_n 2, 1) := by decide +kernel
theorem dL_law_205 : decode cL_law 205 = .ok (.aload_n 0, 1) := by decide +kernel
theorem dL_law_206 : decode cL_law 206 = .ok (.iload_n 3, 1) := by decide +kernel
theorem dL_law_207 : decode cL_law 207 = .ok (.iconst 1, 1) := by decide +kernel
theorem dL_law_208 : decode cL_law 208 = .ok (.iadd, 1) := by decide +kernel
theorem dL_law_209 : decode cL_law 209 = .ok (.iaload, 1) := by decide +kernel
theorem dL_law_210 : decode cL_law 210 = .ok (.invokevirtual 22, 3) := by decide +kernel
theorem dL_law_213 : decode cL_law 213 = .ok (.if_icmp .eq 636, 3) := by decide +kernel
theorem dL_law_216 : decode cL_law 216 = .ok (.iconst 0, 1) := by decide +kernel
theorem dL_law_217 : decode cL_law 217 = .ok (.ireturn, 1) := by decide +kernel
theorem dL_law_218 : decode cL_law 218 = .ok (.aload_n 1, 1) := by decide +kernel
theorem dL_law_219 : decode cL_law 219 = .ok (.invokevirtual 23, 3) := by decide +kernel
theorem dL_law_222 : decode cL_law 222 = .ok (.aload_n 2, 1) := by decide +kernel
theorem dL_law_223 : decode cL_law 223 = .ok (.invokevirtual 27, 3) := by decide +kernel
theorem dL_law_226 : decode cL_law 226 = .ok (.if_icmp .eq 623, 3) := by decide +kernel
theorem dL_law_229 : decode cL_law 229 = .ok (.iconst 0, 1) := by decide +kernel
theorem dL_law_230 : decode cL_law 230 = .ok (.ireturn, 1) := by decide +kernel
theorem dL_law_231 : decode cL_law 231 = .ok (.aload_n 1, 1) := by decide +kernel
theorem dL_law_232 : decode cL_law 232 = .ok (.aload_n 0, 1) := by decide +kernel
theorem dL_law_233 : decode cL_law 233 = .ok (.iload_n 3, 1) := by decide +kernel
theorem dL_law_234 : decode cL_law 234 = .ok (.iconst 1, 1) := by decide +kernel
theorem dL_law_235 : decode cL_law 235 = .ok (.iadd, 1) := by decide +kernel
theorem dL_law_236 : decode cL_law 236 = .ok (.iaload, 1) := by decide +kernel
theorem dL_law_237 : decode cL_law 237 = .ok (.i2l, 1) := by decide +kernel
theorem dL_law_238 : decode cL_law 238 = .ok (.bipush 32, 2) := by decide +kernel
theorem dL_law_240 : decode cL_law 240 = .ok (.lshl, 1) := by decide +kernel
theorem dL_law_241 : decode cL_law 241 = .ok (.aload_n 0, 1) := by decide +kernel
theorem dL_law_242 : decode cL_law 242 = .ok (.iload_n 3, 1) := by decide +kernel
theorem dL_law_243 : decode cL_law 243 = .ok (.iconst 2, 1) := by decide +kernel
theorem dL_law_244 : decode cL_law 244 = .ok (.iadd, 1) := by decide +kernel
theorem dL_law_245 : decode cL_law 245 = .ok (.iaload, 1) := by decide +kernel
theorem dL_law_246 : decode cL_law 246 = .ok (.i2l, 1) := by decide +kernel
theorem dL_law_247 : decode cL_law 247 = .ok (.ldc2_w 28, 3) := by decide +kernel
theorem dL_law_250 : decode cL_law 250 = .ok (.land, 1) := by decide +kernel
theorem dL_law_251 : decode cL_law 251 = .ok (.lor, 1) := by decide +kernel
theorem dL_law_252 : decode cL_law 252 = .ok (.aload_n 0, 1) := by decide +kernel
theorem dL_law_253 : decode cL_law 253 = .ok (.iload_n 3, 1) := by decide +kernel
theorem dL_law_254 : decode cL_law 254 = .ok (.iconst 3, 1) := by decide +kernel
theorem dL_law_255 : decode cL_law 255 = .ok (.iadd, 1) := by decide +kernel
theorem dL_law_256 : decode cL_law 256 = .ok (.iaload, 1) := by decide +kernel
theorem dL_law_257 : decode cL_law 257 = .ok (.i2l, 1) := by decide +kernel
theorem dL_law_258 : decode cL_law 258 = .ok (.bipush 32, 2) := by decide +kernel
theorem dL_law_260 : decode cL_law 260 = .ok (.lshl, 1) := by decide +kernel
theorem dL_law_261 : decode cL_law 261 = .ok (.aload_n 0, 1) := by decide +kernel
theorem dL_law_262 : decode cL_law 262 = .ok (.iload_n 3, 1) := by decide +kernel
theorem dL_law_263 : decode cL_law 263 = .ok (.iconst 4, 1) := by decide +kernel
theorem dL_law_264 : decode cL_law 264 = .ok (.iadd, 1) := by decide +kernel
theorem dL_law_265 : decode cL_law 265 = .ok (.iaload, 1) := by decide +kernel
theorem dL_law_266 : decode cL_law 266 = .ok (.i2l, 1) := by decide +kernel
theorem dL_law_267 : decode cL_law 267 = .ok (.ldc2_w 28, 3) := by decide +kernel
theorem dL_law_270 : decode cL_law 270 = .ok (.land, 1) := by decide +kernel
theorem dL_law_271 : decode cL_law 271 = .ok (.lor, 1) := by decide +kernel
theorem dL_law_272 : decode cL_law 272 = .ok (.invokevirtual 30, 3) := by decide +kernel
theorem dL_law_275 : decode cL_law 275 = .ok (.aload_n 2, 1) := by decide +kernel
theorem dL_law_276 : decode cL_law 276 = .ok (.aload_n 0, 1) := by decide +kernel
theorem dL_law_277 : decode cL_law 277 = .ok (.iload_n 3, 1) := by decide +kernel
theorem dL_law_278 : decode cL_law 278 = .ok (.iconst 1, 1) := by decide +kernel
theorem dL_law_279 : decode cL_law 279 = .ok (.iadd, 1) := by decide +kernel
theorem dL_law_280 : decode cL_law 280 = .ok (.iaload, 1) := by decide +kernel
theorem dL_law_281 : decode cL_law 281 = .ok (.i2l, 1) := by decide +kernel
theorem dL_law_282 : decode cL_law 282 = .ok (.bipush 32, 2) := by decide +kernel
theorem dL_law_284 : decode cL_law 284 = .ok (.lshl, 1) := by decide +kernel
theorem dL_law_285 : decode cL_law 285 = .ok (.aload_n 0, 1) := by decide +kernel
theorem dL_law_286 : decode cL_law 286 = .ok (.iload_n 3, 1) := by decide +kernel
theorem dL_law_287 : decode cL_law 287 = .ok (.iconst 2, 1) := by decide +kernel
theorem dL_law_288 : decode cL_law 288 = .ok (.iadd, 1) := by decide +kernel
theorem dL_law_289 : decode cL_law 289 = .ok (.iaload, 1) := by decide +kernel
theorem dL_law_290 : decode cL_law 290 = .ok (.i2l, 1) := by decide +kernel
theorem dL_law_291 : decode cL_law 291 = .ok (.ldc2_w 28, 3) := by decide +kernel
theorem dL_law_294 : decode cL_law 294 = .ok (.land, 1) := by decide +kernel
theorem dL_law_295 : decode cL_law 295 = .ok (.lor, 1) := by decide +kernel
theorem dL_law_296 : decode cL_law 296 = .ok (.aload_n 0, 1) := by decide +kernel
theorem dL_law_297 : decode cL_law 297 = .ok (.iload_n 3, 1) := by decide +kernel
theorem dL_law_298 : decode cL_law 298 = .ok (.iconst 3, 1) := by decide +kernel
theorem dL_law_299 : decode cL_law 299 = .ok (.iadd, 1) := by decide +kernel
theorem dL_law_300 : decode cL_law 300 = .ok (.iaload, 1) := by decide +kernel
theorem dL_law_301 : decode cL_law 301 = .ok (.i2l, 1) := by decide +kernel
theorem dL_law_302 : decode cL_law 302 = .ok (.bipush 32, 2) := by decide +kernel
theorem dL_law_304 : decode cL_law 304 = .ok (.lshl, 1) := by decide +kernel
theorem dL_law_305 : decode cL_law 305 = .ok (.aload_n 0, 1) := by decide +kernel
theorem dL_law_306 : decode cL_law 306 = .ok (.iload_n 3, 1) := by decide +kernel
theorem dL_law_307 : decode cL_law 307 = .ok (.iconst 4, 1) := by decide +kernel
theorem dL_law_308 : decode cL_law 308 = .ok (.iadd, 1) := by decide +kernel
theorem dL_law_309 : decode cL_law 309 = .ok (.iaload, 1) := by decide +kernel
theorem dL_law_310 : decode cL_law 310 = .ok (.i2l, 1) := by decide +kernel
theorem dL_law_311 : decode cL_law 311 = .ok (.ldc2_w 28, 3) := by decide +kernel
theorem dL_law_314 : decode cL_law 314 = .ok (.land, 1) := by decide +kernel
theorem dL_law_315 : decode cL_law 315 = .ok (.lor, 1) := by decide +kernel
theorem dL_law_316 : decode cL_law 316 = .ok (.invokevirtual 34, 3) := by decide +kernel
theorem dL_law_319 : decode cL_law 319 = .ok (.if_icmp .eq 530, 3) := by decide +kernel
theorem dL_law_322 : decode cL_law 322 = .ok (.iconst 0, 1) := by decide +kernel
theorem dL_law_323 : decode cL_law 323 = .ok (.ireturn, 1) := by decide +kernel
theorem dL_law_324 : decode cL_law 324 = .ok (.aload_n 1, 1) := by decide +kernel
theorem dL_law_325 : decode cL_law 325 = .ok (.aload_n 0, 1) := by decide +kernel
theorem dL_law_326 : decode cL_law 326 = .ok (.iload_n 3, 1) := by decide +kernel
theorem dL_law_327 : decode cL_law 327 = .ok (.iconst 1, 1) := by decide +kernel
theorem dL_law_328 : decode cL_law 328 = .ok (.iadd, 1) := by decide +kernel
theorem dL_law_329 : decode cL_law 329 = .ok (.iaload, 1) := by decide +kernel
theorem dL_law_330 : decode cL_law 330 = .ok (.aload_n 0, 1) := by decide +kernel
theorem dL_law_331 : decode cL_law 331 = .ok (.iload_n 3, 1) := by decide +kernel
theorem dL_law_332 : decode cL_law 332 = .ok (.iconst 2, 1) := by decide +kernel
theorem dL_law_333 : decode cL_law 333 = .ok (.iadd, 1) := by decide +kernel
theorem dL_law_334 : decode cL_law 334 = .ok (.iaload, 1) := by decide +kernel
theorem dL_law_335 : decode cL_law 335 = .ok (.invokevirtual 35, 3) := by decide +kernel
theorem dL_law_338 : decode cL_law 338 = .ok (.aload_n 2, 1) := by decide +kernel
theorem dL_law_339 : decode cL_law 339 = .ok (.aload_n 0, 1) := by decide +kernel
theorem dL_law_340 : decode cL_law 340 = .ok (.iload_n 3, 1) := by decide +kernel
theorem dL_law_341 : decode cL_law 341 = .ok (.iconst 1, 1) := by decide +kernel
theorem dL_law_342 : decode cL_law 342 = .ok (.iadd, 1) := by decide +kernel
theorem dL_law_343 : decode cL_law 343 = .ok (.iaload, 1) := by decide +kernel
theorem dL_law_344 : decode cL_law 344 = .ok (.aload_n 0, 1) := by decide +kernel
theorem dL_law_345 : decode cL_law 345 = .ok (.iload_n 3, 1) := by decide +kernel
theorem dL_law_346 : decode cL_law 346 = .ok (.iconst 2, 1) := by decide +kernel
theorem dL_law_347 : decode cL_law 347 = .ok (.iadd, 1) := by decide +kernel
theorem dL_law_348 : decode cL_law 348 = .ok (.iaload, 1) := by decide +kernel
theorem dL_law_349 : decode cL_law 349 = .ok (.invokevirtual 39, 3) := by decide +kernel
theorem dL_law_352 : decode cL_law 352 = .ok (.if_icmp .eq 497, 3) := by decide +kernel
theorem dL_law_355 : decode cL_law 355 = .ok (.iconst 0, 1) := by decide +kernel
theorem dL_law_356 : decode cL_law 356 = .ok (.ireturn, 1) := by decide +kernel
theorem dL_law_357 : decode cL_law 357 = .ok (.aload_n 1, 1) := by decide +kernel
theorem dL_law_358 : decode cL_law 358 = .ok (.aload_n 0, 1) := by decide +kernel
theorem dL_law_359 : decode cL_law 359 = .ok (.iload_n 3, 1) := by decide +kernel
theorem dL_law_360 : decode cL_law 360 = .ok (.iconst 1, 1) := by decide +kernel
theorem dL_law_361 : decode cL_law 361 = .ok (.iadd, 1) := by decide +kernel
theorem dL_law_362 : decode cL_law 362 = .ok (.iaload, 1) := by decide +kernel
theorem dL_law_363 : decode cL_law 363 = .ok (.aload_n 0, 1) := by decide +kernel
theorem dL_law_364 : decode cL_law 364 = .ok (.iload_n 3, 1) := by decide +kernel
theorem dL_law_365 : decode cL_law 365 = .ok (.iconst 2, 1) := by decide +kernel
theorem dL_law_366 : decode cL_law 366 = .ok (.iadd, 1) := by decide +kernel
theorem dL_law_367 : decode cL_law 367 = .ok (.iaload, 1) := by decide +kernel
theorem dL_law_368 : decode cL_law 368 = .ok (.invokevirtual 40, 3) := by decide +kernel
theorem dL_law_371 : decode cL_law 371 = .ok (.aload_n 2, 1) := by decide +kernel
theorem dL_law_372 : decode cL_law 372 = .ok (.aload_n 0, 1) := by decide +kernel
theorem dL_law_373 : decode cL_law 373 = .ok (.iload_n 3, 1) := by decide +kernel
theorem dL_law_374 : decode cL_law 374 = .ok (.iconst 1, 1) := by decide +kernel
theorem dL_law_375 : decode cL_law 375 = .ok (.iadd, 1) := by decide +kernel
theorem dL_law_376 : decode cL_law 376 = .ok (.iaload, 1) := by decide +kernel
theorem dL_law_377 : decode cL_law 377 = .ok (.aload_n 0, 1) := by decide +kernel
theorem dL_law_378 : decode cL_law 378 = .ok (.iload_n 3, 1) := by decide +kernel
theorem dL_law_379 : decode cL_law 379 = .ok (.iconst 2, 1) := by decide +kernel
theorem dL_law_380 : decode cL_law 380 = .ok (.iadd, 1) := by decide +kernel
theorem dL_law_381 : decode cL_law 381 = .ok (.iaload, 1) := by decide +kernel
theorem dL_law_382 : decode cL_law 382 = .ok (.invokevirtual 43, 3) := by decide +kernel
theorem dL_law_385 : decode cL_law 385 = .ok (.if_icmp .eq 464, 3) := by decide +kernel
theorem dL_law_388 : decode cL_law 388 = .ok (.iconst 0, 1) := by decide +kernel
theorem dL_law_389 : decode cL_law 389 = .ok (.ireturn, 1) := by decide +kernel
theorem dL_law_390 : decode cL_law 390 = .ok (.aload_n 1, 1) := by decide +kernel
theorem dL_law_391 : decode cL_law 391 = .ok (.aload_n 0, 1) := by decide +kernel
theorem dL_law_392 : decode cL_law 392 = .ok (.iload_n 3, 1) := by decide +kernel
theorem dL_law_393 : decode cL_law 393 = .ok (.iconst 1, 1) := by decide +kernel
theorem dL_law_394 : decode cL_law 394 = .ok (.iadd, 1) := by decide +kernel
theorem dL_law_395 : decode cL_law 395 = .ok (.iaload, 1) := by decide +kernel
theorem dL_law_396 : decode cL_law 396 = .ok (.aload_n 0, 1) := by decide +kernel
theorem dL_law_397 : decode cL_law 397 = .ok (.iload_n 3, 1) := by decide +kernel
theorem dL_law_398 : decode cL_law 398 = .ok (.iconst 2, 1) := by decide +kernel
theorem dL_law_399 : decode cL_law 399 = .ok (.iadd, 1) := by decide +kernel
theorem dL_law_400 : decode cL_law 400 = .ok (.iaload, 1) := by decide +kernel
theorem dL_law_401 : decode cL_law 401 = .ok (.aload_n 0, 1) := by decide +kernel
theorem dL_law_402 : decode cL_law 402 = .ok (.iload_n 3, 1) := by decide +kernel
theorem dL_law_403 : decode cL_law 403 = .ok (.iconst 3, 1) := by decide +kernel
theorem dL_law_404 : decode cL_law 404 = .ok (.iadd, 1) := by decide +kernel
theorem dL_law_405 : decode cL_law 405 = .ok (.iaload, 1) := by decide +kernel
theorem dL_law_406 : decode cL_law 406 = .ok (.invokevirtual 44, 3) := by decide +kernel
theorem dL_law_409 : decode cL_law 409 = .ok (.aload_n 2, 1) := by decide +kernel
theorem dL_law_410 : decode cL_law 410 = .ok (.aload_n 0, 1) := by decide +kernel
theorem dL_law_411 : decode cL_law 411 = .ok (.iload_n 3, 1) := by decide +kernel
theorem dL_law_412 : decode cL_law 412 = .ok (.iconst 1, 1) := by decide +kernel
theorem dL_law_413 : decode cL_law 413 = .ok (.iadd, 1) := by decide +kernel
theorem dL_law_414 : decode cL_law 414 = .ok (.iaload, 1) := by decide +kernel
theorem dL_law_415 : decode cL_law 415 = .ok (.aload_n 0, 1) := by decide +kernel
theorem dL_law_416 : decode cL_law 416 = .ok (.iload_n 3, 1) := by decide +kernel
theorem dL_law_417 : decode cL_law 417 = .ok (.iconst 2, 1) := by decide +kernel
theorem dL_law_418 : decode cL_law 418 = .ok (.iadd, 1) := by decide +kernel
theorem dL_law_419 : decode cL_law 419 = .ok (.iaload, 1) := by decide +kernel
theorem dL_law_420 : decode cL_law 420 = .ok (.aload_n 0, 1) := by decide +kernel
theorem dL_law_421 : decode cL_law 421 = .ok (.iload_n 3, 1) := by decide +kernel
theorem dL_law_422 : decode cL_law 422 = .ok (.iconst 3, 1) := by decide +kernel
theorem dL_law_423 : decode cL_law 423 = .ok (.iadd, 1) := by decide +kernel
theorem dL_law_424 : decode cL_law 424 = .ok (.iaload, 1) := by decide +kernel
theorem dL_law_425 : decode cL_law 425 = .ok (.invokevirtual 48, 3) := by decide +kernel
theorem dL_law_428 : decode cL_law 428 = .ok (.if_icmp .eq 421, 3) := by decide +kernel
theorem dL_law_431 : decode cL_law 431 = .ok (.iconst 0, 1) := by decide +kernel
theorem dL_law_432 : decode cL_law 432 = .ok (.ireturn, 1) := by decide +kernel
theorem dL_law_433 : decode cL_law 433 = .ok (.aload_n 1, 1) := by decide +kernel
theorem dL_law_434 : decode cL_law 434 = .ok (.aload_n 0, 1) := by decide +kernel
theorem dL_law_435 : decode cL_law 435 = .ok (.iload_n 3, 1) := by decide +kernel
theorem dL_law_436 : decode cL_law 436 = .ok (.iconst 1, 1) := by decide +kernel
theorem dL_law_437 : decode cL_law 437 = .ok (.iadd, 1) := by decide +kernel
theorem dL_law_438 : decode cL_law 438 = .ok (.iaload, 1) := by decide +kernel
theorem dL_law_439 : decode cL_law 439 = .ok (.aload_n 0, 1) := by decide +kernel
theorem dL_law_440 : decode cL_law 440 = .ok (.iload_n 3, 1) := by decide +kernel
theorem dL_law_441 : decode cL_law 441 = .ok (.iconst 2, 1) := by decide +kernel
theorem dL_law_442 : decode cL_law 442 = .ok (.iadd, 1) := by decide +kernel
theorem dL_law_443 : decode cL_law 443 = .ok (.iaload, 1) := by decide +kernel
theorem dL_law_444 : decode cL_law 444 = .ok (.aload_n 0, 1) := by decide +kernel
theorem dL_law_445 : decode cL_law 445 = .ok (.iload_n 3, 1) := by decide +kernel
theorem dL_law_446 : decode cL_law 446 = .ok (.iconst 3, 1) := by decide +kernel
theorem dL_law_447 : decode cL_law 447 = .ok (.iadd, 1) := by decide +kernel
theorem dL_law_448 : decode cL_law 448 = .ok (.iaload, 1) := by decide +kernel
theorem dL_law_449 : decode cL_law 449 = .ok (.invokevirtual 49, 3) := by decide +kernel
theorem dL_law_452 : decode cL_law 452 = .ok (.aload_n 2, 1) := by decide +kernel
theorem dL_law_453 : decode cL_law 453 = .ok (.aload_n 0, 1) := by decide +kernel
theorem dL_law_454 : decode cL_law 454 = .ok (.iload_n 3, 1) := by decide +kernel
theorem dL_law_455 : decode cL_law 455 = .ok (.iconst 1, 1) := by decide +kernel
theorem dL_law_456 : decode cL_law 456 = .ok (.iadd, 1) := by decide +kernel
theorem dL_law_457 : decode cL_law 457 = .ok (.iaload, 1) := by decide +kernel
theorem dL_law_458 : decode cL_law 458 = .ok (.aload_n 0, 1) := by decide +kernel
theorem dL_law_459 : decode cL_law 459 = .ok (.iload_n 3, 1) := by decide +kernel
theorem dL_law_460 : decode cL_law 460 = .ok (.iconst 2, 1) := by decide +kernel
theorem dL_law_461 : decode cL_law 461 = .ok (.iadd, 1) := by decide +kernel
theorem dL_law_462 : decode cL_law 462 = .ok (.iaload, 1) := by decide +kernel
theorem dL_law_463 : decode cL_law 463 = .ok (.aload_n 0, 1) := by decide +kernel
theorem dL_law_464 : decode cL_law 464 = .ok (.iload_n 3, 1) := by decide +kernel
theorem dL_law_465 : decode cL_law 465 = .ok (.iconst 3, 1) := by decide +kernel
theorem dL_law_466 : decode cL_law 466 = .ok (.iadd, 1) := by decide +kernel
theorem dL_law_467 : decode cL_law 467 = .ok (.iaload, 1) := by decide +kernel
theorem dL_law_468 : decode cL_law 468 = .ok (.invokevirtual 52, 3) := by decide +kernel
theorem dL_law_471 : decode cL_law 471 = .ok (.if_icmp .eq 378, 3) := by decide +kernel
theorem dL_law_474 : decode cL_law 474 = .ok (.iconst 0, 1) := by decide +kernel
theorem dL_law_475 : decode cL_law 475 = .ok (.ireturn, 1) := by decide +kernel
theorem dL_law_476 : decode cL_law 476 = .ok (.aload_n 1, 1) := by decide +kernel
theorem dL_law_477 : decode cL_law 477 = .ok (.aload_n 0, 1) := by decide +kernel
theorem dL_law_478 : decode cL_law 478 = .ok (.iload_n 3, 1) := by decide +kernel
theorem dL_law_479 : decode cL_law 479 = .ok (.iconst 1, 1) := by decide +kernel
theorem dL_law_480 : decode cL_law 480 = .ok (.iadd, 1) := by decide +kernel
theorem dL_law_481 : decode cL_law 481 = .ok (.iaload, 1) := by decide +kernel
theorem dL_law_482 : decode cL_law 482 = .ok (.aload_n 0, 1) := by decide +kernel
theorem dL_law_483 : decode cL_law 483 = .ok (.iload_n 3, 1) := by decide +kernel
theorem dL_law_484 : decode cL_law 484 = .ok (.iconst 2, 1) := by decide +kernel
theorem dL_law_485 : decode cL_law 485 = .ok (.iadd, 1) := by decide +kernel
theorem dL_law_486 : decode cL_law 486 = .ok (.iaload, 1) := by decide +kernel
theorem dL_law_487 : decode cL_law 487 = .ok (.invokevirtual 53, 3) := by decide +kernel
theorem dL_law_490 : decode cL_law 490 = .ok (.aload_n 2, 1) := by decide +kernel
theorem dL_law_491 : decode cL_law 491 = .ok (.aload_n 0, 1) := by decide +kernel
theorem dL_law_492 : decode cL_law 492 = .ok (.iload_n 3, 1) := by decide +kernel
theorem dL_law_493 : decode cL_law 493 = .ok (.iconst 1, 1) := by decide +kernel
theorem dL_law_494 : decode cL_law 494 = .ok (.iadd, 1) := by decide +kernel
theorem dL_law_495 : decode cL_law 495 = .ok (.iaload, 1) := by decide +kernel
theorem dL_law_496 : decode cL_law 496 = .ok (.aload_n 0, 1) := by decide +kernel
theorem dL_law_497 : decode cL_law 497 = .ok (.iload_n 3, 1) := by decide +kernel
theorem dL_law_498 : decode cL_law 498 = .ok (.iconst 2, 1) := by decide +kernel
theorem dL_law_499 : decode cL_law 499 = .ok (.iadd, 1) := by decide +kernel
theorem dL_law_500 : decode cL_law 500 = .ok (.iaload, 1) := by decide +kernel
theorem dL_law_501 : decode cL_law 501 = .ok (.invokevirtual 56, 3) := by decide +kernel
theorem dL_law_504 : decode cL_law 504 = .ok (.if_icmp .eq 345, 3) := by decide +kernel
theorem dL_law_507 : decode cL_law 507 = .ok (.iconst 0, 1) := by decide +kernel
theorem dL_law_508 : decode cL_law 508 = .ok (.ireturn, 1) := by decide +kernel
theorem dL_law_509 : decode cL_law 509 = .ok (.aload_n 1, 1) := by decide +kernel
theorem dL_law_510 : decode cL_law 510 = .ok (.invokevirtual 57, 3) := by decide +kernel
theorem dL_law_513 : decode cL_law 513 = .ok (.aload_n 2, 1) := by decide +kernel
theorem dL_law_514 : decode cL_law 514 = .ok (.invokevirtual 60, 3) := by decide +kernel
theorem dL_law_517 : decode cL_law 517 = .ok (.if_icmp .eq 332, 3) := by decide +kernel
theorem dL_law_520 : decode cL_law 520 = .ok (.iconst 0, 1) := by decide +kernel
theorem dL_law_521 : decode cL_law 521 = .ok (.ireturn, 1) := by decide +kernel
theorem dL_law_522 : decode cL_law 522 = .ok (.aload_n 1, 1) := by decide +kernel
theorem dL_law_523 : decode cL_law 523 = .ok (.invokevirtual 61, 3) := by decide +kernel
theorem dL_law_526 : decode cL_law 526 = .ok (.aload_n 2, 1) := by decide +kernel
theorem dL_law_527 : decode cL_law 527 = .ok (.invokevirtual 64, 3) := by decide +kernel
theorem dL_law_530 : decode cL_law 530 = .ok (.if_icmp .eq 319, 3) := by decide +kernel
theorem dL_law_533 : decode cL_law 533 = .ok (.iconst 0, 1) := by decide +kernel
theorem dL_law_534 : decode cL_law 534 = .ok (.ireturn, 1) := by decide +kernel
theorem dL_law_535 : decode cL_law 535 = .ok (.aload_n 1, 1) := by decide +kernel
theorem dL_law_536 : decode cL_law 536 = .ok (.aload_n 0, 1) := by decide +kernel
theorem dL_law_537 : decode cL_law 537 = .ok (.iload_n 3, 1) := by decide +kernel
theorem dL_law_538 : decode cL_law 538 = .ok (.iconst 1, 1) := by decide +kernel
theorem dL_law_539 : decode cL_law 539 = .ok (.iadd, 1) := by decide +kernel
theorem dL_law_540 : decode cL_law 540 = .ok (.iaload, 1) := by decide +kernel
theorem dL_law_541 : decode cL_law 541 = .ok (.invokevirtual 65, 3) := by decide +kernel
theorem dL_law_544 : decode cL_law 544 = .ok (.aload_n 2, 1) := by decide +kernel
theorem dL_law_545 : decode cL_law 545 = .ok (.aload_n 0, 1) := by decide +kernel
theorem dL_law_546 : decode cL_law 546 = .ok (.iload_n 3, 1) := by decide +kernel
theorem dL_law_547 : decode cL_law 547 = .ok (.iconst 1, 1) := by decide +kernel
theorem dL_law_548 : decode cL_law 548 = .ok (.iadd, 1) := by decide +kernel
theorem dL_law_549 : decode cL_law 549 = .ok (.iaload, 1) := by decide +kernel
theorem dL_law_550 : decode cL_law 550 = .ok (.invokevirtual 69, 3) := by decide +kernel
theorem dL_law_553 : decode cL_law 553 = .ok (.lcmp, 1) := by decide +kernel
theorem dL_law_554 : decode cL_law 554 = .ok (.ifCond .eq 295, 3) := by decide +kernel
theorem dL_law_557 : decode cL_law 557 = .ok (.iconst 0, 1) := by decide +kernel
theorem dL_law_558 : decode cL_law 558 = .ok (.ireturn, 1) := by decide +kernel
theorem dL_law_559 : decode cL_law 559 = .ok (.aload_n 1, 1) := by decide +kernel
theorem dL_law_560 : decode cL_law 560 = .ok (.aload_n 0, 1) := by decide +kernel
theorem dL_law_561 : decode cL_law 561 = .ok (.iload_n 3, 1) := by decide +kernel
theorem dL_law_562 : decode cL_law 562 = .ok (.iconst 1, 1) := by decide +kernel
theorem dL_law_563 : decode cL_law 563 = .ok (.iadd, 1) := by decide +kernel
theorem dL_law_564 : decode cL_law 564 = .ok (.iaload, 1) := by decide +kernel
theorem dL_law_565 : decode cL_law 565 = .ok (.invokevirtual 70, 3) := by decide +kernel
theorem dL_law_568 : decode cL_law 568 = .ok (.aload_n 2, 1) := by decide +kernel
theorem dL_law_569 : decode cL_law 569 = .ok (.aload_n 0, 1) := by decide +kernel
theorem dL_law_570 : decode cL_law 570 = .ok (.iload_n 3, 1) := by decide +kernel
theorem dL_law_571 : decode cL_law 571 = .ok (.iconst 1, 1) := by decide +kernel
theorem dL_law_572 : decode cL_law 572 = .ok (.iadd, 1) := by decide +kernel
theorem dL_law_573 : decode cL_law 573 = .ok (.iaload, 1) := by decide +kernel
theorem dL_law_574 : decode cL_law 574 = .ok (.invokevirtual 73, 3) := by decide +kernel
theorem dL_law_577 : decode cL_law 577 = .ok (.lcmp, 1) := by decide +kernel
theorem dL_law_578 : decode cL_law 578 = .ok (.ifCond .eq 271, 3) := by decide +kernel
theorem dL_law_581 : decode cL_law 581 = .ok (.iconst 0, 1) := by decide +kernel
theorem dL_law_582 : decode cL_law 582 = .ok (.ireturn, 1) := by decide +kernel
theorem dL_law_583 : decode cL_law 583 = .ok (.aload_n 1, 1) := by decide +kernel
theorem dL_law_584 : decode cL_law 584 = .ok (.aload_n 0, 1) := by decide +kernel
theorem dL_law_585 : decode cL_law 585 = .ok (.iload_n 3, 1) := by decide +kernel
theorem dL_law_586 : decode cL_law 586 = .ok (.iconst 1, 1) := by decide +kernel
theorem dL_law_587 : decode cL_law 587 = .ok (.iadd, 1) := by decide +kernel
theorem dL_law_588 : decode cL_law 588 = .ok (.iaload, 1) := by decide +kernel
theorem dL_law_589 : decode cL_law 589 = .ok (.invokevirtual 74, 3) := by decide +kernel
theorem dL_law_592 : decode cL_law 592 = .ok (.aload_n 2, 1) := by decide +kernel
theorem dL_law_593 : decode cL_law 593 = .ok (.aload_n 0, 1) := by decide +kernel
theorem dL_law_594 : decode cL_law 594 = .ok (.iload_n 3, 1) := by decide +kernel
theorem dL_law_595 : decode cL_law 595 = .ok (.iconst 1, 1) := by decide +kernel
theorem dL_law_596 : decode cL_law 596 = .ok (.iadd, 1) := by decide +kernel
theorem dL_law_597 : decode cL_law 597 = .ok (.iaload, 1) := by decide +kernel
theorem dL_law_598 : decode cL_law 598 = .ok (.invokevirtual 77, 3) := by decide +kernel
theorem dL_law_601 : decode cL_law 601 = .ok (.if_icmp .eq 248, 3) := by decide +kernel
theorem dL_law_604 : decode cL_law 604 = .ok (.iconst 0, 1) := by decide +kernel
theorem dL_law_605 : decode cL_law 605 = .ok (.ireturn, 1) := by decide +kernel
theorem dL_law_606 : decode cL_law 606 = .ok (.aload_n 1, 1) := by decide +kernel
theorem dL_law_607 : decode cL_law 607 = .ok (.aload_n 0, 1) := by decide +kernel
theorem dL_law_608 : decode cL_law 608 = .ok (.iload_n 3, 1) := by decide +kernel
theorem dL_law_609 : decode cL_law 609 = .ok (.iconst 1, 1) := by decide +kernel
theorem dL_law_610 : decode cL_law 610 = .ok (.iadd, 1) := by decide +kernel
theorem dL_law_611 : decode cL_law 611 = .ok (.iaload, 1) := by decide +kernel
theorem dL_law_612 : decode cL_law 612 = .ok (.aload_n 0, 1) := by decide +kernel
theorem dL_law_613 : decode cL_law 613 = .ok (.iload_n 3, 1) := by decide +kernel
theorem dL_law_614 : decode cL_law 614 = .ok (.iconst 2, 1) := by decide +kernel
theorem dL_law_615 : decode cL_law 615 = .ok (.iadd, 1) := by decide +kernel
theorem dL_law_616 : decode cL_law 616 = .ok (.iaload, 1) := by decide +kernel
theorem dL_law_617 : decode cL_law 617 = .ok (.invokevirtual 78, 3) := by decide +kernel
theorem dL_law_620 : decode cL_law 620 = .ok (.aload_n 2, 1) := by decide +kernel
theorem dL_law_621 : decode cL_law 621 = .ok (.aload_n 0, 1) := by decide +kernel
theorem dL_law_622 : decode cL_law 622 = .ok (.iload_n 3, 1) := by decide +kernel
theorem dL_law_623 : decode cL_law 623 = .ok (.iconst 1, 1) := by decide +kernel
theorem dL_law_624 : decode cL_law 624 = .ok (.iadd, 1) := by decide +kernel
theorem dL_law_625 : decode cL_law 625 = .ok (.iaload, 1) := by decide +kernel
theorem dL_law_626 : decode cL_law 626 = .ok (.aload_n 0, 1) := by decide +kernel
theorem dL_law_627 : decode cL_law 627 = .ok (.iload_n 3, 1) := by decide +kernel
theorem dL_law_628 : decode cL_law 628 = .ok (.iconst 2, 1) := by decide +kernel
theorem dL_law_629 : decode cL_law 629 = .ok (.iadd, 1) := by decide +kernel
theorem dL_law_630 : decode cL_law 630 = .ok (.iaload, 1) := by decide +kernel
theorem dL_law_631 : decode cL_law 631 = .ok (.invokevirtual 82, 3) := by decide +kernel
theorem dL_law_634 : decode cL_law 634 = .ok (.lcmp, 1) := by decide +kernel
theorem dL_law_635 : decode cL_law 635 = .ok (.ifCond .eq 214, 3) := by decide +kernel
theorem dL_law_638 : decode cL_law 638 = .ok (.iconst 0, 1) := by decide +kernel
theorem dL_law_639 : decode cL_law 639 = .ok (.ireturn, 1) := by decide +kernel
theorem dL_law_640 : decode cL_law 640 = .ok (.aload_n 1, 1) := by decide +kernel
theorem dL_law_641 : decode cL_law 641 = .ok (.aload_n 0, 1) := by decide +kernel
theorem dL_law_642 : decode cL_law 642 = .ok (.iload_n 3, 1) := by decide +kernel
theorem dL_law_643 : decode cL_law 643 = .ok (.iconst 1, 1) := by decide +kernel
theorem dL_law_644 : decode cL_law 644 = .ok (.iadd, 1) := by decide +kernel
theorem dL_law_645 : decode cL_law 645 = .ok (.iaload, 1) := by decide +kernel
theorem dL_law_646 : decode cL_law 646 = .ok (.aload_n 0, 1) := by decide +kernel
theorem dL_law_647 : decode cL_law 647 = .ok (.iload_n 3, 1) := by decide +kernel
theorem dL_law_648 : decode cL_law 648 = .ok (.iconst 2, 1) := by decide +kernel
theorem dL_law_649 : decode cL_law 649 = .ok (.iadd, 1) := by decide +kernel
theorem dL_law_650 : decode cL_law 650 = .ok (.iaload, 1) := by decide +kernel
theorem dL_law_651 : decode cL_law 651 = .ok (.invokevirtual 83, 3) := by decide +kernel
theorem dL_law_654 : decode cL_law 654 = .ok (.aload_n 2, 1) := by decide +kernel
theorem dL_law_655 : decode cL_law 655 = .ok (.aload_n 0, 1) := by decide +kernel
theorem dL_law_656 : decode cL_law 656 = .ok (.iload_n 3, 1) := by decide +kernel
theorem dL_law_657 : decode cL_law 657 = .ok (.iconst 1, 1) := by decide +kernel
theorem dL_law_658 : decode cL_law 658 = .ok (.iadd, 1) := by decide +kernel
theorem dL_law_659 : decode cL_law 659 = .ok (.iaload, 1) := by decide +kernel
theorem dL_law_660 : decode cL_law 660 = .ok (.aload_n 0, 1) := by decide +kernel
theorem dL_law_661 : decode cL_law 661 = .ok (.iload_n 3, 1) := by decide +kernel
theorem dL_law_662 : decode cL_law 662 = .ok (.iconst 2, 1) := by decide +kernel
theorem dL_law_663 : decode cL_law 663 = .ok (.iadd, 1) := by decide +kernel
theorem dL_law_664 : decode cL_law 664 = .ok (.iaload, 1) := by decide +kernel
theorem dL_law_665 : decode cL_law 665 = .ok (.invokevirtual 86, 3) := by decide +kernel
theorem dL_law_668 : decode cL_law 668 = .ok (.if_icmp .eq 181, 3) := by decide +kernel
theorem dL_law_671 : decode cL_law 671 = .ok (.iconst 0, 1) := by decide +kernel
theorem dL_law_672 : decode cL_law 672 = .ok (.ireturn, 1) := by decide +kernel
theorem dL_law_673 : decode cL_law 673 = .ok (.aload_n 1, 1) := by decide +kernel
theorem dL_law_674 : decode cL_law 674 = .ok (.aload_n 0, 1) := by decide +kernel
theorem dL_law_675 : decode cL_law 675 = .ok (.iload_n 3, 1) := by decide +kernel
theorem dL_law_676 : decode cL_law 676 = .ok (.iconst 1, 1) := by decide +kernel
theorem dL_law_677 : decode cL_law 677 = .ok (.iadd, 1) := by decide +kernel
theorem dL_law_678 : decode cL_law 678 = .ok (.iaload, 1) := by decide +kernel
theorem dL_law_679 : decode cL_law 679 = .ok (.aload_n 0, 1) := by decide +kernel
theorem dL_law_680 : decode cL_law 680 = .ok (.iload_n 3, 1) := by decide +kernel
theorem dL_law_681 : decode cL_law 681 = .ok (.iconst 2, 1) := by decide +kernel
theorem dL_law_682 : decode cL_law 682 = .ok (.iadd, 1) := by decide +kernel
theorem dL_law_683 : decode cL_law 683 = .ok (.iaload, 1) := by decide +kernel
theorem dL_law_684 : decode cL_law 684 = .ok (.i2l, 1) := by decide +kernel
theorem dL_law_685 : decode cL_law 685 = .ok (.bipush 32, 2) := by decide +kernel
theorem dL_law_687 : decode cL_law 687 = .ok (.lshl, 1) := by decide +kernel
theorem dL_law_688 : decode cL_law 688 = .ok (.aload_n 0, 1) := by decide +kernel
theorem dL_law_689 : decode cL_law 689 = .ok (.iload_n 3, 1) := by decide +kernel
theorem dL_law_690 : decode cL_law 690 = .ok (.iconst 3, 1) := by decide +kernel
theorem dL_law_691 : decode cL_law 691 = .ok (.iadd, 1) := by decide +kernel
theorem dL_law_692 : decode cL_law 692 = .ok (.iaload, 1) := by decide +kernel
theorem dL_law_693 : decode cL_law 693 = .ok (.i2l, 1) := by decide +kernel
theorem dL_law_694 : decode cL_law 694 = .ok (.ldc2_w 28, 3) := by decide +kernel
theorem dL_law_697 : decode cL_law 697 = .ok (.land, 1) := by decide +kernel
theorem dL_law_698 : decode cL_law 698 = .ok (.lor, 1) := by decide +kernel
theorem dL_law_699 : decode cL_law 699 = .ok (.invokevirtual 87, 3) := by decide +kernel
theorem dL_law_702 : decode cL_law 702 = .ok (.aload_n 2, 1) := by decide +kernel
theorem dL_law_703 : decode cL_law 703 = .ok (.aload_n 0, 1) := by decide +kernel
theorem dL_law_704 : decode cL_law 704 = .ok (.iload_n 3, 1) := by decide +kernel
theorem dL_law_705 : decode cL_law 705 = .ok (.iconst 1, 1) := by decide +kernel
theorem dL_law_706 : decode cL_law 706 = .ok (.iadd, 1) := by decide +kernel
theorem dL_law_707 : decode cL_law 707 = .ok (.iaload, 1) := by decide +kernel
theorem dL_law_708 : decode cL_law 708 = .ok (.aload_n 0, 1) := by decide +kernel
theorem dL_law_709 : decode cL_law 709 = .ok (.iload_n 3, 1) := by decide +kernel
theorem dL_law_710 : decode cL_law 710 = .ok (.iconst 2, 1) := by decide +kernel
theorem dL_law_711 : decode cL_law 711 = .ok (.iadd, 1) := by decide +kernel
theorem dL_law_712 : decode cL_law 712 = .ok (.iaload, 1) := by decide +kernel
theorem dL_law_713 : decode cL_law 713 = .ok (.i2l, 1) := by decide +kernel
theorem dL_law_714 : decode cL_law 714 = .ok (.bipush 32, 2) := by decide +kernel
theorem dL_law_716 : decode cL_law 716 = .ok (.lshl, 1) := by decide +kernel
theorem dL_law_717 : decode cL_law 717 = .ok (.aload_n 0, 1) := by decide +kernel
theorem dL_law_718 : decode cL_law 718 = .ok (.iload_n 3, 1) := by decide +kernel
theorem dL_law_719 : decode cL_law 719 = .ok (.iconst 3, 1) := by decide +kernel
theorem dL_law_720 : decode cL_law 720 = .ok (.iadd, 1) := by decide +kernel
theorem dL_law_721 : decode cL_law 721 = .ok (.iaload, 1) := by decide +kernel
theorem dL_law_722 : decode cL_law 722 = .ok (.i2l, 1) := by decide +kernel
theorem dL_law_723 : decode cL_law 723 = .ok (.ldc2_w 28, 3) := by decide +kernel
theorem dL_law_726 : decode cL_law 726 = .ok (.land, 1) := by decide +kernel
theorem dL_law_727 : decode cL_law 727 = .ok (.lor, 1) := by decide +kernel
theorem dL_law_728 : decode cL_law 728 = .ok (.invokevirtual 91, 3) := by decide +kernel
theorem dL_law_731 : decode cL_law 731 = .ok (.if_icmp .eq 118, 3) := by decide +kernel
theorem dL_law_734 : decode cL_law 734 = .ok (.iconst 0, 1) := by decide +kernel
theorem dL_law_735 : decode cL_law 735 = .ok (.ireturn, 1) := by decide +kernel
theorem dL_law_736 : decode cL_law 736 = .ok (.aload_n 1, 1) := by decide +kernel
theorem dL_law_737 : decode cL_law 737 = .ok (.aload_n 0, 1) := by decide +kernel
theorem dL_law_738 : decode cL_law 738 = .ok (.iload_n 3, 1) := by decide +kernel
theorem dL_law_739 : decode cL_law 739 = .ok (.iconst 1, 1) := by decide +kernel
theorem dL_law_740 : decode cL_law 740 = .ok (.iadd, 1) := by decide +kernel
theorem dL_law_741 : decode cL_law 741 = .ok (.iaload, 1) := by decide +kernel
theorem dL_law_742 : decode cL_law 742 = .ok (.aload_n 0, 1) := by decide +kernel
theorem dL_law_743 : decode cL_law 743 = .ok (.iload_n 3, 1) := by decide +kernel
theorem dL_law_744 : decode cL_law 744 = .ok (.iconst 2, 1) := by decide +kernel
theorem dL_law_745 : decode cL_law 745 = .ok (.iadd, 1) := by decide +kernel
theorem dL_law_746 : decode cL_law 746 = .ok (.iaload, 1) := by decide +kernel
theorem dL_law_747 : decode cL_law 747 = .ok (.aload_n 0, 1) := by decide +kernel
theorem dL_law_748 : decode cL_law 748 = .ok (.iload_n 3, 1) := by decide +kernel
theorem dL_law_749 : decode cL_law 749 = .ok (.iconst 3, 1) := by decide +kernel
theorem dL_law_750 : decode cL_law 750 = .ok (.iadd, 1) := by decide +kernel
theorem dL_law_751 : decode cL_law 751 = .ok (.iaload, 1) := by decide +kernel
theorem dL_law_752 : decode cL_law 752 = .ok (.invokevirtual 92, 3) := by decide +kernel
theorem dL_law_755 : decode cL_law 755 = .ok (.aload_n 2, 1) := by decide +kernel
theorem dL_law_756 : decode cL_law 756 = .ok (.aload_n 0, 1) := by decide +kernel
theorem dL_law_757 : decode cL_law 757 = .ok (.iload_n 3, 1) := by decide +kernel
theorem dL_law_758 : decode cL_law 758 = .ok (.iconst 1, 1) := by decide +kernel
theorem dL_law_759 : decode cL_law 759 = .ok (.iadd, 1) := by decide +kernel
theorem dL_law_760 : decode cL_law 760 = .ok (.iaload, 1) := by decide +kernel
theorem dL_law_761 : decode cL_law 761 = .ok (.aload_n 0, 1) := by decide +kernel
theorem dL_law_762 : decode cL_law 762 = .ok (.iload_n 3, 1) := by decide +kernel
theorem dL_law_763 : decode cL_law 763 = .ok (.iconst 2, 1) := by decide +kernel
theorem dL_law_764 : decode cL_law 764 = .ok (.iadd, 1) := by decide +kernel
theorem dL_law_765 : decode cL_law 765 = .ok (.iaload, 1) := by decide +kernel
theorem dL_law_766 : decode cL_law 766 = .ok (.aload_n 0, 1) := by decide +kernel
theorem dL_law_767 : decode cL_law 767 = .ok (.iload_n 3, 1) := by decide +kernel
theorem dL_law_768 : decode cL_law 768 = .ok (.iconst 3, 1) := by decide +kernel
theorem dL_law_769 : decode cL_law 769 = .ok (.iadd, 1) := by decide +kernel
theorem dL_law_770 : decode cL_law 770 = .ok (.iaload, 1) := by decide +kernel
theorem dL_law_771 : decode cL_law 771 = .ok (.invokevirtual 95, 3) := by decide +kernel
theorem dL_law_774 : decode cL_law 774 = .ok (.if_icmp .eq 75, 3) := by decide +kernel
theorem dL_law_777 : decode cL_law 777 = .ok (.iconst 0, 1) := by decide +kernel
theorem dL_law_778 : decode cL_law 778 = .ok (.ireturn, 1) := by decide +kernel
theorem dL_law_779 : decode cL_law 779 = .ok (.aload_n 1, 1) := by decide +kernel
theorem dL_law_780 : decode cL_law 780 = .ok (.aload_n 0, 1) := by decide +kernel
theorem dL_law_781 : decode cL_law 781 = .ok (.iload_n 3, 1) := by decide +kernel
theorem dL_law_782 : decode cL_law 782 = .ok (.iconst 1, 1) := by decide +kernel
theorem dL_law_783 : decode cL_law 783 = .ok (.iadd, 1) := by decide +kernel
theorem dL_law_784 : decode cL_law 784 = .ok (.iaload, 1) := by decide +kernel
theorem dL_law_785 : decode cL_law 785 = .ok (.aload_n 0, 1) := by decide +kernel
theorem dL_law_786 : decode cL_law 786 = .ok (.iload_n 3, 1) := by decide +kernel
theorem dL_law_787 : decode cL_law 787 = .ok (.iconst 2, 1) := by decide +kernel
theorem dL_law_788 : decode cL_law 788 = .ok (.iadd, 1) := by decide +kernel
theorem dL_law_789 : decode cL_law 789 = .ok (.iaload, 1) := by decide +kernel
theorem dL_law_790 : decode cL_law 790 = .ok (.invokevirtual 96, 3) := by decide +kernel
theorem dL_law_793 : decode cL_law 793 = .ok (.aload_n 2, 1) := by decide +kernel
theorem dL_law_794 : decode cL_law 794 = .ok (.aload_n 0, 1) := by decide +kernel
theorem dL_law_795 : decode cL_law 795 = .ok (.iload_n 3, 1) := by decide +kernel
theorem dL_law_796 : decode cL_law 796 = .ok (.iconst 1, 1) := by decide +kernel
theorem dL_law_797 : decode cL_law 797 = .ok (.iadd, 1) := by decide +kernel
theorem dL_law_798 : decode cL_law 798 = .ok (.iaload, 1) := by decide +kernel
theorem dL_law_799 : decode cL_law 799 = .ok (.aload_n 0, 1) := by decide +kernel
theorem dL_law_800 : decode cL_law 800 = .ok (.iload_n 3, 1) := by decide +kernel
theorem dL_law_801 : decode cL_law 801 = .ok (.iconst 2, 1) := by decide +kernel
theorem dL_law_802 : decode cL_law 802 = .ok (.iadd, 1) := by decide +kernel
theorem dL_law_803 : decode cL_law 803 = .ok (.iaload, 1) := by decide +kernel
theorem dL_law_804 : decode cL_law 804 = .ok (.invokevirtual 99, 3) := by decide +kernel
theorem dL_law_807 : decode cL_law 807 = .ok (.if_icmp .eq 42, 3) := by decide +kernel
theorem dL_law_810 : decode cL_law 810 = .ok (.iconst 0, 1) := by decide +kernel
theorem dL_law_811 : decode cL_law 811 = .ok (.ireturn, 1) := by decide +kernel
theorem dL_law_812 : decode cL_law 812 = .ok (.aload_n 1, 1) := by decide +kernel
theorem dL_law_813 : decode cL_law 813 = .ok (.aload_n 0, 1) := by decide +kernel
theorem dL_law_814 : decode cL_law 814 = .ok (.iload_n 3, 1) := by decide +kernel
theorem dL_law_815 : decode cL_law 815 = .ok (.iconst 1, 1) := by decide +kernel
theorem dL_law_816 : decode cL_law 816 = .ok (.iadd, 1) := by decide +kernel
theorem dL_law_817 : decode cL_law 817 = .ok (.iaload, 1) := by decide +kernel
theorem dL_law_818 : decode cL_law 818 = .ok (.invokevirtual 100, 3) := by decide +kernel
theorem dL_law_821 : decode cL_law 821 = .ok (.aload_n 2, 1) := by decide +kernel
theorem dL_law_822 : decode cL_law 822 = .ok (.aload_n 0, 1) := by decide +kernel
theorem dL_law_823 : decode cL_law 823 = .ok (.iload_n 3, 1) := by decide +kernel
theorem dL_law_824 : decode cL_law 824 = .ok (.iconst 1, 1) := by decide +kernel
theorem dL_law_825 : decode cL_law 825 = .ok (.iadd, 1) := by decide +kernel
theorem dL_law_826 : decode cL_law 826 = .ok (.iaload, 1) := by decide +kernel
theorem dL_law_827 : decode cL_law 827 = .ok (.invokevirtual 103, 3) := by decide +kernel
theorem dL_law_830 : decode cL_law 830 = .ok (.lcmp, 1) := by decide +kernel
theorem dL_law_831 : decode cL_law 831 = .ok (.ifCond .eq 18, 3) := by decide +kernel
theorem dL_law_834 : decode cL_law 834 = .ok (.iconst 0, 1) := by decide +kernel
theorem dL_law_835 : decode cL_law 835 = .ok (.ireturn, 1) := by decide +kernel
theorem dL_law_836 : decode cL_law 836 = .ok (.aload_n 1, 1) := by decide +kernel
theorem dL_law_837 : decode cL_law 837 = .ok (.invokevirtual 104, 3) := by decide +kernel
theorem dL_law_840 : decode cL_law 840 = .ok (.aload_n 2, 1) := by decide +kernel
theorem dL_law_841 : decode cL_law 841 = .ok (.invokevirtual 107, 3) := by decide +kernel
theorem dL_law_844 : decode cL_law 844 = .ok (.if_icmp .eq 5, 3) := by decide +kernel
theorem dL_law_847 : decode cL_law 847 = .ok (.iconst 0, 1) := by decide +kernel
theorem dL_law_848 : decode cL_law 848 = .ok (.ireturn, 1) := by decide +kernel
theorem dL_law_849 : decode cL_law 849 = .ok (.iinc 3 6, 3) := by decide +kernel
theorem dL_law_852 : decode cL_law 852 = .ok (.goto (-834), 3) := by decide +kernel
theorem dL_law_855 : decode cL_law 855 = .ok (.iconst 1, 1) := by decide +kernel
theorem dL_law_856 : decode cL_law 856 = .ok (.ireturn, 1) := by decide +kernel
abbrev r_L_law : Room := room_1
abbrev m_L_law : xMd := (cL_law, RL, 4, (some FieldType.boolean), false, r_L_law)
def b_L_law_0 (b N : Nat) (xs : Nat → Int32) (KR : xK) (K18 : xK) : xK := x_new 10 12 [.null, .null, .null, .null, .null, .null, .null, .null, .int 0, .int 0, .int 0, .int 0] <| x_dup <| x_calli C_X11_init 1 43 3358 <| x_astore 1 <| x_new 13 27 [.null, .null, .null, .null, .null, .int 0, .int 0, .int 0, .null, .int 0, .null, .int 0, .null, .null, .null, .int 0, .int 0, .long 0, .long 0, .null, .null, .null, .null, .int 0, .int 0, .int 0, .int 0] <| x_dup <| x_calli C_X14_init 1 44 19900 <| x_astore 2 <| x_c (.int 0) <| x_istore 3 <| K18
def b_L_law_849 (b N : Nat) (xs : Nat → Int32) (KR : xK) (K18 : xK) : xK := x_iinc 3 6 <| K18
def b_L_law_132 (b N : Nat) (xs : Nat → Int32) (KR : xK) (K18 : xK) : xK := x_aload 1 <| x_aload 0 <| x_iload 3 <| x_c (.int 1) <| x_iadd <| x_sld b N xs <| x_aload 0 <| x_iload 3 <| x_c (.int 2) <| x_iadd <| x_sld b N xs <| x_aload 0 <| x_iload 3 <| x_c (.int 3) <| x_iadd <| x_sld b N xs <| x_aload 0 <| x_iload 3 <| x_c (.int 4) <| x_iadd <| x_sld b N xs <| x_aload 0 <| x_iload 3 <| x_c (.int 5) <| x_iadd <| x_sld b N xs <| x_callv 10 C_X11_feed 6 0 0 <| x_aload 2 <| x_aload 0 <| x_iload 3 <| x_c (.int 1) <| x_iadd <| x_sld b N xs <| x_aload 0 <| x_iload 3 <| x_c (.int 2) <| x_iadd <| x_sld b N xs <| x_aload 0 <| x_iload 3 <| x_c (.int 3) <| x_iadd <| x_sld b N xs <| x_aload 0 <| x_iload 3 <| x_c (.int 4) <| x_iadd <| x_sld b N xs <| x_aload 0 <| x_iload 3 <| x_c (.int 5) <| x_iadd <| x_sld b N xs <| x_callv 13 C_X14_feed 6 0 0 <| x_icmp_eq ((b_L_law_849 b N xs KR K18)) <| x_c (.int 0) <| x_no
def b_L_law_195 (b N : Nat) (xs : Nat → Int32) (KR : xK) (K18 : xK) : xK := x_aload 1 <| x_aload 0 <| x_iload 3 <| x_c (.int 1) <| x_iadd <| x_sld b N xs <| x_callv 10 C_X11_end 2 0 0 <| x_aload 2 <| x_aload 0 <| x_iload 3 <| x_c (.int 1) <| x_iadd <| x_sld b N xs <| x_callv 13 C_X14_end 2 0 0 <| x_icmp_eq ((b_L_law_849 b N xs KR K18)) <| x_c (.int 0) <| x_no
def b_L_law_218 (b N : Nat) (xs : Nat → Int32) (KR : xK) (K18 : xK) : xK := x_aload 1 <| x_callv 10 C_X11_literal 1 3 1177 <| x_aload 2 <| x_callv 13 C_X14_literal 1 0 0 <| x_icmp_eq ((b_L_law_849 b N xs KR K18)) <| x_c (.int 0) <| x_no
def b_L_law_231 (b N : Nat) (xs : Nat → Int32) (KR : xK) (K18 : xK) : xK := x_aload 1 <| x_aload 0 <| x_iload 3 <| x_c (.int 1) <| x_iadd <| x_sld b N xs <| x_i2l <| x_c (.int 32) <| x_lshl <| x_aload 0 <| x_iload 3 <| x_c (.int 2) <| x_iadd <| x_sld b N xs <| x_i2l <| x_c (.long 4294967295) <| x_land <| x_lor <| x_aload 0 <| x_iload 3 <| x_c (.int 3) <| x_iadd <| x_sld b N xs <| x_i2l <| x_c (.int 32) <| x_lshl <| x_aload 0 <| x_iload 3 <| x_c (.int 4) <| x_iadd <| x_sld b N xs <| x_i2l <| x_c (.long 4294967295) <| x_land <| x_lor <| x_callv 10 C_X11_cell 3 2 777 <| x_aload 2 <| x_aload 0 <| x_iload 3 <| x_c (.int 1) <| x_iadd <| x_sld b N xs <| x_i2l <| x_c (.int 32) <| x_lshl <| x_aload 0 <| x_iload 3 <| x_c (.int 2) <| x_iadd <| x_sld b N xs <| x_i2l <| x_c (.long 4294967295) <| x_land <| x_lor <| x_aload 0 <| x_iload 3 <| x_c (.int 3) <| x_iadd <| x_sld b N xs <| x_i2l <| x_c (.int 32) <| x_lshl <| x_aload 0 <| x_iload 3 <| x_c (.int 4) <| x_iadd <| x_sld b N xs <| x_i2l <| x_c (.long 4294967295) <| x_land <| x_lor <| x_callv 13 C_X14_cell 3 0 0 <| x_icmp_eq ((b_L_law_849 b N xs KR K18)) <| x_c (.int 0) <| x_no
def b_L_law_324 (b N : Nat) (xs : Nat → Int32) (KR : xK) (K18 : xK) : xK := x_aload 1 <| x_aload 0 <| x_iload 3 <| x_c (.int 1) <| x_iadd <| x_sld b N xs <| x_aload 0 <| x_iload 3 <| x_c (.int 2) <| x_iadd <| x_sld b N xs <| x_callv 10 C_X11_mark 3 2 777 <| x_aload 2 <| x_aload 0 <| x_iload 3 <| x_c (.int 1) <| x_iadd <| x_sld b N xs <| x_aload 0 <| x_iload 3 <| x_c (.int 2) <| x_iadd <| x_sld b N xs <| x_callv 13 C_X14_mark 3 0 0 <| x_icmp_eq ((b_L_law_849 b N xs KR K18)) <| x_c (.int 0) <| x_no
def b_L_law_357 (b N : Nat) (xs : Nat → Int32) (KR : xK) (K18 : xK) : xK := x_aload 1 <| x_aload 0 <| x_iload 3 <| x_c (.int 1) <| x_iadd <| x_sld b N xs <| x_aload 0 <| x_iload 3 <| x_c (.int 2) <| x_iadd <| x_sld b N xs <| x_callv 10 C_X11_one 3 2 777 <| x_aload 2 <| x_aload 0 <| x_iload 3 <| x_c (.int 1) <| x_iadd <| x_sld b N xs <| x_aload 0 <| x_iload 3 <| x_c (.int 2) <| x_iadd <| x_sld b N xs <| x_callv 13 C_X14_one 3 0 0 <| x_icmp_eq ((b_L_law_849 b N xs KR K18)) <| x_c (.int 0) <| x_no
def b_L_law_390 (b N : Nat) (xs : Nat → Int32) (KR : xK) (K18 : xK) : xK := x_aload 1 <| x_aload 0 <| x_iload 3 <| x_c (.int 1) <| x_iadd <| x_sld b N xs <| x_aload 0 <| x_iload 3 <| x_c (.int 2) <| x_iadd <| x_sld b N xs <| x_aload 0 <| x_iload 3 <| x_c (.int 3) <| x_iadd <| x_sld b N xs <| x_callv 10 C_X11_two 4 6 2331 <| x_aload 2 <| x_aload 0 <| x_iload 3 <| x_c (.int 1) <| x_iadd <| x_sld b N xs <| x_aload 0 <| x_iload 3 <| x_c (.int 2) <| x_iadd <| x_sld b N xs <| x_aload 0 <| x_iload 3 <| x_c (.int 3) <| x_iadd <| x_sld b N xs <| x_callv 13 C_X14_two 4 0 0 <| x_icmp_eq ((b_L_law_849 b N xs KR K18)) <| x_c (.int 0) <| x_no
def b_L_law_433 (b N : Nat) (xs : Nat → Int32) (KR : xK) (K18 : xK) : xK := x_aload 1 <| x_aload 0 <| x_iload 3 <| x_c (.int 1) <| x_iadd <| x_sld b N xs <| x_aload 0 <| x_iload 3 <| x_c (.int 2) <| x_iadd <| x_sld b N xs <| x_aload 0 <| x_iload 3 <| x_c (.int 3) <| x_iadd <| x_sld b N xs <| x_callv 10 C_X11_fused 4 2 777 <| x_aload 2 <| x_aload 0 <| x_iload 3 <| x_c (.int 1) <| x_iadd <| x_sld b N xs <| x_aload 0 <| x_iload 3 <| x_c (.int 2) <| x_iadd <| x_sld b N xs <| x_aload 0 <| x_iload 3 <| x_c (.int 3) <| x_iadd <| x_sld b N xs <| x_callv 13 C_X14_fused 4 0 0 <| x_icmp_eq ((b_L_law_849 b N xs KR K18)) <| x_c (.int 0) <| x_no
def b_L_law_476 (b N : Nat) (xs : Nat → Int32) (KR : xK) (K18 : xK) : xK := x_aload 1 <| x_aload 0 <| x_iload 3 <| x_c (.int 1) <| x_iadd <| x_sld b N xs <| x_aload 0 <| x_iload 3 <| x_c (.int 2) <| x_iadd <| x_sld b N xs <| x_callv 10 C_X11_power 3 2 777 <| x_aload 2 <| x_aload 0 <| x_iload 3 <| x_c (.int 1) <| x_iadd <| x_sld b N xs <| x_aload 0 <| x_iload 3 <| x_c (.int 2) <| x_iadd <| x_sld b N xs <| x_callv 13 C_X14_power 3 0 0 <| x_icmp_eq ((b_L_law_849 b N xs KR K18)) <| x_c (.int 0) <| x_no
def b_L_law_509 (b N : Nat) (xs : Nat → Int32) (KR : xK) (K18 : xK) : xK := x_aload 1 <| x_callv 10 C_X11_count 1 0 0 <| x_aload 2 <| x_callv 13 C_X14_count 1 0 0 <| x_icmp_eq ((b_L_law_849 b N xs KR K18)) <| x_c (.int 0) <| x_no
def b_L_law_522 (b N : Nat) (xs : Nat → Int32) (KR : xK) (K18 : xK) : xK := x_aload 1 <| x_callv 10 C_X11_clear 1 0 0 <| x_aload 2 <| x_callv 13 C_X14_clear 1 0 0 <| x_icmp_eq ((b_L_law_849 b N xs KR K18)) <| x_c (.int 0) <| x_no
def b_L_law_535 (b N : Nat) (xs : Nat → Int32) (KR : xK) (K18 : xK) : xK := x_aload 1 <| x_aload 0 <| x_iload 3 <| x_c (.int 1) <| x_iadd <| x_sld b N xs <| x_callv 10 C_X11_low 2 0 0 <| x_aload 2 <| x_aload 0 <| x_iload 3 <| x_c (.int 1) <| x_iadd <| x_sld b N xs <| x_callv 13 C_X14_low 2 0 0 <| x_lcmp <| x_if_eq ((b_L_law_849 b N xs KR K18)) <| x_c (.int 0) <| x_no
def b_L_law_559 (b N : Nat) (xs : Nat → Int32) (KR : xK) (K18 : xK) : xK := x_aload 1 <| x_aload 0 <| x_iload 3 <| x_c (.int 1) <| x_iadd <| x_sld b N xs <| x_callv 10 C_X11_high 2 0 0 <| x_aload 2 <| x_aload 0 <| x_iload 3 <| x_c (.int 1) <| x_iadd <| x_sld b N xs <| x_callv 13 C_X14_high 2 0 0 <| x_lcmp <| x_if_eq ((b_L_law_849 b N xs KR K18)) <| x_c (.int 0) <| x_no
def b_L_law_583 (b N : Nat) (xs : Nat → Int32) (KR : xK) (K18 : xK) : xK := x_aload 1 <| x_aload 0 <| x_iload 3 <| x_c (.int 1) <| x_iadd <| x_sld b N xs <| x_callv 10 C_X11_markOf 2 0 0 <| x_aload 2 <| x_aload 0 <| x_iload 3 <| x_c (.int 1) <| x_iadd <| x_sld b N xs <| x_callv 13 C_X14_markOf 2 0 0 <| x_icmp_eq ((b_L_law_849 b N xs KR K18)) <| x_c (.int 0) <| x_no
def b_L_law_606 (b N : Nat) (xs : Nat → Int32) (KR : xK) (K18 : xK) : xK := x_aload 1 <| x_aload 0 <| x_iload 3 <| x_c (.int 1) <| x_iadd <| x_sld b N xs <| x_aload 0 <| x_iload 3 <| x_c (.int 2) <| x_iadd <| x_sld b N xs <| x_callv 10 C_X11_number 3 0 0 <| x_aload 2 <| x_aload 0 <| x_iload 3 <| x_c (.int 1) <| x_iadd <| x_sld b N xs <| x_aload 0 <| x_iload 3 <| x_c (.int 2) <| x_iadd <| x_sld b N xs <| x_callv 13 C_X14_number 3 0 0 <| x_lcmp <| x_if_eq ((b_L_law_849 b N xs KR K18)) <| x_c (.int 0) <| x_no
def b_L_law_640 (b N : Nat) (xs : Nat → Int32) (KR : xK) (K18 : xK) : xK := x_aload 1 <| x_aload 0 <| x_iload 3 <| x_c (.int 1) <| x_iadd <| x_sld b N xs <| x_aload 0 <| x_iload 3 <| x_c (.int 2) <| x_iadd <| x_sld b N xs <| x_callv 10 C_X11_is 3 0 0 <| x_aload 2 <| x_aload 0 <| x_iload 3 <| x_c (.int 1) <| x_iadd <| x_sld b N xs <| x_aload 0 <| x_iload 3 <| x_c (.int 2) <| x_iadd <| x_sld b N xs <| x_callv 13 C_X14_is 3 0 0 <| x_icmp_eq ((b_L_law_849 b N xs KR K18)) <| x_c (.int 0) <| x_no
def b_L_law_673 (b N : Nat) (xs : Nat → Int32) (KR : xK) (K18 : xK) : xK := x_aload 1 <| x_aload 0 <| x_iload 3 <| x_c (.int 1) <| x_iadd <| x_sld b N xs <| x_aload 0 <| x_iload 3 <| x_c (.int 2) <| x_iadd <| x_sld b N xs <| x_i2l <| x_c (.int 32) <| x_lshl <| x_aload 0 <| x_iload 3 <| x_c (.int 3) <| x_iadd <| x_sld b N xs <| x_i2l <| x_c (.long 4294967295) <| x_land <| x_lor <| x_callv 10 C_X11_has 3 0 0 <| x_aload 2 <| x_aload 0 <| x_iload 3 <| x_c (.int 1) <| x_iadd <| x_sld b N xs <| x_aload 0 <| x_iload 3 <| x_c (.int 2) <| x_iadd <| x_sld b N xs <| x_i2l <| x_c (.int 32) <| x_lshl <| x_aload 0 <| x_iload 3 <| x_c (.int 3) <| x_iadd <| x_sld b N xs <| x_i2l <| x_c (.long 4294967295) <| x_land <| x_lor <| x_callv 13 C_X14_has 3 0 0 <| x_icmp_eq ((b_L_law_849 b N xs KR K18)) <| x_c (.int 0) <| x_no
def b_L_law_736 (b N : Nat) (xs : Nat → Int32) (KR : xK) (K18 : xK) : xK := x_aload 1 <| x_aload 0 <| x_iload 3 <| x_c (.int 1) <| x_iadd <| x_sld b N xs <| x_aload 0 <| x_iload 3 <| x_c (.int 2) <| x_iadd <| x_sld b N xs <| x_aload 0 <| x_iload 3 <| x_c (.int 3) <| x_iadd <| x_sld b N xs <| x_callv 10 C_X11_compare 4 0 0 <| x_aload 2 <| x_aload 0 <| x_iload 3 <| x_c (.int 1) <| x_iadd <| x_sld b N xs <| x_aload 0 <| x_iload 3 <| x_c (.int 2) <| x_iadd <| x_sld b N xs <| x_aload 0 <| x_iload 3 <| x_c (.int 3) <| x_iadd <| x_sld b N xs <| x_callv 13 C_X14_compare 4 0 0 <| x_icmp_eq ((b_L_law_849 b N xs KR K18)) <| x_c (.int 0) <| x_no
def b_L_law_779 (b N : Nat) (xs : Nat → Int32) (KR : xK) (K18 : xK) : xK := x_aload 1 <| x_aload 0 <| x_iload 3 <| x_c (.int 1) <| x_iadd <| x_sld b N xs <| x_aload 0 <| x_iload 3 <| x_c (.int 2) <| x_iadd <| x_sld b N xs <| x_callv 10 C_X11_write 3 0 0 <| x_aload 2 <| x_aload 0 <| x_iload 3 <| x_c (.int 1) <| x_iadd <| x_sld b N xs <| x_aload 0 <| x_iload 3 <| x_c (.int 2) <| x_iadd <| x_sld b N xs <| x_callv 13 C_X14_write 3 0 0 <| x_icmp_eq ((b_L_law_849 b N xs KR K18)) <| x_c (.int 0) <| x_no
def b_L_law_812 (b N : Nat) (xs : Nat → Int32) (KR : xK) (K18 : xK) : xK := x_aload 1 <| x_aload 0 <| x_iload 3 <| x_c (.int 1) <| x_iadd <| x_sld b N xs <| x_callv 10 C_X11_word 2 0 0 <| x_aload 2 <| x_aload 0 <| x_iload 3 <| x_c (.int 1) <| x_iadd <| x_sld b N xs <| x_callv 13 C_X14_word 2 0 0 <| x_lcmp <| x_if_eq ((b_L_law_849 b N xs KR K18)) <| x_c (.int 0) <| x_no
def b_L_law_836 (b N : Nat) (xs : Nat → Int32) (KR : xK) (K18 : xK) : xK := x_aload 1 <| x_callv 10 C_X11_astray 1 0 0 <| x_aload 2 <| x_callv 13 C_X14_astray 1 0 0 <| x_icmp_eq ((b_L_law_849 b N xs KR K18)) <| x_c (.int 0) <| x_no
def b_L_law_18 (b N : Nat) (xs : Nat → Int32) (KR : xK) (K18 : xK) : xK := x_iload 3 <| x_aload 0 <| x_slen b N xs <| x_c (.int 6) <| x_isub <| x_icmp_gt (x_c (.int 1) <| KR) <| x_aload 0 <| x_iload 3 <| x_sld b N xs <| x_c (.int 31) <| x_iand <| x_tsw 0 20 [(b_L_law_132 b N xs KR K18), (b_L_law_195 b N xs KR K18), (b_L_law_218 b N xs KR K18), (b_L_law_231 b N xs KR K18), (b_L_law_324 b N xs KR K18), (b_L_law_357 b N xs KR K18), (b_L_law_390 b N xs KR K18), (b_L_law_433 b N xs KR K18), (b_L_law_476 b N xs KR K18), (b_L_law_509 b N xs KR K18), (b_L_law_522 b N xs KR K18), (b_L_law_535 b N xs KR K18), (b_L_law_559 b N xs KR K18), (b_L_law_583 b N xs KR K18), (b_L_law_606 b N xs KR K18), (b_L_law_640 b N xs KR K18), (b_L_law_673 b N xs KR K18), (b_L_law_736 b N xs KR K18), (b_L_law_779 b N xs KR K18), (b_L_law_812 b N xs KR K18), (b_L_law_836 b N xs KR K18)] <| (b_L_law_849 b N xs KR K18)
theorem s_L_law_0 (G : xG) (l : Launch) (b N : Nat) (xs : Nat → Int32) (KR : xK) (P : xP) (hR : xW G l m_L_law (lX G b N xs) P 856 KR) (K18 : xK) (h18 : xW G l m_L_law (lX G b N xs) P 18 K18) : xW G l m_L_law (lX G b N xs) P 0 (b_L_law_0 b N xs KR K18) := xo_new (pc := 0) (ci := 10) rfl ok10 (by decide) dL_law_0 kw30 kw31 kw1 <| xo_dup (pc := 3) dL_law_3 <| xo_callI (pc := 4) (np := 0) (cM_X11_init G l) dL_law_4 kw34 kw32 kw33 kw1 rfl (by decide +kernel) (by decide) <| xo_astore_n (pc := 7) (i := 1) dL_law_7 rfl (by decide) <| xo_new (pc := 8) (ci := 13) rfl ok13 (by decide) dL_law_8 kw1155 kw1156 kw13 <| xo_dup (pc := 11) dL_law_11 <| xo_callI (pc := 12) (np := 0) (cM_X14_init G l) dL_law_12 kw1159 kw1157 kw1158 kw13 rfl (by decide +kernel) (by decide) <| xo_astore_n (pc := 15) (i := 2) dL_law_15 rfl (by decide) <| xo_iconst (pc := 16) dL_law_16 (by decide) <| xo_istore_n (pc := 17) (i := 3) dL_law_17 rfl (by decide) <| h18
theorem s_L_law_849 (G : xG) (l : Launch) (b N : Nat) (xs : Nat → Int32) (KR : xK) (P : xP) (hR : xW G l m_L_law (lX G b N xs) P 856 KR) (K18 : xK) (h18 : xW G l m_L_law (lX G b N xs) P 18 K18) : xW G l m_L_law (lX G b N xs) P 849 (b_L_law_849 b N xs KR K18) := xo_iinc (pc := 849) dL_law_849 (by decide) <| xo_goto (pc := 852) (tgt := 18) dL_law_852 (by decide) <| h18
theorem s_L_law_132 (G : xG) (l : Launch) (b N : Nat) (xs : Nat → Int32) (KR : xK) (P : xP) (hR : xW G l m_L_law (lX G b N xs) P 856 KR) (K18 : xK) (h18 : xW G l m_L_law (lX G b N xs) P 18 K18) : xW G l m_L_law (lX G b N xs) P 132 (b_L_law_132 b N xs KR K18) := xo_aload_n (pc := 132) (i := 1) dL_law_132 rfl <| xo_aload_n (pc := 133) (i := 0) dL_law_133 rfl <| xo_iload_n (pc := 134) (i := 3) dL_law_134 rfl <| xo_iconst (pc := 135) dL_law_135 (by decide) <| xo_iadd (pc := 136) dL_law_136 <| xo_sld (pc := 137) dL_law_137 <| xo_aload_n (pc := 138) (i := 0) dL_law_138 rfl <| xo_iload_n (pc := 139) (i := 3) dL_law_139 rfl <| xo_iconst (pc := 140) dL_law_140 (by decide) <| xo_iadd (pc := 141) dL_law_141 <| xo_sld (pc := 142) dL_law_142 <| xo_aload_n (pc := 143) (i := 0) dL_law_143 rfl <| xo_iload_n (pc := 144) (i := 3) dL_law_144 rfl <| xo_iconst (pc := 145) dL_law_145 (by decide) <| xo_iadd (pc := 146) dL_law_146 <| xo_sld (pc := 147) dL_law_147 <| xo_aload_n (pc := 148) (i := 0) dL_law_148 rfl <| xo_iload_n (pc := 149) (i := 3) dL_law_149 rfl <| xo_iconst (pc := 150) dL_law_150 (by decide) <| xo_iadd (pc := 151) dL_law_151 <| xo_sld (pc := 152) dL_law_152 <| xo_aload_n (pc := 153) (i := 0) dL_law_153 rfl <| xo_iload_n (pc := 154) (i := 3) dL_law_154 rfl <| xo_iconst (pc := 155) dL_law_155 (by decide) <| xo_iadd (pc := 156) dL_law_156 <| xo_sld (pc := 157) dL_law_157 <| xo_callV (pc := 158) (np := 5) (ci := 10) rfl (cM_X11_feed G l) dL_law_158 kw299 kw296 kw297 kw298 kw1 (by decide +kernel) (by decide) <| xo_aload_n (pc := 161) (i := 2) dL_law_161 rfl <| xo_aload_n (pc := 162) (i := 0) dL_law_162 rfl <| xo_iload_n (pc := 163) (i := 3) dL_law_163 rfl <| xo_iconst (pc := 164) dL_law_164 (by decide) <| xo_iadd (pc := 165) dL_law_165 <| xo_sld (pc := 166) dL_law_166 <| xo_aload_n (pc := 167) (i := 0) dL_law_167 rfl <| xo_iload_n (pc := 168) (i := 3) dL_law_168 rfl <| xo_iconst (pc := 169) dL_law_169 (by decide) <| xo_iadd (pc := 170) dL_law_170 <| xo_sld (pc := 171) dL_law_171 <| xo_aload_n (pc := 172) (i := 0) dL_law_172 rfl <| xo_iload_n (pc := 173) (i := 3) dL_law_173 rfl <| xo_iconst (pc := 174) dL_law_174 (by decide) <| xo_iadd (pc := 175) dL_law_175 <| xo_sld (pc := 176) dL_law_176 <| xo_aload_n (pc := 177) (i := 0) dL_law_177 rfl <| xo_iload_n (pc := 178) (i := 3) dL_law_178 rfl <| xo_iconst (pc := 179) dL_law_179 (by decide) <| xo_iadd (pc := 180) dL_law_180 <| xo_sld (pc := 181) dL_law_181 <| xo_aload_n (pc := 182) (i := 0) dL_law_182 rfl <| xo_iload_n (pc := 183) (i := 3) dL_law_183 rfl <| xo_iconst (pc := 184) dL_law_184 (by decide) <| xo_iadd (pc := 185) dL_law_185 <| xo_sld (pc := 186) dL_law_186 <| xo_callV (pc := 187) (np := 5) (ci := 13) rfl (cM_X14_feed G l) dL_law_187 kw1287 kw1284 kw1285 kw1286 kw13 (by decide +kernel) (by decide) <| xo_icmp_eq (pc := 190) (tgt := 849) dL_law_190 (by decide) ((s_L_law_849 G l b N xs KR P hR K18 h18)) <| xo_iconst (pc := 193) dL_law_193 (by decide) <| xo_no
theorem s_L_law_195 (G : xG) (l : Launch) (b N : Nat) (xs : Nat → Int32) (KR : xK) (P : xP) (hR : xW G l m_L_law (lX G b N xs) P 856 KR) (K18 : xK) (h18 : xW G l m_L_law (lX G b N xs) P 18 K18) : xW G l m_L_law (lX G b N xs) P 195 (b_L_law_195 b N xs KR K18) := xo_aload_n (pc := 195) (i := 1) dL_law_195 rfl <| xo_aload_n (pc := 196) (i := 0) dL_law_196 rfl <| xo_iload_n (pc := 197) (i := 3) dL_law_197 rfl <| xo_iconst (pc := 198) dL_law_198 (by decide) <| xo_iadd (pc := 199) dL_law_199 <| xo_sld (pc := 200) dL_law_200 <| xo_callV (pc := 201) (np := 1) (ci := 10) rfl (cM_X11_end G l) dL_law_201 kw307 kw304 kw305 kw306 kw1 (by decide +kernel) (by decide) <| xo_aload_n (pc := 204) (i := 2) dL_law_204 rfl <| xo_aload_n (pc := 205) (i := 0) dL_law_205 rfl <| xo_iload_n (pc := 206) (i := 3) dL_law_206 rfl <| xo_iconst (pc := 207) dL_law_207 (by decide) <| xo_iadd (pc := 208) dL_law_208 <| xo_sld (pc := 209) dL_law_209 <| xo_callV (pc := 210) (np := 1) (ci := 13) rfl (cM_X14_end G l) dL_law_210 kw1295 kw1292 kw1293 kw1294 kw13 (by decide +kernel) (by decide) <| xo_icmp_eq (pc := 213) (tgt := 849) dL_law_213 (by decide) ((s_L_law_849 G l b N xs KR P hR K18 h18)) <| xo_iconst (pc := 216) dL_law_216 (by decide) <| xo_no
theorem s_L_law_218 (G : xG) (l : Launch) (b N : Nat) (xs : Nat → Int32) (KR : xK) (P : xP) (hR : xW G l m_L_law (lX G b N xs) P 856 KR) (K18 : xK) (h18 : xW G l m_L_law (lX G b N xs) P 18 K18) : xW G l m_L_law (lX G b N xs) P 218 (b_L_law_218 b N xs KR K18) := xo_aload_n (pc := 218) (i := 1) dL_law_218 rfl <| xo_callV (pc := 219) (np := 0) (ci := 10) rfl (cM_X11_literal G l) dL_law_219 kw311 kw308 kw309 kw310 kw1 (by decide +kernel) (by decide) <| xo_aload_n (pc := 222) (i := 2) dL_law_222 rfl <| xo_callV (pc := 223) (np := 0) (ci := 13) rfl (cM_X14_literal G l) dL_law_223 kw1653 kw1650 kw1651 kw1652 kw13 (by decide +kernel) (by decide) <| xo_icmp_eq (pc := 226) (tgt := 849) dL_law_226 (by decide) ((s_L_law_849 G l b N xs KR P hR K18 h18)) <| xo_iconst (pc := 229) dL_law_229 (by decide) <| xo_no
theorem s_L_law_231 (G : xG) (l : Launch) (b N : Nat) (xs : Nat → Int32) (KR : xK) (P : xP) (hR : xW G l m_L_law (lX G b N xs) P 856 KR) (K18 : xK) (h18 : xW G l m_L_law (lX G b N xs) P 18 K18) : xW G l m_L_law (lX G b N xs) P 231 (b_L_law_231 b N xs KR K18) := xo_aload_n (pc := 231) (i := 1) dL_law_231 rfl <| xo_aload_n (pc := 232) (i := 0) dL_law_232 rfl <| xo_iload_n (pc := 233) (i := 3) dL_law_233 rfl <| xo_iconst (pc := 234) dL_law_234 (by decide) <| xo_iadd (pc := 235) dL_law_235 <| xo_sld (pc := 236) dL_law_236 <| xo_i2l (pc := 237) dL_law_237 <| xo_bipush (pc := 238) dL_law_238 (by decide) <| xo_lshl (pc := 240) dL_law_240 <| xo_aload_n (pc := 241) (i := 0) dL_law_241 rfl <| xo_iload_n (pc := 242) (i := 3) dL_law_242 rfl <| xo_iconst (pc := 243) dL_law_243 (by decide) <| xo_iadd (pc := 244) dL_law_244 <| xo_sld (pc := 245) dL_law_245 <| xo_i2l (pc := 246) dL_law_246 <| xo_ldc2_w (pc := 247) dL_law_247 kw1789 <| xo_land (pc := 250) dL_law_250 <| xo_lor (pc := 251) dL_law_251 <| xo_aload_n (pc := 252) (i := 0) dL_law_252 rfl <| xo_iload_n (pc := 253) (i := 3) dL_law_253 rfl <| xo_iconst (pc := 254) dL_law_254 (by decide) <| xo_iadd (pc := 255) dL_law_255 <| xo_sld (pc := 256) dL_law_256 <| xo_i2l (pc := 257) dL_law_257 <| xo_bipush (pc := 258) dL_law_258 (by decide) <| xo_lshl (pc := 260) dL_law_260 <| xo_aload_n (pc := 261) (i := 0) dL_law_261 rfl <| xo_iload_n (pc := 262) (i := 3) dL_law_262 rfl <| xo_iconst (pc := 263) dL_law_263 (by decide) <| xo_iadd (pc := 264) dL_law_264 <| xo_sld (pc := 265) dL_law_265 <| xo_i2l (pc := 266) dL_law_266 <| xo_ldc2_w (pc := 267) dL_law_267 kw1789 <| xo_land (pc := 270) dL_law_270 <| xo_lor (pc := 271) dL_law_271 <| xo_callV (pc := 272) (np := 2) (ci := 10) rfl (cM_X11_cell G l) dL_law_272 kw775 kw772 kw773 kw774 kw1 (by decide +kernel) (by decide) <| xo_aload_n (pc := 275) (i := 2) dL_law_275 rfl <| xo_aload_n (pc := 276) (i := 0) dL_law_276 rfl <| xo_iload_n (pc := 277) (i := 3) dL_law_277 rfl <| xo_iconst (pc := 278) dL_law_278 (by decide) <| xo_iadd (pc := 279) dL_law_279 <| xo_sld (pc := 280) dL_law_280 <| xo_i2l (pc := 281) dL_law_281 <| xo_bipush (pc := 282) dL_law_282 (by decide) <| xo_lshl (pc := 284) dL_law_284 <| xo_aload_n (pc := 285) (i := 0) dL_law_285 rfl <| xo_iload_n (pc := 286) (i := 3) dL_law_286 rfl <| xo_iconst (pc := 287) dL_law_287 (by decide) <| xo_iadd (pc := 288) dL_law_288 <| xo_sld (pc := 289) dL_law_289 <| xo_i2l (pc := 290) dL_law_290 <| xo_ldc2_w (pc := 291) dL_law_291 kw1789 <| xo_land (pc := 294) dL_law_294 <| xo_lor (pc := 295) dL_law_295 <| xo_aload_n (pc := 296) (i := 0) dL_law_296 rfl <| xo_iload_n (pc := 297) (i := 3) dL_law_297 rfl <| xo_iconst (pc := 298) dL_law_298 (by decide) <| xo_iadd (pc := 299) dL_law_299 <| xo_sld (pc := 300) dL_law_300 <| xo_i2l (pc := 301) dL_law_301 <| xo_bipush (pc := 302) dL_law_302 (by decide) <| xo_lshl (pc := 304) dL_law_304 <| xo_aload_n (pc := 305) (i := 0) dL_law_305 rfl <| xo_iload_n (pc := 306) (i := 3) dL_law_306 rfl <| xo_iconst (pc := 307) dL_law_307 (by decide) <| xo_iadd (pc := 308) dL_law_308 <| xo_sld (pc := 309) dL_law_309 <| xo_i2l (pc := 310) dL_law_310 <| xo_ldc2_w (pc := 311) dL_law_311 kw1789 <| xo_land (pc := 314) dL_law_314 <| xo_lor (pc := 315) dL_law_315 <| xo_callV (pc := 316) (np := 2) (ci := 13) rfl (cM_X14_cell G l) dL_law_316 kw1299 kw1296 kw1297 kw1298 kw13 (by decide +kernel) (by decide) <| xo_icmp_eq (pc := 319) (tgt := 849) dL_law_319 (by decide) ((s_L_law_849 G l b N xs KR P hR K18 h18)) <| xo_iconst (pc := 322) dL_law_322 (by decide) <| xo_no
theorem s_L_law_324 (G : xG) (l : Launch) (b N : Nat) (xs : Nat → Int32) (KR : xK) (P : xP) (hR : xW G l m_L_law (lX G b N xs) P 856 KR) (K18 : xK) (h18 : xW G l m_L_law (lX G b N xs) P 18 K18) : xW G l m_L_law (lX G b N xs) P 324 (b_L_law_324 b N xs KR K18) := xo_aload_n (pc := 324) (i := 1) dL_law_324 rfl <| xo_aload_n (pc := 325) (i := 0) dL_law_325 rfl <| xo_iload_n (pc := 326) (i := 3) dL_law_326 rfl <| xo_iconst (pc := 327) dL_law_327 (by decide) <| xo_iadd (pc := 328) dL_law_328 <| xo_sld (pc := 329) dL_law_329 <| xo_aload_n (pc := 330) (i := 0) dL_law_330 rfl <| xo_iload_n (pc := 331) (i := 3) dL_law_331 rfl <| xo_iconst (pc := 332) dL_law_332 (by decide) <| xo_iadd (pc := 333) dL_law_333 <| xo_sld (pc := 334) dL_law_334 <| xo_callV (pc := 335) (np := 2) (ci := 10) rfl (cM_X11_mark G l) dL_law_335 kw787 kw784 kw785 kw786 kw1 (by decide +kernel) (by decide) <| xo_aload_n (pc := 338) (i := 2) dL_law_338 rfl <| xo_aload_n (pc := 339) (i := 0) dL_law_339 rfl <| xo_iload_n (pc := 340) (i := 3) dL_law_340 rfl <| xo_iconst (pc := 341) dL_law_341 (by decide) <| xo_iadd (pc := 342) dL_law_342 <| xo_sld (pc := 343) dL_law_343 <| xo_aload_n (pc := 344) (i := 0) dL_law_344 rfl <| xo_iload_n (pc := 345) (i := 3) dL_law_345 rfl <| xo_iconst (pc := 346) dL_law_346 (by decide) <| xo_iadd (pc := 347) dL_law_347 <| xo_sld (pc := 348) dL_law_348 <| xo_callV (pc := 349) (np := 2) (ci := 13) rfl (cM_X14_mark G l) dL_law_349 kw1331 kw1328 kw1329 kw1330 kw13 (by decide +kernel) (by decide) <| xo_icmp_eq (pc := 352) (tgt := 849) dL_law_352 (by decide) ((s_L_law_849 G l b N xs KR P hR K18 h18)) <| xo_iconst (pc := 355) dL_law_355 (by decide) <| xo_no
theorem s_L_law_357 (G : xG) (l : Launch) (b N : Nat) (xs : Nat → Int32) (KR : xK) (P : xP) (hR : xW G l m_L_law (lX G b N xs) P 856 KR) (K18 : xK) (h18 : xW G l m_L_law (lX G b N xs) P 18 K18) : xW G l m_L_law (lX G b N xs) P 357 (b_L_law_357 b N xs KR K18) := xo_aload_n (pc := 357) (i := 1) dL_law_357 rfl <| xo_aload_n (pc := 358) (i := 0) dL_law_358 rfl <| xo_iload_n (pc := 359) (i := 3) dL_law_359 rfl <| xo_iconst (pc := 360) dL_law_360 (by decide) <| xo_iadd (pc := 361) dL_law_361 <| xo_sld (pc := 362) dL_law_362 <| xo_aload_n (pc := 363) (i := 0) dL_law_363 rfl <| xo_iload_n (pc := 364) (i := 3) dL_law_364 rfl <| xo_iconst (pc := 365) dL_law_365 (by decide) <| xo_iadd (pc := 366) dL_law_366 <| xo_sld (pc := 367) dL_law_367 <| xo_callV (pc := 368) (np := 2) (ci := 10) rfl (cM_X11_one G l) dL_law_368 kw807 kw804 kw805 kw806 kw1 (by decide +kernel) (by decide) <| xo_aload_n (pc := 371) (i := 2) dL_law_371 rfl <| xo_aload_n (pc := 372) (i := 0) dL_law_372 rfl <| xo_iload_n (pc := 373) (i := 3) dL_law_373 rfl <| xo_iconst (pc := 374) dL_law_374 (by decide) <| xo_iadd (pc := 375) dL_law_375 <| xo_sld (pc := 376) dL_law_376 <| xo_aload_n (pc := 377) (i := 0) dL_law_377 rfl <| xo_iload_n (pc := 378) (i := 3) dL_law_378 rfl <| xo_iconst (pc := 379) dL_law_379 (by decide) <| xo_iadd (pc := 380) dL_law_380 <| xo_sld (pc := 381) dL_law_381 <| xo_callV (pc := 382) (np := 2) (ci := 13) rfl (cM_X14_one G l) dL_law_382 kw1347 kw1344 kw1345 kw1346 kw13 (by decide +kernel) (by decide) <| xo_icmp_eq (pc := 385) (tgt := 849) dL_law_385 (by decide) ((s_L_law_849 G l b N xs KR P hR K18 h18)) <| xo_iconst (pc := 388) dL_law_388 (by decide) <| xo_no
theorem s_L_law_390 (G : xG) (l : Launch) (b N : Nat) (xs : Nat → Int32) (KR : xK) (P : xP) (hR : xW G l m_L_law (lX G b N xs) P 856 KR) (K18 : xK) (h18 : xW G l m_L_law (lX G b N xs) P 18 K18) : xW G l m_L_law (lX G b N xs) P 390 (b_L_law_390 b N xs KR K18) := xo_aload_n (pc := 390) (i := 1) dL_law_390 rfl <| xo_aload_n (pc := 391) (i := 0) dL_law_391 rfl <| xo_iload_n (pc := 392) (i := 3) dL_law_392 rfl <| xo_iconst (pc := 393) dL_law_393 (by decide) <| xo_iadd (pc := 394) dL_law_394 <| xo_sld (pc := 395) dL_law_395 <| xo_aload_n (pc := 396) (i := 0) dL_law_396 rfl <| xo_iload_n (pc := 397) (i := 3) dL_law_397 rfl <| xo_iconst (pc := 398) dL_law_398 (by decide) <| xo_iadd (pc := 399) dL_law_399 <| xo_sld (pc := 400) dL_law_400 <| xo_aload_n (pc := 401) (i := 0) dL_law_401 rfl <| xo_iload_n (pc := 402) (i := 3) dL_law_402 rfl <| xo_iconst (pc := 403) dL_law_403 (by decide) <| xo_iadd (pc := 404) dL_law_404 <| xo_sld (pc := 405) dL_law_405 <| xo_callV (pc := 406) (np := 3) (ci := 10) rfl (cM_X11_two G l) dL_law_406 kw929 kw926 kw927 kw928 kw1 (by decide +kernel) (by decide) <| xo_aload_n (pc := 409) (i := 2) dL_law_409 rfl <| xo_aload_n (pc := 410) (i := 0) dL_law_410 rfl <| xo_iload_n (pc := 411) (i := 3) dL_law_411 rfl <| xo_iconst (pc := 412) dL_law_412 (by decide) <| xo_iadd (pc := 413) dL_law_413 <| xo_sld (pc := 414) dL_law_414 <| xo_aload_n (pc := 415) (i := 0) dL_law_415 rfl <| xo_iload_n (pc := 416) (i := 3) dL_law_416 rfl <| xo_iconst (pc := 417) dL_law_417 (by decide) <| xo_iadd (pc := 418) dL_law_418 <| xo_sld (pc := 419) dL_law_419 <| xo_aload_n (pc := 420) (i := 0) dL_law_420 rfl <| xo_iload_n (pc := 421) (i := 3) dL_law_421 rfl <| xo_iconst (pc := 422) dL_law_422 (by decide) <| xo_iadd (pc := 423) dL_law_423 <| xo_sld (pc := 424) dL_law_424 <| xo_callV (pc := 425) (np := 3) (ci := 13) rfl (cM_X14_two G l) dL_law_425 kw1531 kw1528 kw1529 kw1530 kw13 (by decide +kernel) (by decide) <| xo_icmp_eq (pc := 428) (tgt := 849) dL_law_428 (by decide) ((s_L_law_849 G l b N xs KR P hR K18 h18)) <| xo_iconst (pc := 431) dL_law_431 (by decide) <| xo_no
theorem s_L_law_433 (G : xG) (l : Launch) (b N : Nat) (xs : Nat → Int32) (KR : xK) (P : xP) (hR : xW G l m_L_law (lX G b N xs) P 856 KR) (K18 : xK) (h18 : xW G l m_L_law (lX G b N xs) P 18 K18) : xW G l m_L_law (lX G b N xs) P 433 (b_L_law_433 b N xs KR K18) := xo_aload_n (pc := 433) (i := 1) dL_law_433 rfl <| xo_aload_n (pc := 434) (i := 0) dL_law_434 rfl <| xo_iload_n (pc := 435) (i := 3) dL_law_435 rfl <| xo_iconst (pc := 436) dL_law_436 (by decide) <| xo_iadd (pc := 437) dL_law_437 <| xo_sld (pc := 438) dL_law_438 <| xo_aload_n (pc := 439) (i := 0) dL_law_439 rfl <| xo_iload_n (pc := 440) (i := 3) dL_law_440 rfl <| xo_iconst (pc := 441) dL_law_441 (by decide) <| xo_iadd (pc := 442) dL_law_442 <| xo_sld (pc := 443) dL_law_443 <| xo_aload_n (pc := 444) (i := 0) dL_law_444 rfl <| xo_iload_n (pc := 445) (i := 3) dL_law_445 rfl <| xo_iconst (pc := 446) dL_law_446 (by decide) <| xo_iadd (pc := 447) dL_law_447 <| xo_sld (pc := 448) dL_law_448 <| xo_callV (pc := 449) (np := 3) (ci := 10) rfl (cM_X11_fused G l) dL_law_449 kw968 kw965 kw966 kw967 kw1 (by decide +kernel) (by decide) <| xo_aload_n (pc := 452) (i := 2) dL_law_452 rfl <| xo_aload_n (pc := 453) (i := 0) dL_law_453 rfl <| xo_iload_n (pc := 454) (i := 3) dL_law_454 rfl <| xo_iconst (pc := 455) dL_law_455 (by decide) <| xo_iadd (pc := 456) dL_law_456 <| xo_sld (pc := 457) dL_law_457 <| xo_aload_n (pc := 458) (i := 0) dL_law_458 rfl <| xo_iload_n (pc := 459) (i := 3) dL_law_459 rfl <| xo_iconst (pc := 460) dL_law_460 (by decide) <| xo_iadd (pc := 461) dL_law_461 <| xo_sld (pc := 462) dL_law_462 <| xo_aload_n (pc := 463) (i := 0) dL_law_463 rfl <| xo_iload_n (pc := 464) (i := 3) dL_law_464 rfl <| xo_iconst (pc := 465) dL_law_465 (by decide) <| xo_iadd (pc := 466) dL_law_466 <| xo_sld (pc := 467) dL_law_467 <| xo_callV (pc := 468) (np := 3) (ci := 13) rfl (cM_X14_fused G l) dL_law_468 kw1579 kw1576 kw1577 kw1578 kw13 (by decide +kernel) (by decide) <| xo_icmp_eq (pc := 471) (tgt := 849) dL_law_471 (by decide) ((s_L_law_849 G l b N xs KR P hR K18 h18)) <| xo_iconst (pc := 474) dL_law_474 (by decide) <| xo_no
theorem s_L_law_476 (G : xG) (l : Launch) (b N : Nat) (xs : Nat → Int32) (KR : xK) (P : xP) (hR : xW G l m_L_law (lX G b N xs) P 856 KR) (K18 : xK) (h18 : xW G l m_L_law (lX G b N xs) P 18 K18) : xW G l m_L_law (lX G b N xs) P 476 (b_L_law_476 b N xs KR K18) := xo_aload_n (pc := 476) (i := 1) dL_law_476 rfl <| xo_aload_n (pc := 477) (i := 0) dL_law_477 rfl <| xo_iload_n (pc := 478) (i := 3) dL_law_478 rfl <| xo_iconst (pc := 479) dL_law_479 (by decide) <| xo_iadd (pc := 480) dL_law_480 <| xo_sld (pc := 481) dL_law_481 <| xo_aload_n (pc := 482) (i := 0) dL_law_482 rfl <| xo_iload_n (pc := 483) (i := 3) dL_law_483 rfl <| xo_iconst (pc := 484) dL_law_484 (by decide) <| xo_iadd (pc := 485) dL_law_485 <| xo_sld (pc := 486) dL_law_486 <| xo_callV (pc := 487) (np := 2) (ci := 10) rfl (cM_X11_power G l) dL_law_487 kw972 kw969 kw970 kw971 kw1 (by decide +kernel) (by decide) <| xo_aload_n (pc := 490) (i := 2) dL_law_490 rfl <| xo_aload_n (pc := 491) (i := 0) dL_law_491 rfl <| xo_iload_n (pc := 492) (i := 3) dL_law_492 rfl <| xo_iconst (pc := 493) dL_law_493 (by decide) <| xo_iadd (pc := 494) dL_law_494 <| xo_sld (pc := 495) dL_law_495 <| xo_aload_n (pc := 496) (i := 0) dL_law_496 rfl <| xo_iload_n (pc := 497) (i := 3) dL_law_497 rfl <| xo_iconst (pc := 498) dL_law_498 (by decide) <| xo_iadd (pc := 499) dL_law_499 <| xo_sld (pc := 500) dL_law_500 <| xo_callV (pc := 501) (np := 2) (ci := 13) rfl (cM_X14_power G l) dL_law_501 kw1583 kw1580 kw1581 kw1582 kw13 (by decide +kernel) (by decide) <| xo_icmp_eq (pc := 504) (tgt := 849) dL_law_504 (by decide) ((s_L_law_849 G l b N xs KR P hR K18 h18)) <| xo_iconst (pc := 507) dL_law_507 (by decide) <| xo_no
theorem s_L_law_509 (G : xG) (l : Launch) (b N : Nat) (xs : Nat → Int32) (KR : xK) (P : xP) (hR : xW G l m_L_law (lX G b N xs) P 856 KR) (K18 : xK) (h18 : xW G l m_L_law (lX G b N xs) P 18 K18) : xW G l m_L_law (lX G b N xs) P 509 (b_L_law_509 b N xs KR K18) := xo_aload_n (pc := 509) (i := 1) dL_law_509 rfl <| xo_callV (pc := 510) (np := 0) (ci := 10) rfl (cM_X11_count G l) dL_law_510 kw976 kw973 kw974 kw975 kw1 (by decide +kernel) (by decide) <| xo_aload_n (pc := 513) (i := 2) dL_law_513 rfl <| xo_callV (pc := 514) (np := 0) (ci := 13) rfl (cM_X14_count G l) dL_law_514 kw1595 kw1592 kw1593 kw1594 kw13 (by decide +kernel) (by decide) <| xo_icmp_eq (pc := 517) (tgt := 849) dL_law_517 (by decide) ((s_L_law_849 G l b N xs KR P hR K18 h18)) <| xo_iconst (pc := 520) dL_law_520 (by decide) <| xo_no
theorem s_L_law_522 (G : xG) (l : Launch) (b N : Nat) (xs : Nat → Int32) (KR : xK) (P : xP) (hR : xW G l m_L_law (lX G b N xs) P 856 KR) (K18 : xK) (h18 : xW G l m_L_law (lX G b N xs) P 18 K18) : xW G l m_L_law (lX G b N xs) P 522 (b_L_law_522 b N xs KR K18) := xo_aload_n (pc := 522) (i := 1) dL_law_522 rfl <| xo_callV (pc := 523) (np := 0) (ci := 10) rfl (cM_X11_clear G l) dL_law_523 kw980 kw977 kw978 kw979 kw1 (by decide +kernel) (by decide) <| xo_aload_n (pc := 526) (i := 2) dL_law_526 rfl <| xo_callV (pc := 527) (np := 0) (ci := 13) rfl (cM_X14_clear G l) dL_law_527 kw1599 kw1596 kw1597 kw1598 kw13 (by decide +kernel) (by decide) <| xo_icmp_eq (pc := 530) (tgt := 849) dL_law_530 (by decide) ((s_L_law_849 G l b N xs KR P hR K18 h18)) <| xo_iconst (pc := 533) dL_law_533 (by decide) <| xo_no
theorem s_L_law_535 (G : xG) (l : Launch) (b N : Nat) (xs : Nat → Int32) (KR : xK) (P : xP) (hR : xW G l m_L_law (lX G b N xs) P 856 KR) (K18 : xK) (h18 : xW G l m_L_law (lX G b N xs) P 18 K18) : xW G l m_L_law (lX G b N xs) P 535 (b_L_law_535 b N xs KR K18) := xo_aload_n (pc := 535) (i := 1) dL_law_535 rfl <| xo_aload_n (pc := 536) (i := 0) dL_law_536 rfl <| xo_iload_n (pc := 537) (i := 3) dL_law_537 rfl <| xo_iconst (pc := 538) dL_law_538 (by decide) <| xo_iadd (pc := 539) dL_law_539 <| xo_sld (pc := 540) dL_law_540 <| xo_callV (pc := 541) (np := 1) (ci := 10) rfl (cM_X11_low G l) dL_law_541 kw988 kw985 kw986 kw987 kw1 (by decide +kernel) (by decide) <| xo_aload_n (pc := 544) (i := 2) dL_law_544 rfl <| xo_aload_n (pc := 545) (i := 0) dL_law_545 rfl <| xo_iload_n (pc := 546) (i := 3) dL_law_546 rfl <| xo_iconst (pc := 547) dL_law_547 (by decide) <| xo_iadd (pc := 548) dL_law_548 <| xo_sld (pc := 549) dL_law_549 <| xo_callV (pc := 550) (np := 1) (ci := 13) rfl (cM_X14_low G l) dL_law_550 kw1603 kw1600 kw1601 kw1602 kw13 (by decide +kernel) (by decide) <| xo_lcmp (pc := 553) dL_law_553 <| xo_if_eq (pc := 554) (tgt := 849) dL_law_554 (by decide) ((s_L_law_849 G l b N xs KR P hR K18 h18)) <| xo_iconst (pc := 557) dL_law_557 (by decide) <| xo_no
theorem s_L_law_559 (G : xG) (l : Launch) (b N : Nat) (xs : Nat → Int32) (KR : xK) (P : xP) (hR : xW G l m_L_law (lX G b N xs) P 856 KR) (K18 : xK) (h18 : xW G l m_L_law (lX G b N xs) P 18 K18) : xW G l m_L_law (lX G b N xs) P 559 (b_L_law_559 b N xs KR K18) := xo_aload_n (pc := 559) (i := 1) dL_law_559 rfl <| xo_aload_n (pc := 560) (i := 0) dL_law_560 rfl <| xo_iload_n (pc := 561) (i := 3) dL_law_561 rfl <| xo_iconst (pc := 562) dL_law_562 (by decide) <| xo_iadd (pc := 563) dL_law_563 <| xo_sld (pc := 564) dL_law_564 <| xo_callV (pc := 565) (np := 1) (ci := 10) rfl (cM_X11_high G l) dL_law_565 kw998 kw995 kw996 kw997 kw1 (by decide +kernel) (by decide) <| xo_aload_n (pc := 568) (i := 2) dL_law_568 rfl <| xo_aload_n (pc := 569) (i := 0) dL_law_569 rfl <| xo_iload_n (pc := 570) (i := 3) dL_law_570 rfl <| xo_iconst (pc := 571) dL_law_571 (by decide) <| xo_iadd (pc := 572) dL_law_572 <| xo_sld (pc := 573) dL_law_573 <| xo_callV (pc := 574) (np := 1) (ci := 13) rfl (cM_X14_high G l) dL_law_574 kw1608 kw1605 kw1606 kw1607 kw13 (by decide +kernel) (by decide) <| xo_lcmp (pc := 577) dL_law_577 <| xo_if_eq (pc := 578) (tgt := 849) dL_law_578 (by decide) ((s_L_law_849 G l b N xs KR P hR K18 h18)) <| xo_iconst (pc := 581) dL_law_581 (by decide) <| xo_no
theorem s_L_law_583 (G : xG) (l : Launch) (b N : Nat) (xs : Nat → Int32) (KR : xK) (P : xP) (hR : xW G l m_L_law (lX G b N xs) P 856 KR) (K18 : xK) (h18 : xW G l m_L_law (lX G b N xs) P 18 K18) : xW G l m_L_law (lX G b N xs) P 583 (b_L_law_583 b N xs KR K18) := xo_aload_n (pc := 583) (i := 1) dL_law_583 rfl <| xo_aload_n (pc := 584) (i := 0) dL_law_584 rfl <| xo_iload_n (pc := 585) (i := 3) dL_law_585 rfl <| xo_iconst (pc := 586) dL_law_586 (by decide) <| xo_iadd (pc := 587) dL_law_587 <| xo_sld (pc := 588) dL_law_588 <| xo_callV (pc := 589) (np := 1) (ci := 10) rfl (cM_X11_markOf G l) dL_law_589 kw1002 kw999 kw1000 kw1001 kw1 (by decide +kernel) (by decide) <| xo_aload_n (pc := 592) (i := 2) dL_law_592 rfl <| xo_aload_n (pc := 593) (i := 0) dL_law_593 rfl <| xo_iload_n (pc := 594) (i := 3) dL_law_594 rfl <| xo_iconst (pc := 595) dL_law_595 (by decide) <| xo_iadd (pc := 596) dL_law_596 <| xo_sld (pc := 597) dL_law_597 <| xo_callV (pc := 598) (np := 1) (ci := 13) rfl (cM_X14_markOf G l) dL_law_598 kw1612 kw1609 kw1610 kw1611 kw13 (by decide +kernel) (by decide) <| xo_icmp_eq (pc := 601) (tgt := 849) dL_law_601 (by decide) ((s_L_law_849 G l b N xs KR P hR K18 h18)) <| xo_iconst (pc := 604) dL_law_604 (by decide) <| xo_no
theorem s_L_law_606 (G : xG) (l : Launch) (b N : Nat) (xs : Nat → Int32) (KR : xK) (P : xP) (hR : xW G l m_L_law (lX G b N xs) P 856 KR) (K18 : xK) (h18 : xW G l m_L_law (lX G b N xs) P 18 K18) : xW G l m_L_law (lX G b N xs) P 606 (b_L_law_606 b N xs KR K18) := xo_aload_n (pc := 606) (i := 1) dL_law_606 rfl <| xo_aload_n (pc := 607) (i := 0) dL_law_607 rfl <| xo_iload_n (pc := 608) (i := 3) dL_law_608 rfl <| xo_iconst (pc := 609) dL_law_609 (by decide) <| xo_iadd (pc := 610) dL_law_610 <| xo_sld (pc := 611) dL_law_611 <| xo_aload_n (pc := 612) (i := 0) dL_law_612 rfl <| xo_iload_n (pc := 613) (i := 3) dL_law_613 rfl <| xo_iconst (pc := 614) dL_law_614 (by decide) <| xo_iadd (pc := 615) dL_law_615 <| xo_sld (pc := 616) dL_law_616 <| xo_callV (pc := 617) (np := 2) (ci := 10) rfl (cM_X11_number G l) dL_law_617 kw1006 kw1003 kw1004 kw1005 kw1 (by decide +kernel) (by decide) <| xo_aload_n (pc := 620) (i := 2) dL_law_620 rfl <| xo_aload_n (pc := 621) (i := 0) dL_law_621 rfl <| xo_iload_n (pc := 622) (i := 3) dL_law_622 rfl <| xo_iconst (pc := 623) dL_law_623 (by decide) <| xo_iadd (pc := 624) dL_law_624 <| xo_sld (pc := 625) dL_law_625 <| xo_aload_n (pc := 626) (i := 0) dL_law_626 rfl <| xo_iload_n (pc := 627) (i := 3) dL_law_627 rfl <| xo_iconst (pc := 628) dL_law_628 (by decide) <| xo_iadd (pc := 629) dL_law_629 <| xo_sld (pc := 630) dL_law_630 <| xo_callV (pc := 631) (np := 2) (ci := 13) rfl (cM_X14_number G l) dL_law_631 kw1620 kw1617 kw1618 kw1619 kw13 (by decide +kernel) (by decide) <| xo_lcmp (pc := 634) dL_law_634 <| xo_if_eq (pc := 635) (tgt := 849) dL_law_635 (by decide) ((s_L_law_849 G l b N xs KR P hR K18 h18)) <| xo_iconst (pc := 638) dL_law_638 (by decide) <| xo_no
theorem s_L_law_640 (G : xG) (l : Launch) (b N : Nat) (xs : Nat → Int32) (KR : xK) (P : xP) (hR : xW G l m_L_law (lX G b N xs) P 856 KR) (K18 : xK) (h18 : xW G l m_L_law (lX G b N xs) P 18 K18) : xW G l m_L_law (lX G b N xs) P 640 (b_L_law_640 b N xs KR K18) := xo_aload_n (pc := 640) (i := 1) dL_law_640 rfl <| xo_aload_n (pc := 641) (i := 0) dL_law_641 rfl <| xo_iload_n (pc := 642) (i := 3) dL_law_642 rfl <| xo_iconst (pc := 643) dL_law_643 (by decide) <| xo_iadd (pc := 644) dL_law_644 <| xo_sld (pc := 645) dL_law_645 <| xo_aload_n (pc := 646) (i := 0) dL_law_646 rfl <| xo_iload_n (pc := 647) (i := 3) dL_law_647 rfl <| xo_iconst (pc := 648) dL_law_648 (by decide) <| xo_iadd (pc := 649) dL_law_649 <| xo_sld (pc := 650) dL_law_650 <| xo_callV (pc := 651) (np := 2) (ci := 10) rfl (cM_X11_is G l) dL_law_651 kw1043 kw1040 kw1041 kw1042 kw1 (by decide +kernel) (by decide) <| xo_aload_n (pc := 654) (i := 2) dL_law_654 rfl <| xo_aload_n (pc := 655) (i := 0) dL_law_655 rfl <| xo_iload_n (pc := 656) (i := 3) dL_law_656 rfl <| xo_iconst (pc := 657) dL_law_657 (by decide) <| xo_iadd (pc := 658) dL_law_658 <| xo_sld (pc := 659) dL_law_659 <| xo_aload_n (pc := 660) (i := 0) dL_law_660 rfl <| xo_iload_n (pc := 661) (i := 3) dL_law_661 rfl <| xo_iconst (pc := 662) dL_law_662 (by decide) <| xo_iadd (pc := 663) dL_law_663 <| xo_sld (pc := 664) dL_law_664 <| xo_callV (pc := 665) (np := 2) (ci := 13) rfl (cM_X14_is G l) dL_law_665 kw1637 kw1634 kw1635 kw1636 kw13 (by decide +kernel) (by decide) <| xo_icmp_eq (pc := 668) (tgt := 849) dL_law_668 (by decide) ((s_L_law_849 G l b N xs KR P hR K18 h18)) <| xo_iconst (pc := 671) dL_law_671 (by decide) <| xo_no
theorem s_L_law_673 (G : xG) (l : Launch) (b N : Nat) (xs : Nat → Int32) (KR : xK) (P : xP) (hR : xW G l m_L_law (lX G b N xs) P 856 KR) (K18 : xK) (h18 : xW G l m_L_law (lX G b N xs) P 18 K18) : xW G l m_L_law (lX G b N xs) P 673 (b_L_law_673 b N xs KR K18) := xo_aload_n (pc := 673) (i := 1) dL_law_673 rfl <| xo_aload_n (pc := 674) (i := 0) dL_law_674 rfl <| xo_iload_n (pc := 675) (i := 3) dL_law_675 rfl <| xo_iconst (pc := 676) dL_law_676 (by decide) <| xo_iadd (pc := 677) dL_law_677 <| xo_sld (pc := 678) dL_law_678 <| xo_aload_n (pc := 679) (i := 0) dL_law_679 rfl <| xo_iload_n (pc := 680) (i := 3) dL_law_680 rfl <| xo_iconst (pc := 681) dL_law_681 (by decide) <| xo_iadd (pc := 682) dL_law_682 <| xo_sld (pc := 683) dL_law_683 <| xo_i2l (pc := 684) dL_law_684 <| xo_bipush (pc := 685) dL_law_685 (by decide) <| xo_lshl (pc := 687) dL_law_687 <| xo_aload_n (pc := 688) (i := 0) dL_law_688 rfl <| xo_iload_n (pc := 689) (i := 3) dL_law_689 rfl <| xo_iconst (pc := 690) dL_law_690 (by decide) <| xo_iadd (pc := 691) dL_law_691 <| xo_sld (pc := 692) dL_law_692 <| xo_i2l (pc := 693) dL_law_693 <| xo_ldc2_w (pc := 694) dL_law_694 kw1789 <| xo_land (pc := 697) dL_law_697 <| xo_lor (pc := 698) dL_law_698 <| xo_callV (pc := 699) (np := 2) (ci := 10) rfl (cM_X11_has G l) dL_law_699 kw1051 kw1048 kw1049 kw1050 kw1 (by decide +kernel) (by decide) <| xo_aload_n (pc := 702) (i := 2) dL_law_702 rfl <| xo_aload_n (pc := 703) (i := 0) dL_law_703 rfl <| xo_iload_n (pc := 704) (i := 3) dL_law_704 rfl <| xo_iconst (pc := 705) dL_law_705 (by decide) <| xo_iadd (pc := 706) dL_law_706 <| xo_sld (pc := 707) dL_law_707 <| xo_aload_n (pc := 708) (i := 0) dL_law_708 rfl <| xo_iload_n (pc := 709) (i := 3) dL_law_709 rfl <| xo_iconst (pc := 710) dL_law_710 (by decide) <| xo_iadd (pc := 711) dL_law_711 <| xo_sld (pc := 712) dL_law_712 <| xo_i2l (pc := 713) dL_law_713 <| xo_bipush (pc := 714) dL_law_714 (by decide) <| xo_lshl (pc := 716) dL_law_716 <| xo_aload_n (pc := 717) (i := 0) dL_law_717 rfl <| xo_iload_n (pc := 718) (i := 3) dL_law_718 rfl <| xo_iconst (pc := 719) dL_law_719 (by decide) <| xo_iadd (pc := 720) dL_law_720 <| xo_sld (pc := 721) dL_law_721 <| xo_i2l (pc := 722) dL_law_722 <| xo_ldc2_w (pc := 723) dL_law_723 kw1789 <| xo_land (pc := 726) dL_law_726 <| xo_lor (pc := 727) dL_law_727 <| xo_callV (pc := 728) (np := 2) (ci := 13) rfl (cM_X14_has G l) dL_law_728 kw1641 kw1638 kw1639 kw1640 kw13 (by decide +kernel) (by decide) <| xo_icmp_eq (pc := 731) (tgt := 849) dL_law_731 (by decide) ((s_L_law_849 G l b N xs KR P hR K18 h18)) <| xo_iconst (pc := 734) dL_law_734 (by decide) <| xo_no
theorem s_L_law_736 (G : xG) (l : Launch) (b N : Nat) (xs : Nat → Int32) (KR : xK) (P : xP) (hR : xW G l m_L_law (lX G b N xs) P 856 KR) (K18 : xK) (h18 : xW G l m_L_law (lX G b N xs) P 18 K18) : xW G l m_L_law (lX G b N xs) P 736 (b_L_law_736 b N xs KR K18) := xo_aload_n (pc := 736) (i := 1) dL_law_736 rfl <| xo_aload_n (pc := 737) (i := 0) dL_law_737 rfl <| xo_iload_n (pc := 738) (i := 3) dL_law_738 rfl <| xo_iconst (pc := 739) dL_law_739 (by decide) <| xo_iadd (pc := 740) dL_law_740 <| xo_sld (pc := 741) dL_law_741 <| xo_aload_n (pc := 742) (i := 0) dL_law_742 rfl <| xo_iload_n (pc := 743) (i := 3) dL_law_743 rfl <| xo_iconst (pc := 744) dL_law_744 (by decide) <| xo_iadd (pc := 745) dL_law_745 <| xo_sld (pc := 746) dL_law_746 <| xo_aload_n (pc := 747) (i := 0) dL_law_747 rfl <| xo_iload_n (pc := 748) (i := 3) dL_law_748 rfl <| xo_iconst (pc := 749) dL_law_749 (by decide) <| xo_iadd (pc := 750) dL_law_750 <| xo_sld (pc := 751) dL_law_751 <| xo_callV (pc := 752) (np := 3) (ci := 10) rfl (cM_X11_compare G l) dL_law_752 kw1056 kw1053 kw1054 kw1055 kw1 (by decide +kernel) (by decide) <| xo_aload_n (pc := 755) (i := 2) dL_law_755 rfl <| xo_aload_n (pc := 756) (i := 0) dL_law_756 rfl <| xo_iload_n (pc := 757) (i := 3) dL_law_757 rfl <| xo_iconst (pc := 758) dL_law_758 (by decide) <| xo_iadd (pc := 759) dL_law_759 <| xo_sld (pc := 760) dL_law_760 <| xo_aload_n (pc := 761) (i := 0) dL_law_761 rfl <| xo_iload_n (pc := 762) (i := 3) dL_law_762 rfl <| xo_iconst (pc := 763) dL_law_763 (by decide) <| xo_iadd (pc := 764) dL_law_764 <| xo_sld (pc := 765) dL_law_765 <| xo_aload_n (pc := 766) (i := 0) dL_law_766 rfl <| xo_iload_n (pc := 767) (i := 3) dL_law_767 rfl <| xo_iconst (pc := 768) dL_law_768 (by decide) <| xo_iadd (pc := 769) dL_law_769 <| xo_sld (pc := 770) dL_law_770 <| xo_callV (pc := 771) (np := 3) (ci := 13) rfl (cM_X14_compare G l) dL_law_771 kw1645 kw1642 kw1643 kw1644 kw13 (by decide +kernel) (by decide) <| xo_icmp_eq (pc := 774) (tgt := 849) dL_law_774 (by decide) ((s_L_law_849 G l b N xs KR P hR K18 h18)) <| xo_iconst (pc := 777) dL_law_777 (by decide) <| xo_no
theorem s_L_law_779 (G : xG) (l : Launch) (b N : Nat) (xs : Nat → Int32) (KR : xK) (P : xP) (hR : xW G l m_L_law (lX G b N xs) P 856 KR) (K18 : xK) (h18 : xW G l m_L_law (lX G b N xs) P 18 K18) : xW G l m_L_law (lX G b N xs) P 779 (b_L_law_779 b N xs KR K18) := xo_aload_n (pc := 779) (i := 1) dL_law_779 rfl <| xo_aload_n (pc := 780) (i := 0) dL_law_780 rfl <| xo_iload_n (pc := 781) (i := 3) dL_law_781 rfl <| xo_iconst (pc := 782) dL_law_782 (by decide) <| xo_iadd (pc := 783) dL_law_783 <| xo_sld (pc := 784) dL_law_784 <| xo_aload_n (pc := 785) (i := 0) dL_law_785 rfl <| xo_iload_n (pc := 786) (i := 3) dL_law_786 rfl <| xo_iconst (pc := 787) dL_law_787 (by decide) <| xo_iadd (pc := 788) dL_law_788 <| xo_sld (pc := 789) dL_law_789 <| xo_callV (pc := 790) (np := 2) (ci := 10) rfl (cM_X11_write G l) dL_law_790 kw1071 kw1068 kw1069 kw1070 kw1 (by decide +kernel) (by decide) <| xo_aload_n (pc := 793) (i := 2) dL_law_793 rfl <| xo_aload_n (pc := 794) (i := 0) dL_law_794 rfl <| xo_iload_n (pc := 795) (i := 3) dL_law_795 rfl <| xo_iconst (pc := 796) dL_law_796 (by decide) <| xo_iadd (pc := 797) dL_law_797 <| xo_sld (pc := 798) dL_law_798 <| xo_aload_n (pc := 799) (i := 0) dL_law_799 rfl <| xo_iload_n (pc := 800) (i := 3) dL_law_800 rfl <| xo_iconst (pc := 801) dL_law_801 (by decide) <| xo_iadd (pc := 802) dL_law_802 <| xo_sld (pc := 803) dL_law_803 <| xo_callV (pc := 804) (np := 2) (ci := 13) rfl (cM_X14_write G l) dL_law_804 kw1743 kw1740 kw1741 kw1742 kw13 (by decide +kernel) (by decide) <| xo_icmp_eq (pc := 807) (tgt := 849) dL_law_807 (by decide) ((s_L_law_849 G l b N xs KR P hR K18 h18)) <| xo_iconst (pc := 810) dL_law_810 (by decide) <| xo_no
theorem s_L_law_812 (G : xG) (l : Launch) (b N : Nat) (xs : Nat → Int32) (KR : xK) (P : xP) (hR : xW G l m_L_law (lX G b N xs) P 856 KR) (K18 : xK) (h18 : xW G l m_L_law (lX G b N xs) P 18 K18) : xW G l m_L_law (lX G b N xs) P 812 (b_L_law_812 b N xs KR K18) := xo_aload_n (pc := 812) (i := 1) dL_law_812 rfl <| xo_aload_n (pc := 813) (i := 0) dL_law_813 rfl <| xo_iload_n (pc := 814) (i := 3) dL_law_814 rfl <| xo_iconst (pc := 815) dL_law_815 (by decide) <| xo_iadd (pc := 816) dL_law_816 <| xo_sld (pc := 817) dL_law_817 <| xo_callV (pc := 818) (np := 1) (ci := 10) rfl (cM_X11_word G l) dL_law_818 kw1137 kw1134 kw1135 kw1136 kw1 (by decide +kernel) (by decide) <| xo_aload_n (pc := 821) (i := 2) dL_law_821 rfl <| xo_aload_n (pc := 822) (i := 0) dL_law_822 rfl <| xo_iload_n (pc := 823) (i := 3) dL_law_823 rfl <| xo_iconst (pc := 824) dL_law_824 (by decide) <| xo_iadd (pc := 825) dL_law_825 <| xo_sld (pc := 826) dL_law_826 <| xo_callV (pc := 827) (np := 1) (ci := 13) rfl (cM_X14_word G l) dL_law_827 kw1788 kw1785 kw1786 kw1787 kw13 (by decide +kernel) (by decide) <| xo_lcmp (pc := 830) dL_law_830 <| xo_if_eq (pc := 831) (tgt := 849) dL_law_831 (by decide) ((s_L_law_849 G l b N xs KR P hR K18 h18)) <| xo_iconst (pc := 834) dL_law_834 (by decide) <| xo_no
theorem s_L_law_836 (G : xG) (l : Launch) (b N : Nat) (xs : Nat → Int32) (KR : xK) (P : xP) (hR : xW G l m_L_law (lX G b N xs) P 856 KR) (K18 : xK) (h18 : xW G l m_L_law (lX G b N xs) P 18 K18) : xW G l m_L_law (lX G b N xs) P 836 (b_L_law_836 b N xs KR K18) := xo_aload_n (pc := 836) (i := 1) dL_law_836 rfl <| xo_callV (pc := 837) (np := 0) (ci := 10) rfl (cM_X11_astray G l) dL_law_837 kw1145 kw1142 kw1143 kw1144 kw1 (by decide +kernel) (by decide) <| xo_aload_n (pc := 840) (i := 2) dL_law_840 rfl <| xo_callV (pc := 841) (np := 0) (ci := 13) rfl (cM_X14_astray G l) dL_law_841 kw1616 kw1613 kw1614 kw1615 kw13 (by decide +kernel) (by decide) <| xo_icmp_eq (pc := 844) (tgt := 849) dL_law_844 (by decide) ((s_L_law_849 G l b N xs KR P hR K18 h18)) <| xo_iconst (pc := 847) dL_law_847 (by decide) <| xo_no
theorem s_L_law_18 (G : xG) (l : Launch) (b N : Nat) (xs : Nat → Int32) (KR : xK) (P : xP) (hR : xW G l m_L_law (lX G b N xs) P 856 KR) (K18 : xK) (h18 : xW G l m_L_law (lX G b N xs) P 18 K18) : xW G l m_L_law (lX G b N xs) P 18 (b_L_law_18 b N xs KR K18) := xo_iload_n (pc := 18) (i := 3) dL_law_18 rfl <| xo_aload_n (pc := 19) (i := 0) dL_law_19 rfl <| xo_slen (pc := 20) dL_law_20 <| xo_bipush (pc := 21) dL_law_21 (by decide) <| xo_isub (pc := 23) dL_law_23 <| xo_icmp_gt (pc := 24) (tgt := 855) dL_law_24 (by decide) (xo_iconst (pc := 855) dL_law_855 (by decide) <| hR) <| xo_aload_n (pc := 27) (i := 0) dL_law_27 rfl <| xo_iload_n (pc := 28) (i := 3) dL_law_28 rfl <| xo_sld (pc := 29) dL_law_29 <| xo_bipush (pc := 30) dL_law_30 (by decide) <| xo_iand (pc := 32) dL_law_32 <| xo_tsw (pc := 33) (tgt := 849) dL_law_33 (by decide) rfl ((s_L_law_849 G l b N xs KR P hR K18 h18)) (xtsw_c (t := 132) (by decide) ((s_L_law_132 G l b N xs KR P hR K18 h18)) (xtsw_c (t := 195) (by decide) ((s_L_law_195 G l b N xs KR P hR K18 h18)) (xtsw_c (t := 218) (by decide) ((s_L_law_218 G l b N xs KR P hR K18 h18)) (xtsw_c (t := 231) (by decide) ((s_L_law_231 G l b N xs KR P hR K18 h18)) (xtsw_c (t := 324) (by decide) ((s_L_law_324 G l b N xs KR P hR K18 h18)) (xtsw_c (t := 357) (by decide) ((s_L_law_357 G l b N xs KR P hR K18 h18)) (xtsw_c (t := 390) (by decide) ((s_L_law_390 G l b N xs KR P hR K18 h18)) (xtsw_c (t := 433) (by decide) ((s_L_law_433 G l b N xs KR P hR K18 h18)) (xtsw_c (t := 476) (by decide) ((s_L_law_476 G l b N xs KR P hR K18 h18)) (xtsw_c (t := 509) (by decide) ((s_L_law_509 G l b N xs KR P hR K18 h18)) (xtsw_c (t := 522) (by decide) ((s_L_law_522 G l b N xs KR P hR K18 h18)) (xtsw_c (t := 535) (by decide) ((s_L_law_535 G l b N xs KR P hR K18 h18)) (xtsw_c (t := 559) (by decide) ((s_L_law_559 G l b N xs KR P hR K18 h18)) (xtsw_c (t := 583) (by decide) ((s_L_law_583 G l b N xs KR P hR K18 h18)) (xtsw_c (t := 606) (by decide) ((s_L_law_606 G l b N xs KR P hR K18 h18)) (xtsw_c (t := 640) (by decide) ((s_L_law_640 G l b N xs KR P hR K18 h18)) (xtsw_c (t := 673) (by decide) ((s_L_law_673 G l b N xs KR P hR K18 h18)) (xtsw_c (t := 736) (by decide) ((s_L_law_736 G l b N xs KR P hR K18 h18)) (xtsw_c (t := 779) (by decide) ((s_L_law_779 G l b N xs KR P hR K18 h18)) (xtsw_c (t := 812) (by decide) ((s_L_law_812 G l b N xs KR P hR K18 h18)) (xtsw_c (t := 836) (by decide) ((s_L_law_836 G l b N xs KR P hR K18 h18)) xtsw_n)))))))))))))))))))))

