theorem dLw_law_0 : decode mLw_law.2.2.2.1 0 = .ok ((.new 7), 3) := by decide +kernel
theorem dLw_law_3 : decode mLw_law.2.2.2.1 3 = .ok (.dup, 1) := by decide +kernel
theorem dLw_law_4 : decode mLw_law.2.2.2.1 4 = .ok ((.invokespecial 9), 3) := by decide +kernel
theorem dLw_law_7 : decode mLw_law.2.2.2.1 7 = .ok ((.astore_n 1), 1) := by decide +kernel
theorem dLw_law_8 : decode mLw_law.2.2.2.1 8 = .ok ((.new 10), 3) := by decide +kernel
theorem dLw_law_11 : decode mLw_law.2.2.2.1 11 = .ok (.dup, 1) := by decide +kernel
theorem dLw_law_12 : decode mLw_law.2.2.2.1 12 = .ok ((.invokespecial 12), 3) := by decide +kernel
theorem dLw_law_15 : decode mLw_law.2.2.2.1 15 = .ok ((.astore_n 2), 1) := by decide +kernel
theorem dLw_law_16 : decode mLw_law.2.2.2.1 16 = .ok ((.iconst (0)), 1) := by decide +kernel
theorem dLw_law_17 : decode mLw_law.2.2.2.1 17 = .ok ((.istore_n 3), 1) := by decide +kernel
theorem dLw_law_18 : decode mLw_law.2.2.2.1 18 = .ok ((.iload_n 3), 1) := by decide +kernel
theorem dLw_law_19 : decode mLw_law.2.2.2.1 19 = .ok ((.aload_n 0), 1) := by decide +kernel
theorem dLw_law_20 : decode mLw_law.2.2.2.1 20 = .ok (.arraylength, 1) := by decide +kernel
theorem dLw_law_21 : decode mLw_law.2.2.2.1 21 = .ok ((.iconst (5)), 1) := by decide +kernel
theorem dLw_law_22 : decode mLw_law.2.2.2.1 22 = .ok (.isub, 1) := by decide +kernel
theorem dLw_law_23 : decode mLw_law.2.2.2.1 23 = .ok ((.if_icmp .gt (799)), 3) := by decide +kernel
theorem dLw_law_26 : decode mLw_law.2.2.2.1 26 = .ok ((.aload_n 0), 1) := by decide +kernel
theorem dLw_law_27 : decode mLw_law.2.2.2.1 27 = .ok ((.iload_n 3), 1) := by decide +kernel
theorem dLw_law_28 : decode mLw_law.2.2.2.1 28 = .ok (.iaload, 1) := by decide +kernel
theorem dLw_law_29 : decode mLw_law.2.2.2.1 29 = .ok ((.bipush (31)), 2) := by decide +kernel
theorem dLw_law_31 : decode mLw_law.2.2.2.1 31 = .ok (.iand, 1) := by decide +kernel
theorem dLw_law_32 : decode mLw_law.2.2.2.1 32 = .ok ((.tableswitch (784) (0) (17) #[88, 101, 174, 267, 280, 293, 346, 400, 453, 517, 590, 603, 626, 639, 662, 695, 738, 761]), 88) := by decide +kernel
theorem dLw_law_120 : decode mLw_law.2.2.2.1 120 = .ok ((.aload_n 1), 1) := by decide +kernel
theorem dLw_law_121 : decode mLw_law.2.2.2.1 121 = .ok ((.invokevirtual 13), 3) := by decide +kernel
theorem dLw_law_124 : decode mLw_law.2.2.2.1 124 = .ok ((.aload_n 2), 1) := by decide +kernel
theorem dLw_law_125 : decode mLw_law.2.2.2.1 125 = .ok ((.invokevirtual 17), 3) := by decide +kernel
theorem dLw_law_128 : decode mLw_law.2.2.2.1 128 = .ok ((.if_icmp .eq (688)), 3) := by decide +kernel
theorem dLw_law_131 : decode mLw_law.2.2.2.1 131 = .ok ((.iconst (0)), 1) := by decide +kernel
theorem dLw_law_132 : decode mLw_law.2.2.2.1 132 = .ok (.ireturn, 1) := by decide +kernel
theorem dLw_law_133 : decode mLw_law.2.2.2.1 133 = .ok ((.aload_n 1), 1) := by decide +kernel
theorem dLw_law_134 : decode mLw_law.2.2.2.1 134 = .ok ((.aload_n 0), 1) := by decide +kernel
theorem dLw_law_135 : decode mLw_law.2.2.2.1 135 = .ok ((.iload_n 3), 1) := by decide +kernel
theorem dLw_law_136 : decode mLw_law.2.2.2.1 136 = .ok ((.iconst (1)), 1) := by decide +kernel
theorem dLw_law_137 : decode mLw_law.2.2.2.1 137 = .ok (.iadd, 1) := by decide +kernel
theorem dLw_law_138 : decode mLw_law.2.2.2.1 138 = .ok (.iaload, 1) := by decide +kernel
theorem dLw_law_139 : decode mLw_law.2.2.2.1 139 = .ok (.i2l, 1) := by decide +kernel
theorem dLw_law_140 : decode mLw_law.2.2.2.1 140 = .ok ((.bipush (32)), 2) := by decide +kernel
theorem dLw_law_142 : decode mLw_law.2.2.2.1 142 = .ok (.lshl, 1) := by decide +kernel
theorem dLw_law_143 : decode mLw_law.2.2.2.1 143 = .ok ((.aload_n 0), 1) := by decide +kernel
theorem dLw_law_144 : decode mLw_law.2.2.2.1 144 = .ok ((.iload_n 3), 1) := by decide +kernel
theorem dLw_law_145 : decode mLw_law.2.2.2.1 145 = .ok ((.iconst (2)), 1) := by decide +kernel
theorem dLw_law_146 : decode mLw_law.2.2.2.1 146 = .ok (.iadd, 1) := by decide +kernel
theorem dLw_law_147 : decode mLw_law.2.2.2.1 147 = .ok (.iaload, 1) := by decide +kernel
theorem dLw_law_148 : decode mLw_law.2.2.2.1 148 = .ok (.i2l, 1) := by decide +kernel
theorem dLw_law_149 : decode mLw_law.2.2.2.1 149 = .ok ((.ldc2_w 18), 3) := by decide +kernel
theorem dLw_law_152 : decode mLw_law.2.2.2.1 152 = .ok (.land, 1) := by decide +kernel
theorem dLw_law_153 : decode mLw_law.2.2.2.1 153 = .ok (.lor, 1) := by decide +kernel
theorem dLw_law_154 : decode mLw_law.2.2.2.1 154 = .ok ((.aload_n 0), 1) := by decide +kernel
theorem dLw_law_155 : decode mLw_law.2.2.2.1 155 = .ok ((.iload_n 3), 1) := by decide +kernel
theorem dLw_law_156 : decode mLw_law.2.2.2.1 156 = .ok ((.iconst (3)), 1) := by decide +kernel
theorem dLw_law_157 : decode mLw_law.2.2.2.1 157 = .ok (.iadd, 1) := by decide +kernel
theorem dLw_law_158 : decode mLw_law.2.2.2.1 158 = .ok (.iaload, 1) := by decide +kernel
theorem dLw_law_159 : decode mLw_law.2.2.2.1 159 = .ok ((.aload_n 0), 1) := by decide +kernel
theorem dLw_law_160 : decode mLw_law.2.2.2.1 160 = .ok ((.iload_n 3), 1) := by decide +kernel
theorem dLw_law_161 : decode mLw_law.2.2.2.1 161 = .ok ((.iconst (4)), 1) := by decide +kernel
theorem dLw_law_162 : decode mLw_law.2.2.2.1 162 = .ok (.iadd, 1) := by decide +kernel
theorem dLw_law_163 : decode mLw_law.2.2.2.1 163 = .ok (.iaload, 1) := by decide +kernel
theorem dLw_law_164 : decode mLw_law.2.2.2.1 164 = .ok ((.invokevirtual 20), 3) := by decide +kernel
theorem dLw_law_167 : decode mLw_law.2.2.2.1 167 = .ok ((.aload_n 2), 1) := by decide +kernel
theorem dLw_law_168 : decode mLw_law.2.2.2.1 168 = .ok ((.aload_n 0), 1) := by decide +kernel
theorem dLw_law_169 : decode mLw_law.2.2.2.1 169 = .ok ((.iload_n 3), 1) := by decide +kernel
theorem dLw_law_170 : decode mLw_law.2.2.2.1 170 = .ok ((.iconst (1)), 1) := by decide +kernel
theorem dLw_law_171 : decode mLw_law.2.2.2.1 171 = .ok (.iadd, 1) := by decide +kernel
theorem dLw_law_172 : decode mLw_law.2.2.2.1 172 = .ok (.iaload, 1) := by decide +kernel
theorem dLw_law_173 : decode mLw_law.2.2.2.1 173 = .ok (.i2l, 1) := by decide +kernel
theorem dLw_law_174 : decode mLw_law.2.2.2.1 174 = .ok ((.bipush (32)), 2) := by decide +kernel
theorem dLw_law_176 : decode mLw_law.2.2.2.1 176 = .ok (.lshl, 1) := by decide +kernel
theorem dLw_law_177 : decode mLw_law.2.2.2.1 177 = .ok ((.aload_n 0), 1) := by decide +kernel
theorem dLw_law_178 : decode mLw_law.2.2.2.1 178 = .ok ((.iload_n 3), 1) := by decide +kernel
theorem dLw_law_179 : decode mLw_law.2.2.2.1 179 = .ok ((.iconst (2)), 1) := by decide +kernel
theorem dLw_law_180 : decode mLw_law.2.2.2.1 180 = .ok (.iadd, 1) := by decide +kernel
theorem dLw_law_181 : decode mLw_law.2.2.2.1 181 = .ok (.iaload, 1) := by decide +kernel
theorem dLw_law_182 : decode mLw_law.2.2.2.1 182 = .ok (.i2l, 1) := by decide +kernel
theorem dLw_law_183 : decode mLw_law.2.2.2.1 183 = .ok ((.ldc2_w 18), 3) := by decide +kernel
theorem dLw_law_186 : decode mLw_law.2.2.2.1 186 = .ok (.land, 1) := by decide +kernel
theorem dLw_law_187 : decode mLw_law.2.2.2.1 187 = .ok (.lor, 1) := by decide +kernel
theorem dLw_law_188 : decode mLw_law.2.2.2.1 188 = .ok ((.aload_n 0), 1) := by decide +kernel
theorem dLw_law_189 : decode mLw_law.2.2.2.1 189 = .ok ((.iload_n 3), 1) := by decide +kernel
theorem dLw_law_190 : decode mLw_law.2.2.2.1 190 = .ok ((.iconst (3)), 1) := by decide +kernel
theorem dLw_law_191 : decode mLw_law.2.2.2.1 191 = .ok (.iadd, 1) := by decide +kernel
theorem dLw_law_192 : decode mLw_law.2.2.2.1 192 = .ok (.iaload, 1) := by decide +kernel
theorem dLw_law_193 : decode mLw_law.2.2.2.1 193 = .ok ((.aload_n 0), 1) := by decide +kernel
theorem dLw_law_194 : decode mLw_law.2.2.2.1 194 = .ok ((.iload_n 3), 1) := by decide +kernel
theorem dLw_law_195 : decode mLw_law.2.2.2.1 195 = .ok ((.iconst (4)), 1) := by decide +kernel
theorem dLw_law_196 : decode mLw_law.2.2.2.1 196 = .ok (.iadd, 1) := by decide +kernel
theorem dLw_law_197 : decode mLw_law.2.2.2.1 197 = .ok (.iaload, 1) := by decide +kernel
theorem dLw_law_198 : decode mLw_law.2.2.2.1 198 = .ok ((.invokevirtual 24), 3) := by decide +kernel
theorem dLw_law_201 : decode mLw_law.2.2.2.1 201 = .ok ((.if_icmp .eq (615)), 3) := by decide +kernel
theorem dLw_law_204 : decode mLw_law.2.2.2.1 204 = .ok ((.iconst (0)), 1) := by decide +kernel
theorem dLw_law_205 : decode mLw_law.2.2.2.1 205 = .ok (.ireturn, 1) := by decide +kernel
theorem dLw_law_206 : decode mLw_law.2.2.2.1 206 = .ok ((.aload_n 1), 1) := by decide +kernel
theorem dLw_law_207 : decode mLw_law.2.2.2.1 207 = .ok ((.aload_n 0), 1) := by decide +kernel
theorem dLw_law_208 : decode mLw_law.2.2.2.1 208 = .ok ((.iload_n 3), 1) := by decide +kernel
theorem dLw_law_209 : decode mLw_law.2.2.2.1 209 = .ok ((.iconst (1)), 1) := by decide +kernel
theorem dLw_law_210 : decode mLw_law.2.2.2.1 210 = .ok (.iadd, 1) := by decide +kernel
theorem dLw_law_211 : decode mLw_law.2.2.2.1 211 = .ok (.iaload, 1) := by decide +kernel
theorem dLw_law_212 : decode mLw_law.2.2.2.1 212 = .ok (.i2l, 1) := by decide +kernel
theorem dLw_law_213 : decode mLw_law.2.2.2.1 213 = .ok ((.bipush (32)), 2) := by decide +kernel
theorem dLw_law_215 : decode mLw_law.2.2.2.1 215 = .ok (.lshl, 1) := by decide +kernel
theorem dLw_law_216 : decode mLw_law.2.2.2.1 216 = .ok ((.aload_n 0), 1) := by decide +kernel
theorem dLw_law_217 : decode mLw_law.2.2.2.1 217 = .ok ((.iload_n 3), 1) := by decide +kernel
theorem dLw_law_218 : decode mLw_law.2.2.2.1 218 = .ok ((.iconst (2)), 1) := by decide +kernel
theorem dLw_law_219 : decode mLw_law.2.2.2.1 219 = .ok (.iadd, 1) := by decide +kernel
theorem dLw_law_220 : decode mLw_law.2.2.2.1 220 = .ok (.iaload, 1) := by decide +kernel
theorem dLw_law_221 : decode mLw_law.2.2.2.1 221 = .ok (.i2l, 1) := by decide +kernel
theorem dLw_law_222 : decode mLw_law.2.2.2.1 222 = .ok ((.ldc2_w 18), 3) := by decide +kernel
theorem dLw_law_225 : decode mLw_law.2.2.2.1 225 = .ok (.land, 1) := by decide +kernel
theorem dLw_law_226 : decode mLw_law.2.2.2.1 226 = .ok (.lor, 1) := by decide +kernel
theorem dLw_law_227 : decode mLw_law.2.2.2.1 227 = .ok ((.aload_n 0), 1) := by decide +kernel
theorem dLw_law_228 : decode mLw_law.2.2.2.1 228 = .ok ((.iload_n 3), 1) := by decide +kernel
theorem dLw_law_229 : decode mLw_law.2.2.2.1 229 = .ok ((.iconst (3)), 1) := by decide +kernel
theorem dLw_law_230 : decode mLw_law.2.2.2.1 230 = .ok (.iadd, 1) := by decide +kernel
theorem dLw_law_231 : decode mLw_law.2.2.2.1 231 = .ok (.iaload, 1) := by decide +kernel
theorem dLw_law_232 : decode mLw_law.2.2.2.1 232 = .ok (.i2l, 1) := by decide +kernel
theorem dLw_law_233 : decode mLw_law.2.2.2.1 233 = .ok ((.bipush (32)), 2) := by decide +kernel
theorem dLw_law_235 : decode mLw_law.2.2.2.1 235 = .ok (.lshl, 1) := by decide +kernel
theorem dLw_law_236 : decode mLw_law.2.2.2.1 236 = .ok ((.aload_n 0), 1) := by decide +kernel
theorem dLw_law_237 : decode mLw_law.2.2.2.1 237 = .ok ((.iload_n 3), 1) := by decide +kernel
theorem dLw_law_238 : decode mLw_law.2.2.2.1 238 = .ok ((.iconst (4)), 1) := by decide +kernel
theorem dLw_law_239 : decode mLw_law.2.2.2.1 239 = .ok (.iadd, 1) := by decide +kernel
theorem dLw_law_240 : decode mLw_law.2.2.2.1 240 = .ok (.iaload, 1) := by decide +kernel
theorem dLw_law_241 : decode mLw_law.2.2.2.1 241 = .ok (.i2l, 1) := by decide +kernel
theorem dLw_law_242 : decode mLw_law.2.2.2.1 242 = .ok ((.ldc2_w 18), 3) := by decide +kernel
theorem dLw_law_245 : decode mLw_law.2.2.2.1 245 = .ok (.land, 1) := by decide +kernel
theorem dLw_law_246 : decode mLw_law.2.2.2.1 246 = .ok (.lor, 1) := by decide +kernel
theorem dLw_law_247 : decode mLw_law.2.2.2.1 247 = .ok ((.invokevirtual 25), 3) := by decide +kernel
theorem dLw_law_250 : decode mLw_law.2.2.2.1 250 = .ok ((.aload_n 2), 1) := by decide +kernel
theorem dLw_law_251 : decode mLw_law.2.2.2.1 251 = .ok ((.aload_n 0), 1) := by decide +kernel
theorem dLw_law_252 : decode mLw_law.2.2.2.1 252 = .ok ((.iload_n 3), 1) := by decide +kernel
theorem dLw_law_253 : decode mLw_law.2.2.2.1 253 = .ok ((.iconst (1)), 1) := by decide +kernel
theorem dLw_law_254 : decode mLw_law.2.2.2.1 254 = .ok (.iadd, 1) := by decide +kernel
theorem dLw_law_255 : decode mLw_law.2.2.2.1 255 = .ok (.iaload, 1) := by decide +kernel
theorem dLw_law_256 : decode mLw_law.2.2.2.1 256 = .ok (.i2l, 1) := by decide +kernel
theorem dLw_law_257 : decode mLw_law.2.2.2.1 257 = .ok ((.bipush (32)), 2) := by decide +kernel
theorem dLw_law_259 : decode mLw_law.2.2.2.1 259 = .ok (.lshl, 1) := by decide +kernel
theorem dLw_law_260 : decode mLw_law.2.2.2.1 260 = .ok ((.aload_n 0), 1) := by decide +kernel
theorem dLw_law_261 : decode mLw_law.2.2.2.1 261 = .ok ((.iload_n 3), 1) := by decide +kernel
theorem dLw_law_262 : decode mLw_law.2.2.2.1 262 = .ok ((.iconst (2)), 1) := by decide +kernel
theorem dLw_law_263 : decode mLw_law.2.2.2.1 263 = .ok (.iadd, 1) := by decide +kernel
theorem dLw_law_264 : decode mLw_law.2.2.2.1 264 = .ok (.iaload, 1) := by decide +kernel
theorem dLw_law_265 : decode mLw_law.2.2.2.1 265 = .ok (.i2l, 1) := by decide +kernel
theorem dLw_law_266 : decode mLw_law.2.2.2.1 266 = .ok ((.ldc2_w 18), 3) := by decide +kernel
theorem dLw_law_269 : decode mLw_law.2.2.2.1 269 = .ok (.land, 1) := by decide +kernel
theorem dLw_law_270 : decode mLw_law.2.2.2.1 270 = .ok (.lor, 1) := by decide +kernel
theorem dLw_law_271 : decode mLw_law.2.2.2.1 271 = .ok ((.aload_n 0), 1) := by decide +kernel
theorem dLw_law_272 : decode mLw_law.2.2.2.1 272 = .ok ((.iload_n 3), 1) := by decide +kernel
theorem dLw_law_273 : decode mLw_law.2.2.2.1 273 = .ok ((.iconst (3)), 1) := by decide +kernel
theorem dLw_law_274 : decode mLw_law.2.2.2.1 274 = .ok (.iadd, 1) := by decide +kernel
theorem dLw_law_275 : decode mLw_law.2.2.2.1 275 = .ok (.iaload, 1) := by decide +kernel
theorem dLw_law_276 : decode mLw_law.2.2.2.1 276 = .ok (.i2l, 1) := by decide +kernel
theorem dLw_law_277 : decode mLw_law.2.2.2.1 277 = .ok ((.bipush (32)), 2) := by decide +kernel
theorem dLw_law_279 : decode mLw_law.2.2.2.1 279 = .ok (.lshl, 1) := by decide +kernel
theorem dLw_law_280 : decode mLw_law.2.2.2.1 280 = .ok ((.aload_n 0), 1) := by decide +kernel
theorem dLw_law_281 : decode mLw_law.2.2.2.1 281 = .ok ((.iload_n 3), 1) := by decide +kernel
theorem dLw_law_282 : decode mLw_law.2.2.2.1 282 = .ok ((.iconst (4)), 1) := by decide +kernel
theorem dLw_law_283 : decode mLw_law.2.2.2.1 283 = .ok (.iadd, 1) := by decide +kernel
theorem dLw_law_284 : decode mLw_law.2.2.2.1 284 = .ok (.iaload, 1) := by decide +kernel
theorem dLw_law_285 : decode mLw_law.2.2.2.1 285 = .ok (.i2l, 1) := by decide +kernel
theorem dLw_law_286 : decode mLw_law.2.2.2.1 286 = .ok ((.ldc2_w 18), 3) := by decide +kernel
theorem dLw_law_289 : decode mLw_law.2.2.2.1 289 = .ok (.land, 1) := by decide +kernel
theorem dLw_law_290 : decode mLw_law.2.2.2.1 290 = .ok (.lor, 1) := by decide +kernel
theorem dLw_law_291 : decode mLw_law.2.2.2.1 291 = .ok ((.invokevirtual 29), 3) := by decide +kernel
theorem dLw_law_294 : decode mLw_law.2.2.2.1 294 = .ok ((.if_icmp .eq (522)), 3) := by decide +kernel
theorem dLw_law_297 : decode mLw_law.2.2.2.1 297 = .ok ((.iconst (0)), 1) := by decide +kernel
theorem dLw_law_298 : decode mLw_law.2.2.2.1 298 = .ok (.ireturn, 1) := by decide +kernel
theorem dLw_law_299 : decode mLw_law.2.2.2.1 299 = .ok ((.aload_n 1), 1) := by decide +kernel
theorem dLw_law_300 : decode mLw_law.2.2.2.1 300 = .ok ((.invokevirtual 30), 3) := by decide +kernel
theorem dLw_law_303 : decode mLw_law.2.2.2.1 303 = .ok ((.aload_n 2), 1) := by decide +kernel
theorem dLw_law_304 : decode mLw_law.2.2.2.1 304 = .ok ((.invokevirtual 34), 3) := by decide +kernel
theorem dLw_law_307 : decode mLw_law.2.2.2.1 307 = .ok ((.if_icmp .eq (509)), 3) := by decide +kernel
theorem dLw_law_310 : decode mLw_law.2.2.2.1 310 = .ok ((.iconst (0)), 1) := by decide +kernel
theorem dLw_law_311 : decode mLw_law.2.2.2.1 311 = .ok (.ireturn, 1) := by decide +kernel
theorem dLw_law_312 : decode mLw_law.2.2.2.1 312 = .ok ((.aload_n 1), 1) := by decide +kernel
theorem dLw_law_313 : decode mLw_law.2.2.2.1 313 = .ok ((.invokevirtual 35), 3) := by decide +kernel
theorem dLw_law_316 : decode mLw_law.2.2.2.1 316 = .ok ((.aload_n 2), 1) := by decide +kernel
theorem dLw_law_317 : decode mLw_law.2.2.2.1 317 = .ok ((.invokevirtual 38), 3) := by decide +kernel
theorem dLw_law_320 : decode mLw_law.2.2.2.1 320 = .ok ((.if_icmp .eq (496)), 3) := by decide +kernel
theorem dLw_law_323 : decode mLw_law.2.2.2.1 323 = .ok ((.iconst (0)), 1) := by decide +kernel
theorem dLw_law_324 : decode mLw_law.2.2.2.1 324 = .ok (.ireturn, 1) := by decide +kernel
theorem dLw_law_325 : decode mLw_law.2.2.2.1 325 = .ok ((.aload_n 1), 1) := by decide +kernel
theorem dLw_law_326 : decode mLw_law.2.2.2.1 326 = .ok ((.aload_n 0), 1) := by decide +kernel
theorem dLw_law_327 : decode mLw_law.2.2.2.1 327 = .ok ((.iload_n 3), 1) := by decide +kernel
theorem dLw_law_328 : decode mLw_law.2.2.2.1 328 = .ok ((.iconst (1)), 1) := by decide +kernel
theorem dLw_law_329 : decode mLw_law.2.2.2.1 329 = .ok (.iadd, 1) := by decide +kernel
theorem dLw_law_330 : decode mLw_law.2.2.2.1 330 = .ok (.iaload, 1) := by decide +kernel
theorem dLw_law_331 : decode mLw_law.2.2.2.1 331 = .ok (.i2l, 1) := by decide +kernel
theorem dLw_law_332 : decode mLw_law.2.2.2.1 332 = .ok ((.bipush (32)), 2) := by decide +kernel
theorem dLw_law_334 : decode mLw_law.2.2.2.1 334 = .ok (.lshl, 1) := by decide +kernel
theorem dLw_law_335 : decode mLw_law.2.2.2.1 335 = .ok ((.aload_n 0), 1) := by decide +kernel
theorem dLw_law_336 : decode mLw_law.2.2.2.1 336 = .ok ((.iload_n 3), 1) := by decide +kernel
theorem dLw_law_337 : decode mLw_law.2.2.2.1 337 = .ok ((.iconst (2)), 1) := by decide +kernel
theorem dLw_law_338 : decode mLw_law.2.2.2.1 338 = .ok (.iadd, 1) := by decide +kernel
theorem dLw_law_339 : decode mLw_law.2.2.2.1 339 = .ok (.iaload, 1) := by decide +kernel
theorem dLw_law_340 : decode mLw_law.2.2.2.1 340 = .ok (.i2l, 1) := by decide +kernel
theorem dLw_law_341 : decode mLw_law.2.2.2.1 341 = .ok ((.ldc2_w 18), 3) := by decide +kernel
theorem dLw_law_344 : decode mLw_law.2.2.2.1 344 = .ok (.land, 1) := by decide +kernel
theorem dLw_law_345 : decode mLw_law.2.2.2.1 345 = .ok (.lor, 1) := by decide +kernel
theorem dLw_law_346 : decode mLw_law.2.2.2.1 346 = .ok ((.invokevirtual 39), 3) := by decide +kernel
theorem dLw_law_349 : decode mLw_law.2.2.2.1 349 = .ok ((.aload_n 2), 1) := by decide +kernel
theorem dLw_law_350 : decode mLw_law.2.2.2.1 350 = .ok ((.aload_n 0), 1) := by decide +kernel
theorem dLw_law_351 : decode mLw_law.2.2.2.1 351 = .ok ((.iload_n 3), 1) := by decide +kernel
theorem dLw_law_352 : decode mLw_law.2.2.2.1 352 = .ok ((.iconst (1)), 1) := by decide +kernel
theorem dLw_law_353 : decode mLw_law.2.2.2.1 353 = .ok (.iadd, 1) := by decide +kernel
theorem dLw_law_354 : decode mLw_law.2.2.2.1 354 = .ok (.iaload, 1) := by decide +kernel
theorem dLw_law_355 : decode mLw_law.2.2.2.1 355 = .ok (.i2l, 1) := by decide +kernel
theorem dLw_law_356 : decode mLw_law.2.2.2.1 356 = .ok ((.bipush (32)), 2) := by decide +kernel
theorem dLw_law_358 : decode mLw_law.2.2.2.1 358 = .ok (.lshl, 1) := by decide +kernel
theorem dLw_law_359 : decode mLw_law.2.2.2.1 359 = .ok ((.aload_n 0), 1) := by decide +kernel
theorem dLw_law_360 : decode mLw_law.2.2.2.1 360 = .ok ((.iload_n 3), 1) := by decide +kernel
theorem dLw_law_361 : decode mLw_law.2.2.2.1 361 = .ok ((.iconst (2)), 1) := by decide +kernel
theorem dLw_law_362 : decode mLw_law.2.2.2.1 362 = .ok (.iadd, 1) := by decide +kernel
theorem dLw_law_363 : decode mLw_law.2.2.2.1 363 = .ok (.iaload, 1) := by decide +kernel
theorem dLw_law_364 : decode mLw_law.2.2.2.1 364 = .ok (.i2l, 1) := by decide +kernel
theorem dLw_law_365 : decode mLw_law.2.2.2.1 365 = .ok ((.ldc2_w 18), 3) := by decide +kernel
theorem dLw_law_368 : decode mLw_law.2.2.2.1 368 = .ok (.land, 1) := by decide +kernel
theorem dLw_law_369 : decode mLw_law.2.2.2.1 369 = .ok (.lor, 1) := by decide +kernel
theorem dLw_law_370 : decode mLw_law.2.2.2.1 370 = .ok ((.invokevirtual 43), 3) := by decide +kernel
theorem dLw_law_373 : decode mLw_law.2.2.2.1 373 = .ok ((.if_icmp .eq (443)), 3) := by decide +kernel
theorem dLw_law_376 : decode mLw_law.2.2.2.1 376 = .ok ((.iconst (0)), 1) := by decide +kernel
theorem dLw_law_377 : decode mLw_law.2.2.2.1 377 = .ok (.ireturn, 1) := by decide +kernel
theorem dLw_law_378 : decode mLw_law.2.2.2.1 378 = .ok ((.aload_n 1), 1) := by decide +kernel
theorem dLw_law_379 : decode mLw_law.2.2.2.1 379 = .ok ((.aload_n 0), 1) := by decide +kernel
theorem dLw_law_380 : decode mLw_law.2.2.2.1 380 = .ok ((.iload_n 3), 1) := by decide +kernel
theorem dLw_law_381 : decode mLw_law.2.2.2.1 381 = .ok ((.iconst (1)), 1) := by decide +kernel
theorem dLw_law_382 : decode mLw_law.2.2.2.1 382 = .ok (.iadd, 1) := by decide +kernel
theorem dLw_law_383 : decode mLw_law.2.2.2.1 383 = .ok (.iaload, 1) := by decide +kernel
theorem dLw_law_384 : decode mLw_law.2.2.2.1 384 = .ok (.i2l, 1) := by decide +kernel
theorem dLw_law_385 : decode mLw_law.2.2.2.1 385 = .ok ((.bipush (32)), 2) := by decide +kernel
theorem dLw_law_387 : decode mLw_law.2.2.2.1 387 = .ok (.lshl, 1) := by decide +kernel
theorem dLw_law_388 : decode mLw_law.2.2.2.1 388 = .ok ((.aload_n 0), 1) := by decide +kernel
theorem dLw_law_389 : decode mLw_law.2.2.2.1 389 = .ok ((.iload_n 3), 1) := by decide +kernel
theorem dLw_law_390 : decode mLw_law.2.2.2.1 390 = .ok ((.iconst (2)), 1) := by decide +kernel
theorem dLw_law_391 : decode mLw_law.2.2.2.1 391 = .ok (.iadd, 1) := by decide +kernel
theorem dLw_law_392 : decode mLw_law.2.2.2.1 392 = .ok (.iaload, 1) := by decide +kernel
theorem dLw_law_393 : decode mLw_law.2.2.2.1 393 = .ok (.i2l, 1) := by decide +kernel
theorem dLw_law_394 : decode mLw_law.2.2.2.1 394 = .ok ((.ldc2_w 18), 3) := by decide +kernel
theorem dLw_law_397 : decode mLw_law.2.2.2.1 397 = .ok (.land, 1) := by decide +kernel
theorem dLw_law_398 : decode mLw_law.2.2.2.1 398 = .ok (.lor, 1) := by decide +kernel
theorem dLw_law_399 : decode mLw_law.2.2.2.1 399 = .ok ((.invokevirtual 44), 3) := by decide +kernel
theorem dLw_law_402 : decode mLw_law.2.2.2.1 402 = .ok ((.aload_n 2), 1) := by decide +kernel
theorem dLw_law_403 : decode mLw_law.2.2.2.1 403 = .ok ((.aload_n 0), 1) := by decide +kernel
theorem dLw_law_404 : decode mLw_law.2.2.2.1 404 = .ok ((.iload_n 3), 1) := by decide +kernel
theorem dLw_law_405 : decode mLw_law.2.2.2.1 405 = .ok ((.iconst (1)), 1) := by decide +kernel
theorem dLw_law_406 : decode mLw_law.2.2.2.1 406 = .ok (.iadd, 1) := by decide +kernel
theorem dLw_law_407 : decode mLw_law.2.2.2.1 407 = .ok (.iaload, 1) := by decide +kernel
theorem dLw_law_408 : decode mLw_law.2.2.2.1 408 = .ok (.i2l, 1) := by decide +kernel
theorem dLw_law_409 : decode mLw_law.2.2.2.1 409 = .ok ((.bipush (32)), 2) := by decide +kernel
theorem dLw_law_411 : decode mLw_law.2.2.2.1 411 = .ok (.lshl, 1) := by decide +kernel
theorem dLw_law_412 : decode mLw_law.2.2.2.1 412 = .ok ((.aload_n 0), 1) := by decide +kernel
theorem dLw_law_413 : decode mLw_law.2.2.2.1 413 = .ok ((.iload_n 3), 1) := by decide +kernel
theorem dLw_law_414 : decode mLw_law.2.2.2.1 414 = .ok ((.iconst (2)), 1) := by decide +kernel
theorem dLw_law_415 : decode mLw_law.2.2.2.1 415 = .ok (.iadd, 1) := by decide +kernel
theorem dLw_law_416 : decode mLw_law.2.2.2.1 416 = .ok (.iaload, 1) := by decide +kernel
theorem dLw_law_417 : decode mLw_law.2.2.2.1 417 = .ok (.i2l, 1) := by decide +kernel
theorem dLw_law_418 : decode mLw_law.2.2.2.1 418 = .ok ((.ldc2_w 18), 3) := by decide +kernel
theorem dLw_law_421 : decode mLw_law.2.2.2.1 421 = .ok (.land, 1) := by decide +kernel
theorem dLw_law_422 : decode mLw_law.2.2.2.1 422 = .ok (.lor, 1) := by decide +kernel
theorem dLw_law_423 : decode mLw_law.2.2.2.1 423 = .ok ((.invokevirtual 48), 3) := by decide +kernel
theorem dLw_law_426 : decode mLw_law.2.2.2.1 426 = .ok (.lcmp, 1) := by decide +kernel
theorem dLw_law_427 : decode mLw_law.2.2.2.1 427 = .ok ((.ifCond .eq (389)), 3) := by decide +kernel
theorem dLw_law_430 : decode mLw_law.2.2.2.1 430 = .ok ((.iconst (0)), 1) := by decide +kernel
theorem dLw_law_431 : decode mLw_law.2.2.2.1 431 = .ok (.ireturn, 1) := by decide +kernel
theorem dLw_law_432 : decode mLw_law.2.2.2.1 432 = .ok ((.aload_n 1), 1) := by decide +kernel
theorem dLw_law_433 : decode mLw_law.2.2.2.1 433 = .ok ((.aload_n 0), 1) := by decide +kernel
theorem dLw_law_434 : decode mLw_law.2.2.2.1 434 = .ok ((.iload_n 3), 1) := by decide +kernel
theorem dLw_law_435 : decode mLw_law.2.2.2.1 435 = .ok ((.iconst (1)), 1) := by decide +kernel
theorem dLw_law_436 : decode mLw_law.2.2.2.1 436 = .ok (.iadd, 1) := by decide +kernel
theorem dLw_law_437 : decode mLw_law.2.2.2.1 437 = .ok (.iaload, 1) := by decide +kernel
theorem dLw_law_438 : decode mLw_law.2.2.2.1 438 = .ok (.i2l, 1) := by decide +kernel
theorem dLw_law_439 : decode mLw_law.2.2.2.1 439 = .ok ((.bipush (32)), 2) := by decide +kernel
theorem dLw_law_441 : decode mLw_law.2.2.2.1 441 = .ok (.lshl, 1) := by decide +kernel
theorem dLw_law_442 : decode mLw_law.2.2.2.1 442 = .ok ((.aload_n 0), 1) := by decide +kernel
theorem dLw_law_443 : decode mLw_law.2.2.2.1 443 = .ok ((.iload_n 3), 1) := by decide +kernel
theorem dLw_law_444 : decode mLw_law.2.2.2.1 444 = .ok ((.iconst (2)), 1) := by decide +kernel
theorem dLw_law_445 : decode mLw_law.2.2.2.1 445 = .ok (.iadd, 1) := by decide +kernel
theorem dLw_law_446 : decode mLw_law.2.2.2.1 446 = .ok (.iaload, 1) := by decide +kernel
theorem dLw_law_447 : decode mLw_law.2.2.2.1 447 = .ok (.i2l, 1) := by decide +kernel
theorem dLw_law_448 : decode mLw_law.2.2.2.1 448 = .ok ((.ldc2_w 18), 3) := by decide +kernel
theorem dLw_law_451 : decode mLw_law.2.2.2.1 451 = .ok (.land, 1) := by decide +kernel
theorem dLw_law_452 : decode mLw_law.2.2.2.1 452 = .ok (.lor, 1) := by decide +kernel
theorem dLw_law_453 : decode mLw_law.2.2.2.1 453 = .ok ((.invokevirtual 49), 3) := by decide +kernel
theorem dLw_law_456 : decode mLw_law.2.2.2.1 456 = .ok ((.aload_n 2), 1) := by decide +kernel
theorem dLw_law_457 : decode mLw_law.2.2.2.1 457 = .ok ((.aload_n 0), 1) := by decide +kernel
theorem dLw_law_458 : decode mLw_law.2.2.2.1 458 = .ok ((.iload_n 3), 1) := by decide +kernel
theorem dLw_law_459 : decode mLw_law.2.2.2.1 459 = .ok ((.iconst (1)), 1) := by decide +kernel
theorem dLw_law_460 : decode mLw_law.2.2.2.1 460 = .ok (.iadd, 1) := by decide +kernel
theorem dLw_law_461 : decode mLw_law.2.2.2.1 461 = .ok (.iaload, 1) := by decide +kernel
theorem dLw_law_462 : decode mLw_law.2.2.2.1 462 = .ok (.i2l, 1) := by decide +kernel
theorem dLw_law_463 : decode mLw_law.2.2.2.1 463 = .ok ((.bipush (32)), 2) := by decide +kernel
theorem dLw_law_465 : decode mLw_law.2.2.2.1 465 = .ok (.lshl, 1) := by decide +kernel
theorem dLw_law_466 : decode mLw_law.2.2.2.1 466 = .ok ((.aload_n 0), 1) := by decide +kernel
theorem dLw_law_467 : decode mLw_law.2.2.2.1 467 = .ok ((.iload_n 3), 1) := by decide +kernel
theorem dLw_law_468 : decode mLw_law.2.2.2.1 468 = .ok ((.iconst (2)), 1) := by decide +kernel
theorem dLw_law_469 : decode mLw_law.2.2.2.1 469 = .ok (.iadd, 1) := by decide +kernel
theorem dLw_law_470 : decode mLw_law.2.2.2.1 470 = .ok (.iaload, 1) := by decide +kernel
theorem dLw_law_471 : decode mLw_law.2.2.2.1 471 = .ok (.i2l, 1) := by decide +kernel
theorem dLw_law_472 : decode mLw_law.2.2.2.1 472 = .ok ((.ldc2_w 18), 3) := by decide +kernel
theorem dLw_law_475 : decode mLw_law.2.2.2.1 475 = .ok (.land, 1) := by decide +kernel
theorem dLw_law_476 : decode mLw_law.2.2.2.1 476 = .ok (.lor, 1) := by decide +kernel
theorem dLw_law_477 : decode mLw_law.2.2.2.1 477 = .ok ((.invokevirtual 52), 3) := by decide +kernel
theorem dLw_law_480 : decode mLw_law.2.2.2.1 480 = .ok ((.if_icmp .eq (336)), 3) := by decide +kernel
theorem dLw_law_483 : decode mLw_law.2.2.2.1 483 = .ok ((.iconst (0)), 1) := by decide +kernel
theorem dLw_law_484 : decode mLw_law.2.2.2.1 484 = .ok (.ireturn, 1) := by decide +kernel
theorem dLw_law_485 : decode mLw_law.2.2.2.1 485 = .ok ((.aload_n 1), 1) := by decide +kernel
theorem dLw_law_486 : decode mLw_law.2.2.2.1 486 = .ok ((.aload_n 0), 1) := by decide +kernel
theorem dLw_law_487 : decode mLw_law.2.2.2.1 487 = .ok ((.iload_n 3), 1) := by decide +kernel
theorem dLw_law_488 : decode mLw_law.2.2.2.1 488 = .ok ((.iconst (1)), 1) := by decide +kernel
theorem dLw_law_489 : decode mLw_law.2.2.2.1 489 = .ok (.iadd, 1) := by decide +kernel
theorem dLw_law_490 : decode mLw_law.2.2.2.1 490 = .ok (.iaload, 1) := by decide +kernel
theorem dLw_law_491 : decode mLw_law.2.2.2.1 491 = .ok (.i2l, 1) := by decide +kernel
theorem dLw_law_492 : decode mLw_law.2.2.2.1 492 = .ok ((.bipush (32)), 2) := by decide +kernel
theorem dLw_law_494 : decode mLw_law.2.2.2.1 494 = .ok (.lshl, 1) := by decide +kernel
theorem dLw_law_495 : decode mLw_law.2.2.2.1 495 = .ok ((.aload_n 0), 1) := by decide +kernel
theorem dLw_law_496 : decode mLw_law.2.2.2.1 496 = .ok ((.iload_n 3), 1) := by decide +kernel
theorem dLw_law_497 : decode mLw_law.2.2.2.1 497 = .ok ((.iconst (2)), 1) := by decide +kernel
theorem dLw_law_498 : decode mLw_law.2.2.2.1 498 = .ok (.iadd, 1) := by decide +kernel
theorem dLw_law_499 : decode mLw_law.2.2.2.1 499 = .ok (.iaload, 1) := by decide +kernel
theorem dLw_law_500 : decode mLw_law.2.2.2.1 500 = .ok (.i2l, 1) := by decide +kernel
theorem dLw_law_501 : decode mLw_law.2.2.2.1 501 = .ok ((.ldc2_w 18), 3) := by decide +kernel
theorem dLw_law_504 : decode mLw_law.2.2.2.1 504 = .ok (.land, 1) := by decide +kernel
theorem dLw_law_505 : decode mLw_law.2.2.2.1 505 = .ok (.lor, 1) := by decide +kernel
theorem dLw_law_506 : decode mLw_law.2.2.2.1 506 = .ok ((.aload_n 0), 1) := by decide +kernel
theorem dLw_law_507 : decode mLw_law.2.2.2.1 507 = .ok ((.iload_n 3), 1) := by decide +kernel
theorem dLw_law_508 : decode mLw_law.2.2.2.1 508 = .ok ((.iconst (3)), 1) := by decide +kernel
theorem dLw_law_509 : decode mLw_law.2.2.2.1 509 = .ok (.iadd, 1) := by decide +kernel
theorem dLw_law_510 : decode mLw_law.2.2.2.1 510 = .ok (.iaload, 1) := by decide +kernel
theorem dLw_law_511 : decode mLw_law.2.2.2.1 511 = .ok ((.invokevirtual 53), 3) := by decide +kernel
theorem dLw_law_514 : decode mLw_law.2.2.2.1 514 = .ok ((.aload_n 2), 1) := by decide +kernel
theorem dLw_law_515 : decode mLw_law.2.2.2.1 515 = .ok ((.aload_n 0), 1) := by decide +kernel
theorem dLw_law_516 : decode mLw_law.2.2.2.1 516 = .ok ((.iload_n 3), 1) := by decide +kernel
theorem dLw_law_517 : decode mLw_law.2.2.2.1 517 = .ok ((.iconst (1)), 1) := by decide +kernel
theorem dLw_law_518 : decode mLw_law.2.2.2.1 518 = .ok (.iadd, 1) := by decide +kernel
theorem dLw_law_519 : decode mLw_law.2.2.2.1 519 = .ok (.iaload, 1) := by decide +kernel
theorem dLw_law_520 : decode mLw_law.2.2.2.1 520 = .ok (.i2l, 1) := by decide +kernel
theorem dLw_law_521 : decode mLw_law.2.2.2.1 521 = .ok ((.bipush (32)), 2) := by decide +kernel
theorem dLw_law_523 : decode mLw_law.2.2.2.1 523 = .ok (.lshl, 1) := by decide +kernel
theorem dLw_law_524 : decode mLw_law.2.2.2.1 524 = .ok ((.aload_n 0), 1) := by decide +kernel
theorem dLw_law_525 : decode mLw_law.2.2.2.1 525 = .ok ((.iload_n 3), 1) := by decide +kernel
theorem dLw_law_526 : decode mLw_law.2.2.2.1 526 = .ok ((.iconst (2)), 1) := by decide +kernel
theorem dLw_law_527 : decode mLw_law.2.2.2.1 527 = .ok (.iadd, 1) := by decide +kernel
theorem dLw_law_528 : decode mLw_law.2.2.2.1 528 = .ok (.iaload, 1) := by decide +kernel
theorem dLw_law_529 : decode mLw_law.2.2.2.1 529 = .ok (.i2l, 1) := by decide +kernel
theorem dLw_law_530 : decode mLw_law.2.2.2.1 530 = .ok ((.ldc2_w 18), 3) := by decide +kernel
theorem dLw_law_533 : decode mLw_law.2.2.2.1 533 = .ok (.land, 1) := by decide +kernel
theorem dLw_law_534 : decode mLw_law.2.2.2.1 534 = .ok (.lor, 1) := by decide +kernel
theorem dLw_law_535 : decode mLw_law.2.2.2.1 535 = .ok ((.aload_n 0), 1) := by decide +kernel
theorem dLw_law_536 : decode mLw_law.2.2.2.1 536 = .ok ((.iload_n 3), 1) := by decide +kernel
theorem dLw_law_537 : decode mLw_law.2.2.2.1 537 = .ok ((.iconst (3)), 1) := by decide +kernel
theorem dLw_law_538 : decode mLw_law.2.2.2.1 538 = .ok (.iadd, 1) := by decide +kernel
theorem dLw_law_539 : decode mLw_law.2.2.2.1 539 = .ok (.iaload, 1) := by decide +kernel
theorem dLw_law_540 : decode mLw_law.2.2.2.1 540 = .ok ((.invokevirtual 57), 3) := by decide +kernel
theorem dLw_law_543 : decode mLw_law.2.2.2.1 543 = .ok (.lcmp, 1) := by decide +kernel
theorem dLw_law_544 : decode mLw_law.2.2.2.1 544 = .ok ((.ifCond .eq (272)), 3) := by decide +kernel
theorem dLw_law_547 : decode mLw_law.2.2.2.1 547 = .ok ((.iconst (0)), 1) := by decide +kernel
theorem dLw_law_548 : decode mLw_law.2.2.2.1 548 = .ok (.ireturn, 1) := by decide +kernel
theorem dLw_law_549 : decode mLw_law.2.2.2.1 549 = .ok ((.aload_n 1), 1) := by decide +kernel
theorem dLw_law_550 : decode mLw_law.2.2.2.1 550 = .ok ((.aload_n 0), 1) := by decide +kernel
theorem dLw_law_551 : decode mLw_law.2.2.2.1 551 = .ok ((.iload_n 3), 1) := by decide +kernel
theorem dLw_law_552 : decode mLw_law.2.2.2.1 552 = .ok ((.iconst (1)), 1) := by decide +kernel
theorem dLw_law_553 : decode mLw_law.2.2.2.1 553 = .ok (.iadd, 1) := by decide +kernel
theorem dLw_law_554 : decode mLw_law.2.2.2.1 554 = .ok (.iaload, 1) := by decide +kernel
theorem dLw_law_555 : decode mLw_law.2.2.2.1 555 = .ok (.i2l, 1) := by decide +kernel
theorem dLw_law_556 : decode mLw_law.2.2.2.1 556 = .ok ((.bipush (32)), 2) := by decide +kernel
theorem dLw_law_558 : decode mLw_law.2.2.2.1 558 = .ok (.lshl, 1) := by decide +kernel
theorem dLw_law_559 : decode mLw_law.2.2.2.1 559 = .ok ((.aload_n 0), 1) := by decide +kernel
theorem dLw_law_560 : decode mLw_law.2.2.2.1 560 = .ok ((.iload_n 3), 1) := by decide +kernel
theorem dLw_law_561 : decode mLw_law.2.2.2.1 561 = .ok ((.iconst (2)), 1) := by decide +kernel
theorem dLw_law_562 : decode mLw_law.2.2.2.1 562 = .ok (.iadd, 1) := by decide +kernel
theorem dLw_law_563 : decode mLw_law.2.2.2.1 563 = .ok (.iaload, 1) := by decide +kernel
theorem dLw_law_564 : decode mLw_law.2.2.2.1 564 = .ok (.i2l, 1) := by decide +kernel
theorem dLw_law_565 : decode mLw_law.2.2.2.1 565 = .ok ((.ldc2_w 18), 3) := by decide +kernel
theorem dLw_law_568 : decode mLw_law.2.2.2.1 568 = .ok (.land, 1) := by decide +kernel
theorem dLw_law_569 : decode mLw_law.2.2.2.1 569 = .ok (.lor, 1) := by decide +kernel
theorem dLw_law_570 : decode mLw_law.2.2.2.1 570 = .ok ((.aload_n 0), 1) := by decide +kernel
theorem dLw_law_571 : decode mLw_law.2.2.2.1 571 = .ok ((.iload_n 3), 1) := by decide +kernel
theorem dLw_law_572 : decode mLw_law.2.2.2.1 572 = .ok ((.iconst (3)), 1) := by decide +kernel
theorem dLw_law_573 : decode mLw_law.2.2.2.1 573 = .ok (.iadd, 1) := by decide +kernel
theorem dLw_law_574 : decode mLw_law.2.2.2.1 574 = .ok (.iaload, 1) := by decide +kernel
theorem dLw_law_575 : decode mLw_law.2.2.2.1 575 = .ok ((.aload_n 0), 1) := by decide +kernel
theorem dLw_law_576 : decode mLw_law.2.2.2.1 576 = .ok ((.iload_n 3), 1) := by decide +kernel
theorem dLw_law_577 : decode mLw_law.2.2.2.1 577 = .ok ((.iconst (4)), 1) := by decide +kernel
theorem dLw_law_578 : decode mLw_law.2.2.2.1 578 = .ok (.iadd, 1) := by decide +kernel
theorem dLw_law_579 : decode mLw_law.2.2.2.1 579 = .ok (.iaload, 1) := by decide +kernel
theorem dLw_law_580 : decode mLw_law.2.2.2.1 580 = .ok ((.invokevirtual 58), 3) := by decide +kernel
theorem dLw_law_583 : decode mLw_law.2.2.2.1 583 = .ok ((.aload_n 2), 1) := by decide +kernel
theorem dLw_law_584 : decode mLw_law.2.2.2.1 584 = .ok ((.aload_n 0), 1) := by decide +kernel
theorem dLw_law_585 : decode mLw_law.2.2.2.1 585 = .ok ((.iload_n 3), 1) := by decide +kernel
theorem dLw_law_586 : decode mLw_law.2.2.2.1 586 = .ok ((.iconst (1)), 1) := by decide +kernel
theorem dLw_law_587 : decode mLw_law.2.2.2.1 587 = .ok (.iadd, 1) := by decide +kernel
theorem dLw_law_588 : decode mLw_law.2.2.2.1 588 = .ok (.iaload, 1) := by decide +kernel
theorem dLw_law_589 : decode mLw_law.2.2.2.1 589 = .ok (.i2l, 1) := by decide +kernel
theorem dLw_law_590 : decode mLw_law.2.2.2.1 590 = .ok ((.bipush (32)), 2) := by decide +kernel
theorem dLw_law_592 : decode mLw_law.2.2.2.1 592 = .ok (.lshl, 1) := by decide +kernel
theorem dLw_law_593 : decode mLw_law.2.2.2.1 593 = .ok ((.aload_n 0), 1) := by decide +kernel
theorem dLw_law_594 : decode mLw_law.2.2.2.1 594 = .ok ((.iload_n 3), 1) := by decide +kernel
theorem dLw_law_595 : decode mLw_law.2.2.2.1 595 = .ok ((.iconst (2)), 1) := by decide +kernel
theorem dLw_law_596 : decode mLw_law.2.2.2.1 596 = .ok (.iadd, 1) := by decide +kernel
theorem dLw_law_597 : decode mLw_law.2.2.2.1 597 = .ok (.iaload, 1) := by decide +kernel
theorem dLw_law_598 : decode mLw_law.2.2.2.1 598 = .ok (.i2l, 1) := by decide +kernel
theorem dLw_law_599 : decode mLw_law.2.2.2.1 599 = .ok ((.ldc2_w 18), 3) := by decide +kernel
theorem dLw_law_602 : decode mLw_law.2.2.2.1 602 = .ok (.land, 1) := by decide +kernel
theorem dLw_law_603 : decode mLw_law.2.2.2.1 603 = .ok (.lor, 1) := by decide +kernel
theorem dLw_law_604 : decode mLw_law.2.2.2.1 604 = .ok ((.aload_n 0), 1) := by decide +kernel
theorem dLw_law_605 : decode mLw_law.2.2.2.1 605 = .ok ((.iload_n 3), 1) := by decide +kernel
theorem dLw_law_606 : decode mLw_law.2.2.2.1 606 = .ok ((.iconst (3)), 1) := by decide +kernel
theorem dLw_law_607 : decode mLw_law.2.2.2.1 607 = .ok (.iadd, 1) := by decide +kernel
theorem dLw_law_608 : decode mLw_law.2.2.2.1 608 = .ok (.iaload, 1) := by decide +kernel
theorem dLw_law_609 : decode mLw_law.2.2.2.1 609 = .ok ((.aload_n 0), 1) := by decide +kernel
theorem dLw_law_610 : decode mLw_law.2.2.2.1 610 = .ok ((.iload_n 3), 1) := by decide +kernel
theorem dLw_law_611 : decode mLw_law.2.2.2.1 611 = .ok ((.iconst (4)), 1) := by decide +kernel
theorem dLw_law_612 : decode mLw_law.2.2.2.1 612 = .ok (.iadd, 1) := by decide +kernel
theorem dLw_law_613 : decode mLw_law.2.2.2.1 613 = .ok (.iaload, 1) := by decide +kernel
theorem dLw_law_614 : decode mLw_law.2.2.2.1 614 = .ok ((.invokevirtual 62), 3) := by decide +kernel
theorem dLw_law_617 : decode mLw_law.2.2.2.1 617 = .ok ((.if_icmp .eq (199)), 3) := by decide +kernel
theorem dLw_law_620 : decode mLw_law.2.2.2.1 620 = .ok ((.iconst (0)), 1) := by decide +kernel
theorem dLw_law_621 : decode mLw_law.2.2.2.1 621 = .ok (.ireturn, 1) := by decide +kernel
theorem dLw_law_622 : decode mLw_law.2.2.2.1 622 = .ok ((.aload_n 1), 1) := by decide +kernel
theorem dLw_law_623 : decode mLw_law.2.2.2.1 623 = .ok ((.invokevirtual 63), 3) := by decide +kernel
theorem dLw_law_626 : decode mLw_law.2.2.2.1 626 = .ok ((.aload_n 2), 1) := by decide +kernel
theorem dLw_law_627 : decode mLw_law.2.2.2.1 627 = .ok ((.invokevirtual 66), 3) := by decide +kernel
theorem dLw_law_630 : decode mLw_law.2.2.2.1 630 = .ok ((.if_icmp .eq (186)), 3) := by decide +kernel
theorem dLw_law_633 : decode mLw_law.2.2.2.1 633 = .ok ((.iconst (0)), 1) := by decide +kernel
theorem dLw_law_634 : decode mLw_law.2.2.2.1 634 = .ok (.ireturn, 1) := by decide +kernel
theorem dLw_law_635 : decode mLw_law.2.2.2.1 635 = .ok ((.aload_n 1), 1) := by decide +kernel
theorem dLw_law_636 : decode mLw_law.2.2.2.1 636 = .ok ((.aload_n 0), 1) := by decide +kernel
theorem dLw_law_637 : decode mLw_law.2.2.2.1 637 = .ok ((.iload_n 3), 1) := by decide +kernel
theorem dLw_law_638 : decode mLw_law.2.2.2.1 638 = .ok ((.iconst (1)), 1) := by decide +kernel
theorem dLw_law_639 : decode mLw_law.2.2.2.1 639 = .ok (.iadd, 1) := by decide +kernel
theorem dLw_law_640 : decode mLw_law.2.2.2.1 640 = .ok (.iaload, 1) := by decide +kernel
theorem dLw_law_641 : decode mLw_law.2.2.2.1 641 = .ok ((.invokevirtual 67), 3) := by decide +kernel
theorem dLw_law_644 : decode mLw_law.2.2.2.1 644 = .ok ((.aload_n 2), 1) := by decide +kernel
theorem dLw_law_645 : decode mLw_law.2.2.2.1 645 = .ok ((.aload_n 0), 1) := by decide +kernel
theorem dLw_law_646 : decode mLw_law.2.2.2.1 646 = .ok ((.iload_n 3), 1) := by decide +kernel
theorem dLw_law_647 : decode mLw_law.2.2.2.1 647 = .ok ((.iconst (1)), 1) := by decide +kernel
theorem dLw_law_648 : decode mLw_law.2.2.2.1 648 = .ok (.iadd, 1) := by decide +kernel
theorem dLw_law_649 : decode mLw_law.2.2.2.1 649 = .ok (.iaload, 1) := by decide +kernel
theorem dLw_law_650 : decode mLw_law.2.2.2.1 650 = .ok ((.invokevirtual 71), 3) := by decide +kernel
theorem dLw_law_653 : decode mLw_law.2.2.2.1 653 = .ok ((.if_icmp .eq (163)), 3) := by decide +kernel
theorem dLw_law_656 : decode mLw_law.2.2.2.1 656 = .ok ((.iconst (0)), 1) := by decide +kernel
theorem dLw_law_657 : decode mLw_law.2.2.2.1 657 = .ok (.ireturn, 1) := by decide +kernel
theorem dLw_law_658 : decode mLw_law.2.2.2.1 658 = .ok ((.aload_n 1), 1) := by decide +kernel
theorem dLw_law_659 : decode mLw_law.2.2.2.1 659 = .ok ((.invokevirtual 72), 3) := by decide +kernel
theorem dLw_law_662 : decode mLw_law.2.2.2.1 662 = .ok ((.aload_n 2), 1) := by decide +kernel
theorem dLw_law_663 : decode mLw_law.2.2.2.1 663 = .ok ((.invokevirtual 75), 3) := by decide +kernel
theorem dLw_law_666 : decode mLw_law.2.2.2.1 666 = .ok ((.if_icmp .eq (150)), 3) := by decide +kernel
theorem dLw_law_669 : decode mLw_law.2.2.2.1 669 = .ok ((.iconst (0)), 1) := by decide +kernel
theorem dLw_law_670 : decode mLw_law.2.2.2.1 670 = .ok (.ireturn, 1) := by decide +kernel
theorem dLw_law_671 : decode mLw_law.2.2.2.1 671 = .ok ((.aload_n 1), 1) := by decide +kernel
theorem dLw_law_672 : decode mLw_law.2.2.2.1 672 = .ok ((.aload_n 0), 1) := by decide +kernel
theorem dLw_law_673 : decode mLw_law.2.2.2.1 673 = .ok ((.iload_n 3), 1) := by decide +kernel
theorem dLw_law_674 : decode mLw_law.2.2.2.1 674 = .ok ((.iconst (1)), 1) := by decide +kernel
theorem dLw_law_675 : decode mLw_law.2.2.2.1 675 = .ok (.iadd, 1) := by decide +kernel
theorem dLw_law_676 : decode mLw_law.2.2.2.1 676 = .ok (.iaload, 1) := by decide +kernel
theorem dLw_law_677 : decode mLw_law.2.2.2.1 677 = .ok ((.invokevirtual 76), 3) := by decide +kernel
theorem dLw_law_680 : decode mLw_law.2.2.2.1 680 = .ok ((.aload_n 2), 1) := by decide +kernel
theorem dLw_law_681 : decode mLw_law.2.2.2.1 681 = .ok ((.aload_n 0), 1) := by decide +kernel
theorem dLw_law_682 : decode mLw_law.2.2.2.1 682 = .ok ((.iload_n 3), 1) := by decide +kernel
theorem dLw_law_683 : decode mLw_law.2.2.2.1 683 = .ok ((.iconst (1)), 1) := by decide +kernel
theorem dLw_law_684 : decode mLw_law.2.2.2.1 684 = .ok (.iadd, 1) := by decide +kernel
theorem dLw_law_685 : decode mLw_law.2.2.2.1 685 = .ok (.iaload, 1) := by decide +kernel
theorem dLw_law_686 : decode mLw_law.2.2.2.1 686 = .ok ((.invokevirtual 79), 3) := by decide +kernel
theorem dLw_law_689 : decode mLw_law.2.2.2.1 689 = .ok ((.if_icmp .eq (127)), 3) := by decide +kernel
theorem dLw_law_692 : decode mLw_law.2.2.2.1 692 = .ok ((.iconst (0)), 1) := by decide +kernel
theorem dLw_law_693 : decode mLw_law.2.2.2.1 693 = .ok (.ireturn, 1) := by decide +kernel
theorem dLw_law_694 : decode mLw_law.2.2.2.1 694 = .ok ((.aload_n 1), 1) := by decide +kernel
theorem dLw_law_695 : decode mLw_law.2.2.2.1 695 = .ok ((.aload_n 0), 1) := by decide +kernel
theorem dLw_law_696 : decode mLw_law.2.2.2.1 696 = .ok ((.iload_n 3), 1) := by decide +kernel
theorem dLw_law_697 : decode mLw_law.2.2.2.1 697 = .ok ((.iconst (1)), 1) := by decide +kernel
theorem dLw_law_698 : decode mLw_law.2.2.2.1 698 = .ok (.iadd, 1) := by decide +kernel
theorem dLw_law_699 : decode mLw_law.2.2.2.1 699 = .ok (.iaload, 1) := by decide +kernel
theorem dLw_law_700 : decode mLw_law.2.2.2.1 700 = .ok ((.aload_n 0), 1) := by decide +kernel
theorem dLw_law_701 : decode mLw_law.2.2.2.1 701 = .ok ((.iload_n 3), 1) := by decide +kernel
theorem dLw_law_702 : decode mLw_law.2.2.2.1 702 = .ok ((.iconst (2)), 1) := by decide +kernel
theorem dLw_law_703 : decode mLw_law.2.2.2.1 703 = .ok (.iadd, 1) := by decide +kernel
theorem dLw_law_704 : decode mLw_law.2.2.2.1 704 = .ok (.iaload, 1) := by decide +kernel
theorem dLw_law_705 : decode mLw_law.2.2.2.1 705 = .ok ((.invokevirtual 80), 3) := by decide +kernel
theorem dLw_law_708 : decode mLw_law.2.2.2.1 708 = .ok ((.aload_n 2), 1) := by decide +kernel
theorem dLw_law_709 : decode mLw_law.2.2.2.1 709 = .ok ((.aload_n 0), 1) := by decide +kernel
theorem dLw_law_710 : decode mLw_law.2.2.2.1 710 = .ok ((.iload_n 3), 1) := by decide +kernel
theorem dLw_law_711 : decode mLw_law.2.2.2.1 711 = .ok ((.iconst (1)), 1) := by decide +kernel
theorem dLw_law_712 : decode mLw_law.2.2.2.1 712 = .ok (.iadd, 1) := by decide +kernel
theorem dLw_law_713 : decode mLw_law.2.2.2.1 713 = .ok (.iaload, 1) := by decide +kernel
theorem dLw_law_714 : decode mLw_law.2.2.2.1 714 = .ok ((.aload_n 0), 1) := by decide +kernel
theorem dLw_law_715 : decode mLw_law.2.2.2.1 715 = .ok ((.iload_n 3), 1) := by decide +kernel
theorem dLw_law_716 : decode mLw_law.2.2.2.1 716 = .ok ((.iconst (2)), 1) := by decide +kernel
theorem dLw_law_717 : decode mLw_law.2.2.2.1 717 = .ok (.iadd, 1) := by decide +kernel
theorem dLw_law_718 : decode mLw_law.2.2.2.1 718 = .ok (.iaload, 1) := by decide +kernel
theorem dLw_law_719 : decode mLw_law.2.2.2.1 719 = .ok ((.invokevirtual 84), 3) := by decide +kernel
theorem dLw_law_722 : decode mLw_law.2.2.2.1 722 = .ok ((.if_icmp .eq (94)), 3) := by decide +kernel
theorem dLw_law_725 : decode mLw_law.2.2.2.1 725 = .ok ((.iconst (0)), 1) := by decide +kernel
theorem dLw_law_726 : decode mLw_law.2.2.2.1 726 = .ok (.ireturn, 1) := by decide +kernel
theorem dLw_law_727 : decode mLw_law.2.2.2.1 727 = .ok ((.aload_n 1), 1) := by decide +kernel
theorem dLw_law_728 : decode mLw_law.2.2.2.1 728 = .ok ((.aload_n 0), 1) := by decide +kernel
theorem dLw_law_729 : decode mLw_law.2.2.2.1 729 = .ok ((.iload_n 3), 1) := by decide +kernel
theorem dLw_law_730 : decode mLw_law.2.2.2.1 730 = .ok ((.iconst (1)), 1) := by decide +kernel
theorem dLw_law_731 : decode mLw_law.2.2.2.1 731 = .ok (.iadd, 1) := by decide +kernel
theorem dLw_law_732 : decode mLw_law.2.2.2.1 732 = .ok (.iaload, 1) := by decide +kernel
theorem dLw_law_733 : decode mLw_law.2.2.2.1 733 = .ok ((.aload_n 0), 1) := by decide +kernel
theorem dLw_law_734 : decode mLw_law.2.2.2.1 734 = .ok ((.iload_n 3), 1) := by decide +kernel
theorem dLw_law_735 : decode mLw_law.2.2.2.1 735 = .ok ((.iconst (2)), 1) := by decide +kernel
theorem dLw_law_736 : decode mLw_law.2.2.2.1 736 = .ok (.iadd, 1) := by decide +kernel
theorem dLw_law_737 : decode mLw_law.2.2.2.1 737 = .ok (.iaload, 1) := by decide +kernel
theorem dLw_law_738 : decode mLw_law.2.2.2.1 738 = .ok ((.aload_n 0), 1) := by decide +kernel
theorem dLw_law_739 : decode mLw_law.2.2.2.1 739 = .ok ((.iload_n 3), 1) := by decide +kernel
theorem dLw_law_740 : decode mLw_law.2.2.2.1 740 = .ok ((.iconst (3)), 1) := by decide +kernel
theorem dLw_law_741 : decode mLw_law.2.2.2.1 741 = .ok (.iadd, 1) := by decide +kernel
theorem dLw_law_742 : decode mLw_law.2.2.2.1 742 = .ok (.iaload, 1) := by decide +kernel
theorem dLw_law_743 : decode mLw_law.2.2.2.1 743 = .ok ((.invokevirtual 85), 3) := by decide +kernel
theorem dLw_law_746 : decode mLw_law.2.2.2.1 746 = .ok ((.aload_n 2), 1) := by decide +kernel
theorem dLw_law_747 : decode mLw_law.2.2.2.1 747 = .ok ((.aload_n 0), 1) := by decide +kernel
theorem dLw_law_748 : decode mLw_law.2.2.2.1 748 = .ok ((.iload_n 3), 1) := by decide +kernel
theorem dLw_law_749 : decode mLw_law.2.2.2.1 749 = .ok ((.iconst (1)), 1) := by decide +kernel
theorem dLw_law_750 : decode mLw_law.2.2.2.1 750 = .ok (.iadd, 1) := by decide +kernel
theorem dLw_law_751 : decode mLw_law.2.2.2.1 751 = .ok (.iaload, 1) := by decide +kernel
theorem dLw_law_752 : decode mLw_law.2.2.2.1 752 = .ok ((.aload_n 0), 1) := by decide +kernel
theorem dLw_law_753 : decode mLw_law.2.2.2.1 753 = .ok ((.iload_n 3), 1) := by decide +kernel
theorem dLw_law_754 : decode mLw_law.2.2.2.1 754 = .ok ((.iconst (2)), 1) := by decide +kernel
theorem dLw_law_755 : decode mLw_law.2.2.2.1 755 = .ok (.iadd, 1) := by decide +kernel
theorem dLw_law_756 : decode mLw_law.2.2.2.1 756 = .ok (.iaload, 1) := by decide +kernel
theorem dLw_law_757 : decode mLw_law.2.2.2.1 757 = .ok ((.aload_n 0), 1) := by decide +kernel
theorem dLw_law_758 : decode mLw_law.2.2.2.1 758 = .ok ((.iload_n 3), 1) := by decide +kernel
theorem dLw_law_759 : decode mLw_law.2.2.2.1 759 = .ok ((.iconst (3)), 1) := by decide +kernel
theorem dLw_law_760 : decode mLw_law.2.2.2.1 760 = .ok (.iadd, 1) := by decide +kernel
theorem dLw_law_761 : decode mLw_law.2.2.2.1 761 = .ok (.iaload, 1) := by decide +kernel
theorem dLw_law_762 : decode mLw_law.2.2.2.1 762 = .ok ((.invokevirtual 89), 3) := by decide +kernel
theorem dLw_law_765 : decode mLw_law.2.2.2.1 765 = .ok ((.if_icmp .eq (51)), 3) := by decide +kernel
theorem dLw_law_768 : decode mLw_law.2.2.2.1 768 = .ok ((.iconst (0)), 1) := by decide +kernel
theorem dLw_law_769 : decode mLw_law.2.2.2.1 769 = .ok (.ireturn, 1) := by decide +kernel
theorem dLw_law_770 : decode mLw_law.2.2.2.1 770 = .ok ((.aload_n 1), 1) := by decide +kernel
theorem dLw_law_771 : decode mLw_law.2.2.2.1 771 = .ok ((.aload_n 0), 1) := by decide +kernel
theorem dLw_law_772 : decode mLw_law.2.2.2.1 772 = .ok ((.iload_n 3), 1) := by decide +kernel
theorem dLw_law_773 : decode mLw_law.2.2.2.1 773 = .ok ((.iconst (1)), 1) := by decide +kernel
theorem dLw_law_774 : decode mLw_law.2.2.2.1 774 = .ok (.iadd, 1) := by decide +kernel
theorem dLw_law_775 : decode mLw_law.2.2.2.1 775 = .ok (.iaload, 1) := by decide +kernel
theorem dLw_law_776 : decode mLw_law.2.2.2.1 776 = .ok ((.invokevirtual 90), 3) := by decide +kernel
theorem dLw_law_779 : decode mLw_law.2.2.2.1 779 = .ok ((.aload_n 2), 1) := by decide +kernel
theorem dLw_law_780 : decode mLw_law.2.2.2.1 780 = .ok ((.aload_n 0), 1) := by decide +kernel
theorem dLw_law_781 : decode mLw_law.2.2.2.1 781 = .ok ((.iload_n 3), 1) := by decide +kernel
theorem dLw_law_782 : decode mLw_law.2.2.2.1 782 = .ok ((.iconst (1)), 1) := by decide +kernel
theorem dLw_law_783 : decode mLw_law.2.2.2.1 783 = .ok (.iadd, 1) := by decide +kernel
theorem dLw_law_784 : decode mLw_law.2.2.2.1 784 = .ok (.iaload, 1) := by decide +kernel
theorem dLw_law_785 : decode mLw_law.2.2.2.1 785 = .ok ((.invokevirtual 94), 3) := by decide +kernel
theorem dLw_law_788 : decode mLw_law.2.2.2.1 788 = .ok ((.if_icmp .eq (28)), 3) := by decide +kernel
theorem dLw_law_791 : decode mLw_law.2.2.2.1 791 = .ok ((.iconst (0)), 1) := by decide +kernel
theorem dLw_law_792 : decode mLw_law.2.2.2.1 792 = .ok (.ireturn, 1) := by decide +kernel
theorem dLw_law_793 : decode mLw_law.2.2.2.1 793 = .ok ((.aload_n 1), 1) := by decide +kernel
theorem dLw_law_794 : decode mLw_law.2.2.2.1 794 = .ok ((.aload_n 0), 1) := by decide +kernel
theorem dLw_law_795 : decode mLw_law.2.2.2.1 795 = .ok ((.iload_n 3), 1) := by decide +kernel
theorem dLw_law_796 : decode mLw_law.2.2.2.1 796 = .ok ((.iconst (1)), 1) := by decide +kernel
theorem dLw_law_797 : decode mLw_law.2.2.2.1 797 = .ok (.iadd, 1) := by decide +kernel
theorem dLw_law_798 : decode mLw_law.2.2.2.1 798 = .ok (.iaload, 1) := by decide +kernel
theorem dLw_law_799 : decode mLw_law.2.2.2.1 799 = .ok ((.invokevirtual 95), 3) := by decide +kernel
theorem dLw_law_802 : decode mLw_law.2.2.2.1 802 = .ok ((.aload_n 2), 1) := by decide +kernel
theorem dLw_law_803 : decode mLw_law.2.2.2.1 803 = .ok ((.aload_n 0), 1) := by decide +kernel
theorem dLw_law_804 : decode mLw_law.2.2.2.1 804 = .ok ((.iload_n 3), 1) := by decide +kernel
theorem dLw_law_805 : decode mLw_law.2.2.2.1 805 = .ok ((.iconst (1)), 1) := by decide +kernel
theorem dLw_law_806 : decode mLw_law.2.2.2.1 806 = .ok (.iadd, 1) := by decide +kernel
theorem dLw_law_807 : decode mLw_law.2.2.2.1 807 = .ok (.iaload, 1) := by decide +kernel
theorem dLw_law_808 : decode mLw_law.2.2.2.1 808 = .ok ((.invokevirtual 98), 3) := by decide +kernel
theorem dLw_law_811 : decode mLw_law.2.2.2.1 811 = .ok ((.if_icmp .eq (5)), 3) := by decide +kernel
theorem dLw_law_814 : decode mLw_law.2.2.2.1 814 = .ok ((.iconst (0)), 1) := by decide +kernel
theorem dLw_law_815 : decode mLw_law.2.2.2.1 815 = .ok (.ireturn, 1) := by decide +kernel
theorem dLw_law_816 : decode mLw_law.2.2.2.1 816 = .ok ((.iinc 3 (5)), 3) := by decide +kernel
theorem dLw_law_819 : decode mLw_law.2.2.2.1 819 = .ok ((.goto (-801)), 3) := by decide +kernel
theorem dLw_law_822 : decode mLw_law.2.2.2.1 822 = .ok ((.iconst (1)), 1) := by decide +kernel
theorem dLw_law_823 : decode mLw_law.2.2.2.1 823 = .ok (.ireturn, 1) := by decide +kernel
