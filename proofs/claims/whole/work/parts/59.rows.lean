/-! The law's run. -/
set_option maxRecDepth 100000 in
theorem kL_18 (L : Nat) (xs : Nat → Int32) : lk (T_L L xs) 18 = o_iload 3 19 := rfl
set_option maxRecDepth 100000 in
theorem kL_19 (L : Nat) (xs : Nat → Int32) : lk (T_L L xs) 19 = o_aload 0 20 := rfl
set_option maxRecDepth 100000 in
theorem kL_20 (L : Nat) (xs : Nat → Int32) : lk (T_L L xs) 20 = o_xlen L 21 := rfl
set_option maxRecDepth 100000 in
theorem kL_21 (L : Nat) (xs : Nat → Int32) : lk (T_L L xs) 21 = o_const 4 22 := rfl
set_option maxRecDepth 100000 in
theorem kL_22 (L : Nat) (xs : Nat → Int32) : lk (T_L L xs) 22 = o_bin (fun x y => x - y) 23 := rfl
set_option maxRecDepth 100000 in
theorem kL_23 (L : Nat) (xs : Nat → Int32) : lk (T_L L xs) 23 = o_icmp (fun x y => y < x) 894 26 := rfl
set_option maxRecDepth 100000 in
theorem kL_26 (L : Nat) (xs : Nat → Int32) : lk (T_L L xs) 26 = o_aload 0 27 := rfl
set_option maxRecDepth 100000 in
theorem kL_27 (L : Nat) (xs : Nat → Int32) : lk (T_L L xs) 27 = o_iload 3 28 := rfl
set_option maxRecDepth 100000 in
theorem kL_28 (L : Nat) (xs : Nat → Int32) : lk (T_L L xs) 28 = o_xld L xs 29 := rfl
set_option maxRecDepth 100000 in
theorem kL_29 (L : Nat) (xs : Nat → Int32) : lk (T_L L xs) 29 = o_const 31 31 := rfl
set_option maxRecDepth 100000 in
theorem kL_31 (L : Nat) (xs : Nat → Int32) : lk (T_L L xs) 31 = o_bin (fun x y => x &&& y) 32 := rfl
set_option maxRecDepth 100000 in
theorem kL_32 (L : Nat) (xs : Nat → Int32) : lk (T_L L xs) 32 = o_sw [(0, 156), (1, 219), (2, 232), (3, 245), (4, 278), (5, 301), (6, 324), (7, 347), (8, 380), (9, 403), (10, 436), (11, 449), (12, 462), (13, 505), (14, 528), (15, 561), (16, 604), (17, 627), (18, 650), (19, 673), (20, 686), (21, 729), (22, 772), (23, 805), (24, 828), (25, 851), (26, 874)] 888 := rfl
set_option maxRecDepth 100000 in
theorem kL_156 (L : Nat) (xs : Nat → Int32) : lk (T_L L xs) 156 = o_aload 1 157 := rfl
set_option maxRecDepth 100000 in
theorem kL_157 (L : Nat) (xs : Nat → Int32) : lk (T_L L xs) 157 = o_aload 0 158 := rfl
set_option maxRecDepth 100000 in
theorem kL_158 (L : Nat) (xs : Nat → Int32) : lk (T_L L xs) 158 = o_iload 3 159 := rfl
set_option maxRecDepth 100000 in
theorem kL_159 (L : Nat) (xs : Nat → Int32) : lk (T_L L xs) 159 = o_const 1 160 := rfl
set_option maxRecDepth 100000 in
theorem kL_160 (L : Nat) (xs : Nat → Int32) : lk (T_L L xs) 160 = o_bin (fun x y => x + y) 161 := rfl
set_option maxRecDepth 100000 in
theorem kL_161 (L : Nat) (xs : Nat → Int32) : lk (T_L L xs) 161 = o_xld L xs 162 := rfl
set_option maxRecDepth 100000 in
theorem kL_162 (L : Nat) (xs : Nat → Int32) : lk (T_L L xs) 162 = o_i2l 163 := rfl
set_option maxRecDepth 100000 in
theorem kL_163 (L : Nat) (xs : Nat → Int32) : lk (T_L L xs) 163 = o_const 32 165 := rfl
set_option maxRecDepth 100000 in
theorem kL_165 (L : Nat) (xs : Nat → Int32) : lk (T_L L xs) 165 = o_lsh (fun x y => x <<< (y.toInt64 &&& 63)) 166 := rfl
set_option maxRecDepth 100000 in
theorem kL_166 (L : Nat) (xs : Nat → Int32) : lk (T_L L xs) 166 = o_aload 0 167 := rfl
set_option maxRecDepth 100000 in
theorem kL_167 (L : Nat) (xs : Nat → Int32) : lk (T_L L xs) 167 = o_iload 3 168 := rfl
set_option maxRecDepth 100000 in
theorem kL_168 (L : Nat) (xs : Nat → Int32) : lk (T_L L xs) 168 = o_const 2 169 := rfl
set_option maxRecDepth 100000 in
theorem kL_169 (L : Nat) (xs : Nat → Int32) : lk (T_L L xs) 169 = o_bin (fun x y => x + y) 170 := rfl
set_option maxRecDepth 100000 in
theorem kL_170 (L : Nat) (xs : Nat → Int32) : lk (T_L L xs) 170 = o_xld L xs 171 := rfl
set_option maxRecDepth 100000 in
theorem kL_171 (L : Nat) (xs : Nat → Int32) : lk (T_L L xs) 171 = o_i2l 172 := rfl
set_option maxRecDepth 100000 in
theorem kL_172 (L : Nat) (xs : Nat → Int32) : lk (T_L L xs) 172 = o_lconst 4294967295 175 := rfl
set_option maxRecDepth 100000 in
theorem kL_175 (L : Nat) (xs : Nat → Int32) : lk (T_L L xs) 175 = o_lbin (fun x y => x &&& y) 176 := rfl
set_option maxRecDepth 100000 in
theorem kL_176 (L : Nat) (xs : Nat → Int32) : lk (T_L L xs) 176 = o_lbin (fun x y => x ||| y) 177 := rfl
set_option maxRecDepth 100000 in
theorem kL_177 (L : Nat) (xs : Nat → Int32) : lk (T_L L xs) 177 = o_aload 0 178 := rfl
set_option maxRecDepth 100000 in
theorem kL_178 (L : Nat) (xs : Nat → Int32) : lk (T_L L xs) 178 = o_iload 3 179 := rfl
set_option maxRecDepth 100000 in
theorem kL_179 (L : Nat) (xs : Nat → Int32) : lk (T_L L xs) 179 = o_const 3 180 := rfl
set_option maxRecDepth 100000 in
theorem kL_180 (L : Nat) (xs : Nat → Int32) : lk (T_L L xs) 180 = o_bin (fun x y => x + y) 181 := rfl
set_option maxRecDepth 100000 in
theorem kL_181 (L : Nat) (xs : Nat → Int32) : lk (T_L L xs) 181 = o_xld L xs 182 := rfl
set_option maxRecDepth 100000 in
theorem kL_182 (L : Nat) (xs : Nat → Int32) : lk (T_L L xs) 182 = o_callV 4 S_X4_type 2 185 := rfl
set_option maxRecDepth 100000 in
theorem kL_185 (L : Nat) (xs : Nat → Int32) : lk (T_L L xs) 185 = o_aload 2 186 := rfl
set_option maxRecDepth 100000 in
theorem kL_186 (L : Nat) (xs : Nat → Int32) : lk (T_L L xs) 186 = o_aload 0 187 := rfl
set_option maxRecDepth 100000 in
theorem kL_187 (L : Nat) (xs : Nat → Int32) : lk (T_L L xs) 187 = o_iload 3 188 := rfl
set_option maxRecDepth 100000 in
theorem kL_188 (L : Nat) (xs : Nat → Int32) : lk (T_L L xs) 188 = o_const 1 189 := rfl
set_option maxRecDepth 100000 in
theorem kL_189 (L : Nat) (xs : Nat → Int32) : lk (T_L L xs) 189 = o_bin (fun x y => x + y) 190 := rfl
set_option maxRecDepth 100000 in
theorem kL_190 (L : Nat) (xs : Nat → Int32) : lk (T_L L xs) 190 = o_xld L xs 191 := rfl
set_option maxRecDepth 100000 in
theorem kL_191 (L : Nat) (xs : Nat → Int32) : lk (T_L L xs) 191 = o_i2l 192 := rfl
set_option maxRecDepth 100000 in
theorem kL_192 (L : Nat) (xs : Nat → Int32) : lk (T_L L xs) 192 = o_const 32 194 := rfl
set_option maxRecDepth 100000 in
theorem kL_194 (L : Nat) (xs : Nat → Int32) : lk (T_L L xs) 194 = o_lsh (fun x y => x <<< (y.toInt64 &&& 63)) 195 := rfl
set_option maxRecDepth 100000 in
theorem kL_195 (L : Nat) (xs : Nat → Int32) : lk (T_L L xs) 195 = o_aload 0 196 := rfl
set_option maxRecDepth 100000 in
theorem kL_196 (L : Nat) (xs : Nat → Int32) : lk (T_L L xs) 196 = o_iload 3 197 := rfl
set_option maxRecDepth 100000 in
theorem kL_197 (L : Nat) (xs : Nat → Int32) : lk (T_L L xs) 197 = o_const 2 198 := rfl
set_option maxRecDepth 100000 in
theorem kL_198 (L : Nat) (xs : Nat → Int32) : lk (T_L L xs) 198 = o_bin (fun x y => x + y) 199 := rfl
set_option maxRecDepth 100000 in
theorem kL_199 (L : Nat) (xs : Nat → Int32) : lk (T_L L xs) 199 = o_xld L xs 200 := rfl
set_option maxRecDepth 100000 in
theorem kL_200 (L : Nat) (xs : Nat → Int32) : lk (T_L L xs) 200 = o_i2l 201 := rfl
set_option maxRecDepth 100000 in
theorem kL_201 (L : Nat) (xs : Nat → Int32) : lk (T_L L xs) 201 = o_lconst 4294967295 204 := rfl
set_option maxRecDepth 100000 in
theorem kL_204 (L : Nat) (xs : Nat → Int32) : lk (T_L L xs) 204 = o_lbin (fun x y => x &&& y) 205 := rfl
set_option maxRecDepth 100000 in
theorem kL_205 (L : Nat) (xs : Nat → Int32) : lk (T_L L xs) 205 = o_lbin (fun x y => x ||| y) 206 := rfl
set_option maxRecDepth 100000 in
theorem kL_206 (L : Nat) (xs : Nat → Int32) : lk (T_L L xs) 206 = o_aload 0 207 := rfl
set_option maxRecDepth 100000 in
theorem kL_207 (L : Nat) (xs : Nat → Int32) : lk (T_L L xs) 207 = o_iload 3 208 := rfl
set_option maxRecDepth 100000 in
theorem kL_208 (L : Nat) (xs : Nat → Int32) : lk (T_L L xs) 208 = o_const 3 209 := rfl
set_option maxRecDepth 100000 in
theorem kL_209 (L : Nat) (xs : Nat → Int32) : lk (T_L L xs) 209 = o_bin (fun x y => x + y) 210 := rfl
set_option maxRecDepth 100000 in
theorem kL_210 (L : Nat) (xs : Nat → Int32) : lk (T_L L xs) 210 = o_xld L xs 211 := rfl
set_option maxRecDepth 100000 in
theorem kL_211 (L : Nat) (xs : Nat → Int32) : lk (T_L L xs) 211 = o_callV 5 S_X5_type 2 214 := rfl
set_option maxRecDepth 100000 in
theorem kL_214 (L : Nat) (xs : Nat → Int32) : lk (T_L L xs) 214 = o_icmp (fun x y => x = y) 888 217 := rfl
set_option maxRecDepth 100000 in
theorem kL_217 (L : Nat) (xs : Nat → Int32) : lk (T_L L xs) 217 = o_const 0 218 := rfl
set_option maxRecDepth 100000 in
theorem kL_218 (L : Nat) (xs : Nat → Int32) : lk (T_L L xs) 218 = o_fin := rfl
set_option maxRecDepth 100000 in
theorem kL_219 (L : Nat) (xs : Nat → Int32) : lk (T_L L xs) 219 = o_aload 1 220 := rfl
set_option maxRecDepth 100000 in
theorem kL_220 (L : Nat) (xs : Nat → Int32) : lk (T_L L xs) 220 = o_callV 4 S_X4_clear 0 223 := rfl
set_option maxRecDepth 100000 in
theorem kL_223 (L : Nat) (xs : Nat → Int32) : lk (T_L L xs) 223 = o_aload 2 224 := rfl
set_option maxRecDepth 100000 in
theorem kL_224 (L : Nat) (xs : Nat → Int32) : lk (T_L L xs) 224 = o_callV 5 S_X5_clear 0 227 := rfl
set_option maxRecDepth 100000 in
theorem kL_227 (L : Nat) (xs : Nat → Int32) : lk (T_L L xs) 227 = o_icmp (fun x y => x = y) 888 230 := rfl
set_option maxRecDepth 100000 in
theorem kL_230 (L : Nat) (xs : Nat → Int32) : lk (T_L L xs) 230 = o_const 0 231 := rfl
set_option maxRecDepth 100000 in
theorem kL_231 (L : Nat) (xs : Nat → Int32) : lk (T_L L xs) 231 = o_fin := rfl
set_option maxRecDepth 100000 in
theorem kL_232 (L : Nat) (xs : Nat → Int32) : lk (T_L L xs) 232 = o_aload 1 233 := rfl
set_option maxRecDepth 100000 in
theorem kL_233 (L : Nat) (xs : Nat → Int32) : lk (T_L L xs) 233 = o_callV 4 S_X4_house 0 236 := rfl
set_option maxRecDepth 100000 in
theorem kL_236 (L : Nat) (xs : Nat → Int32) : lk (T_L L xs) 236 = o_aload 2 237 := rfl
set_option maxRecDepth 100000 in
theorem kL_237 (L : Nat) (xs : Nat → Int32) : lk (T_L L xs) 237 = o_callV 5 S_X5_house 0 240 := rfl
set_option maxRecDepth 100000 in
theorem kL_240 (L : Nat) (xs : Nat → Int32) : lk (T_L L xs) 240 = o_icmp (fun x y => x = y) 888 243 := rfl
set_option maxRecDepth 100000 in
theorem kL_243 (L : Nat) (xs : Nat → Int32) : lk (T_L L xs) 243 = o_const 0 244 := rfl
set_option maxRecDepth 100000 in
theorem kL_244 (L : Nat) (xs : Nat → Int32) : lk (T_L L xs) 244 = o_fin := rfl
set_option maxRecDepth 100000 in
theorem kL_245 (L : Nat) (xs : Nat → Int32) : lk (T_L L xs) 245 = o_aload 1 246 := rfl
set_option maxRecDepth 100000 in
theorem kL_246 (L : Nat) (xs : Nat → Int32) : lk (T_L L xs) 246 = o_aload 0 247 := rfl
set_option maxRecDepth 100000 in
theorem kL_247 (L : Nat) (xs : Nat → Int32) : lk (T_L L xs) 247 = o_iload 3 248 := rfl
set_option maxRecDepth 100000 in
theorem kL_248 (L : Nat) (xs : Nat → Int32) : lk (T_L L xs) 248 = o_const 1 249 := rfl
set_option maxRecDepth 100000 in
theorem kL_249 (L : Nat) (xs : Nat → Int32) : lk (T_L L xs) 249 = o_bin (fun x y => x + y) 250 := rfl
set_option maxRecDepth 100000 in
theorem kL_250 (L : Nat) (xs : Nat → Int32) : lk (T_L L xs) 250 = o_xld L xs 251 := rfl
set_option maxRecDepth 100000 in
theorem kL_251 (L : Nat) (xs : Nat → Int32) : lk (T_L L xs) 251 = o_aload 0 252 := rfl
set_option maxRecDepth 100000 in
theorem kL_252 (L : Nat) (xs : Nat → Int32) : lk (T_L L xs) 252 = o_iload 3 253 := rfl
set_option maxRecDepth 100000 in
theorem kL_253 (L : Nat) (xs : Nat → Int32) : lk (T_L L xs) 253 = o_const 2 254 := rfl
set_option maxRecDepth 100000 in
theorem kL_254 (L : Nat) (xs : Nat → Int32) : lk (T_L L xs) 254 = o_bin (fun x y => x + y) 255 := rfl
set_option maxRecDepth 100000 in
theorem kL_255 (L : Nat) (xs : Nat → Int32) : lk (T_L L xs) 255 = o_xld L xs 256 := rfl
set_option maxRecDepth 100000 in
theorem kL_256 (L : Nat) (xs : Nat → Int32) : lk (T_L L xs) 256 = o_callV 4 S_X4_key 2 259 := rfl
set_option maxRecDepth 100000 in
theorem kL_259 (L : Nat) (xs : Nat → Int32) : lk (T_L L xs) 259 = o_aload 2 260 := rfl
set_option maxRecDepth 100000 in
theorem kL_260 (L : Nat) (xs : Nat → Int32) : lk (T_L L xs) 260 = o_aload 0 261 := rfl
set_option maxRecDepth 100000 in
theorem kL_261 (L : Nat) (xs : Nat → Int32) : lk (T_L L xs) 261 = o_iload 3 262 := rfl
set_option maxRecDepth 100000 in
theorem kL_262 (L : Nat) (xs : Nat → Int32) : lk (T_L L xs) 262 = o_const 1 263 := rfl
set_option maxRecDepth 100000 in
theorem kL_263 (L : Nat) (xs : Nat → Int32) : lk (T_L L xs) 263 = o_bin (fun x y => x + y) 264 := rfl
set_option maxRecDepth 100000 in
theorem kL_264 (L : Nat) (xs : Nat → Int32) : lk (T_L L xs) 264 = o_xld L xs 265 := rfl
set_option maxRecDepth 100000 in
theorem kL_265 (L : Nat) (xs : Nat → Int32) : lk (T_L L xs) 265 = o_aload 0 266 := rfl
set_option maxRecDepth 100000 in
theorem kL_266 (L : Nat) (xs : Nat → Int32) : lk (T_L L xs) 266 = o_iload 3 267 := rfl
set_option maxRecDepth 100000 in
theorem kL_267 (L : Nat) (xs : Nat → Int32) : lk (T_L L xs) 267 = o_const 2 268 := rfl
set_option maxRecDepth 100000 in
theorem kL_268 (L : Nat) (xs : Nat → Int32) : lk (T_L L xs) 268 = o_bin (fun x y => x + y) 269 := rfl
set_option maxRecDepth 100000 in
theorem kL_269 (L : Nat) (xs : Nat → Int32) : lk (T_L L xs) 269 = o_xld L xs 270 := rfl
set_option maxRecDepth 100000 in
theorem kL_270 (L : Nat) (xs : Nat → Int32) : lk (T_L L xs) 270 = o_callV 5 S_X5_key 2 273 := rfl
set_option maxRecDepth 100000 in
theorem kL_273 (L : Nat) (xs : Nat → Int32) : lk (T_L L xs) 273 = o_icmp (fun x y => x = y) 888 276 := rfl
set_option maxRecDepth 100000 in
theorem kL_276 (L : Nat) (xs : Nat → Int32) : lk (T_L L xs) 276 = o_const 0 277 := rfl
set_option maxRecDepth 100000 in
theorem kL_277 (L : Nat) (xs : Nat → Int32) : lk (T_L L xs) 277 = o_fin := rfl
set_option maxRecDepth 100000 in
theorem kL_278 (L : Nat) (xs : Nat → Int32) : lk (T_L L xs) 278 = o_aload 1 279 := rfl
set_option maxRecDepth 100000 in
theorem kL_279 (L : Nat) (xs : Nat → Int32) : lk (T_L L xs) 279 = o_aload 0 280 := rfl
set_option maxRecDepth 100000 in
theorem kL_280 (L : Nat) (xs : Nat → Int32) : lk (T_L L xs) 280 = o_iload 3 281 := rfl
set_option maxRecDepth 100000 in
theorem kL_281 (L : Nat) (xs : Nat → Int32) : lk (T_L L xs) 281 = o_const 1 282 := rfl
set_option maxRecDepth 100000 in
theorem kL_282 (L : Nat) (xs : Nat → Int32) : lk (T_L L xs) 282 = o_bin (fun x y => x + y) 283 := rfl
set_option maxRecDepth 100000 in
theorem kL_283 (L : Nat) (xs : Nat → Int32) : lk (T_L L xs) 283 = o_xld L xs 284 := rfl
set_option maxRecDepth 100000 in
theorem kL_284 (L : Nat) (xs : Nat → Int32) : lk (T_L L xs) 284 = o_callV 4 S_X4_lock 1 287 := rfl
set_option maxRecDepth 100000 in
theorem kL_287 (L : Nat) (xs : Nat → Int32) : lk (T_L L xs) 287 = o_aload 2 288 := rfl
set_option maxRecDepth 100000 in
theorem kL_288 (L : Nat) (xs : Nat → Int32) : lk (T_L L xs) 288 = o_aload 0 289 := rfl
set_option maxRecDepth 100000 in
theorem kL_289 (L : Nat) (xs : Nat → Int32) : lk (T_L L xs) 289 = o_iload 3 290 := rfl
set_option maxRecDepth 100000 in
theorem kL_290 (L : Nat) (xs : Nat → Int32) : lk (T_L L xs) 290 = o_const 1 291 := rfl
set_option maxRecDepth 100000 in
theorem kL_291 (L : Nat) (xs : Nat → Int32) : lk (T_L L xs) 291 = o_bin (fun x y => x + y) 292 := rfl
set_option maxRecDepth 100000 in
theorem kL_292 (L : Nat) (xs : Nat → Int32) : lk (T_L L xs) 292 = o_xld L xs 293 := rfl
set_option maxRecDepth 100000 in
theorem kL_293 (L : Nat) (xs : Nat → Int32) : lk (T_L L xs) 293 = o_callV 5 S_X5_lock 1 296 := rfl
set_option maxRecDepth 100000 in
theorem kL_296 (L : Nat) (xs : Nat → Int32) : lk (T_L L xs) 296 = o_icmp (fun x y => x = y) 888 299 := rfl
set_option maxRecDepth 100000 in
theorem kL_299 (L : Nat) (xs : Nat → Int32) : lk (T_L L xs) 299 = o_const 0 300 := rfl
set_option maxRecDepth 100000 in
theorem kL_300 (L : Nat) (xs : Nat → Int32) : lk (T_L L xs) 300 = o_fin := rfl
set_option maxRecDepth 100000 in
theorem kL_301 (L : Nat) (xs : Nat → Int32) : lk (T_L L xs) 301 = o_aload 1 302 := rfl
set_option maxRecDepth 100000 in
theorem kL_302 (L : Nat) (xs : Nat → Int32) : lk (T_L L xs) 302 = o_aload 0 303 := rfl
set_option maxRecDepth 100000 in
theorem kL_303 (L : Nat) (xs : Nat → Int32) : lk (T_L L xs) 303 = o_iload 3 304 := rfl
set_option maxRecDepth 100000 in
theorem kL_304 (L : Nat) (xs : Nat → Int32) : lk (T_L L xs) 304 = o_const 1 305 := rfl
set_option maxRecDepth 100000 in
theorem kL_305 (L : Nat) (xs : Nat → Int32) : lk (T_L L xs) 305 = o_bin (fun x y => x + y) 306 := rfl
set_option maxRecDepth 100000 in
theorem kL_306 (L : Nat) (xs : Nat → Int32) : lk (T_L L xs) 306 = o_xld L xs 307 := rfl
set_option maxRecDepth 100000 in
theorem kL_307 (L : Nat) (xs : Nat → Int32) : lk (T_L L xs) 307 = o_callV 4 S_X4_laid 1 310 := rfl
set_option maxRecDepth 100000 in
theorem kL_310 (L : Nat) (xs : Nat → Int32) : lk (T_L L xs) 310 = o_aload 2 311 := rfl
set_option maxRecDepth 100000 in
theorem kL_311 (L : Nat) (xs : Nat → Int32) : lk (T_L L xs) 311 = o_aload 0 312 := rfl
set_option maxRecDepth 100000 in
theorem kL_312 (L : Nat) (xs : Nat → Int32) : lk (T_L L xs) 312 = o_iload 3 313 := rfl
set_option maxRecDepth 100000 in
theorem kL_313 (L : Nat) (xs : Nat → Int32) : lk (T_L L xs) 313 = o_const 1 314 := rfl
set_option maxRecDepth 100000 in
theorem kL_314 (L : Nat) (xs : Nat → Int32) : lk (T_L L xs) 314 = o_bin (fun x y => x + y) 315 := rfl
set_option maxRecDepth 100000 in
theorem kL_315 (L : Nat) (xs : Nat → Int32) : lk (T_L L xs) 315 = o_xld L xs 316 := rfl
set_option maxRecDepth 100000 in
theorem kL_316 (L : Nat) (xs : Nat → Int32) : lk (T_L L xs) 316 = o_callV 5 S_X5_laid 1 319 := rfl
set_option maxRecDepth 100000 in
theorem kL_319 (L : Nat) (xs : Nat → Int32) : lk (T_L L xs) 319 = o_icmp (fun x y => x = y) 888 322 := rfl
set_option maxRecDepth 100000 in
theorem kL_322 (L : Nat) (xs : Nat → Int32) : lk (T_L L xs) 322 = o_const 0 323 := rfl
set_option maxRecDepth 100000 in
theorem kL_323 (L : Nat) (xs : Nat → Int32) : lk (T_L L xs) 323 = o_fin := rfl
set_option maxRecDepth 100000 in
theorem kL_324 (L : Nat) (xs : Nat → Int32) : lk (T_L L xs) 324 = o_aload 1 325 := rfl
set_option maxRecDepth 100000 in
theorem kL_325 (L : Nat) (xs : Nat → Int32) : lk (T_L L xs) 325 = o_aload 0 326 := rfl
set_option maxRecDepth 100000 in
theorem kL_326 (L : Nat) (xs : Nat → Int32) : lk (T_L L xs) 326 = o_iload 3 327 := rfl
set_option maxRecDepth 100000 in
theorem kL_327 (L : Nat) (xs : Nat → Int32) : lk (T_L L xs) 327 = o_const 1 328 := rfl
set_option maxRecDepth 100000 in
theorem kL_328 (L : Nat) (xs : Nat → Int32) : lk (T_L L xs) 328 = o_bin (fun x y => x + y) 329 := rfl
set_option maxRecDepth 100000 in
theorem kL_329 (L : Nat) (xs : Nat → Int32) : lk (T_L L xs) 329 = o_xld L xs 330 := rfl
set_option maxRecDepth 100000 in
theorem kL_330 (L : Nat) (xs : Nat → Int32) : lk (T_L L xs) 330 = o_callV 4 S_X4_cut 1 333 := rfl
set_option maxRecDepth 100000 in
theorem kL_333 (L : Nat) (xs : Nat → Int32) : lk (T_L L xs) 333 = o_aload 2 334 := rfl
set_option maxRecDepth 100000 in
theorem kL_334 (L : Nat) (xs : Nat → Int32) : lk (T_L L xs) 334 = o_aload 0 335 := rfl
set_option maxRecDepth 100000 in
theorem kL_335 (L : Nat) (xs : Nat → Int32) : lk (T_L L xs) 335 = o_iload 3 336 := rfl
set_option maxRecDepth 100000 in
theorem kL_336 (L : Nat) (xs : Nat → Int32) : lk (T_L L xs) 336 = o_const 1 337 := rfl
set_option maxRecDepth 100000 in
theorem kL_337 (L : Nat) (xs : Nat → Int32) : lk (T_L L xs) 337 = o_bin (fun x y => x + y) 338 := rfl
set_option maxRecDepth 100000 in
theorem kL_338 (L : Nat) (xs : Nat → Int32) : lk (T_L L xs) 338 = o_xld L xs 339 := rfl
set_option maxRecDepth 100000 in
theorem kL_339 (L : Nat) (xs : Nat → Int32) : lk (T_L L xs) 339 = o_callV 5 S_X5_cut 1 342 := rfl
set_option maxRecDepth 100000 in
theorem kL_342 (L : Nat) (xs : Nat → Int32) : lk (T_L L xs) 342 = o_icmp (fun x y => x = y) 888 345 := rfl
set_option maxRecDepth 100000 in
theorem kL_345 (L : Nat) (xs : Nat → Int32) : lk (T_L L xs) 345 = o_const 0 346 := rfl
set_option maxRecDepth 100000 in
theorem kL_346 (L : Nat) (xs : Nat → Int32) : lk (T_L L xs) 346 = o_fin := rfl
set_option maxRecDepth 100000 in
theorem kL_347 (L : Nat) (xs : Nat → Int32) : lk (T_L L xs) 347 = o_aload 1 348 := rfl
set_option maxRecDepth 100000 in
theorem kL_348 (L : Nat) (xs : Nat → Int32) : lk (T_L L xs) 348 = o_aload 0 349 := rfl
set_option maxRecDepth 100000 in
theorem kL_349 (L : Nat) (xs : Nat → Int32) : lk (T_L L xs) 349 = o_iload 3 350 := rfl
set_option maxRecDepth 100000 in
theorem kL_350 (L : Nat) (xs : Nat → Int32) : lk (T_L L xs) 350 = o_const 1 351 := rfl
set_option maxRecDepth 100000 in
theorem kL_351 (L : Nat) (xs : Nat → Int32) : lk (T_L L xs) 351 = o_bin (fun x y => x + y) 352 := rfl
set_option maxRecDepth 100000 in
theorem kL_352 (L : Nat) (xs : Nat → Int32) : lk (T_L L xs) 352 = o_xld L xs 353 := rfl
set_option maxRecDepth 100000 in
theorem kL_353 (L : Nat) (xs : Nat → Int32) : lk (T_L L xs) 353 = o_aload 0 354 := rfl
set_option maxRecDepth 100000 in
theorem kL_354 (L : Nat) (xs : Nat → Int32) : lk (T_L L xs) 354 = o_iload 3 355 := rfl
set_option maxRecDepth 100000 in
theorem kL_355 (L : Nat) (xs : Nat → Int32) : lk (T_L L xs) 355 = o_const 2 356 := rfl
set_option maxRecDepth 100000 in
theorem kL_356 (L : Nat) (xs : Nat → Int32) : lk (T_L L xs) 356 = o_bin (fun x y => x + y) 357 := rfl
set_option maxRecDepth 100000 in
theorem kL_357 (L : Nat) (xs : Nat → Int32) : lk (T_L L xs) 357 = o_xld L xs 358 := rfl
set_option maxRecDepth 100000 in
theorem kL_358 (L : Nat) (xs : Nat → Int32) : lk (T_L L xs) 358 = o_callV 4 S_X4_give 2 361 := rfl
set_option maxRecDepth 100000 in
theorem kL_361 (L : Nat) (xs : Nat → Int32) : lk (T_L L xs) 361 = o_aload 2 362 := rfl
set_option maxRecDepth 100000 in
theorem kL_362 (L : Nat) (xs : Nat → Int32) : lk (T_L L xs) 362 = o_aload 0 363 := rfl
set_option maxRecDepth 100000 in
theorem kL_363 (L : Nat) (xs : Nat → Int32) : lk (T_L L xs) 363 = o_iload 3 364 := rfl
set_option maxRecDepth 100000 in
theorem kL_364 (L : Nat) (xs : Nat → Int32) : lk (T_L L xs) 364 = o_const 1 365 := rfl
set_option maxRecDepth 100000 in
theorem kL_365 (L : Nat) (xs : Nat → Int32) : lk (T_L L xs) 365 = o_bin (fun x y => x + y) 366 := rfl
set_option maxRecDepth 100000 in
theorem kL_366 (L : Nat) (xs : Nat → Int32) : lk (T_L L xs) 366 = o_xld L xs 367 := rfl
set_option maxRecDepth 100000 in
theorem kL_367 (L : Nat) (xs : Nat → Int32) : lk (T_L L xs) 367 = o_aload 0 368 := rfl
set_option maxRecDepth 100000 in
theorem kL_368 (L : Nat) (xs : Nat → Int32) : lk (T_L L xs) 368 = o_iload 3 369 := rfl
set_option maxRecDepth 100000 in
theorem kL_369 (L : Nat) (xs : Nat → Int32) : lk (T_L L xs) 369 = o_const 2 370 := rfl
set_option maxRecDepth 100000 in
theorem kL_370 (L : Nat) (xs : Nat → Int32) : lk (T_L L xs) 370 = o_bin (fun x y => x + y) 371 := rfl
set_option maxRecDepth 100000 in
theorem kL_371 (L : Nat) (xs : Nat → Int32) : lk (T_L L xs) 371 = o_xld L xs 372 := rfl
set_option maxRecDepth 100000 in
theorem kL_372 (L : Nat) (xs : Nat → Int32) : lk (T_L L xs) 372 = o_callV 5 S_X5_give 2 375 := rfl
set_option maxRecDepth 100000 in
theorem kL_375 (L : Nat) (xs : Nat → Int32) : lk (T_L L xs) 375 = o_icmp (fun x y => x = y) 888 378 := rfl
set_option maxRecDepth 100000 in
theorem kL_378 (L : Nat) (xs : Nat → Int32) : lk (T_L L xs) 378 = o_const 0 379 := rfl
set_option maxRecDepth 100000 in
theorem kL_379 (L : Nat) (xs : Nat → Int32) : lk (T_L L xs) 379 = o_fin := rfl
set_option maxRecDepth 100000 in
theorem kL_380 (L : Nat) (xs : Nat → Int32) : lk (T_L L xs) 380 = o_aload 1 381 := rfl
set_option maxRecDepth 100000 in
theorem kL_381 (L : Nat) (xs : Nat → Int32) : lk (T_L L xs) 381 = o_aload 0 382 := rfl
set_option maxRecDepth 100000 in
theorem kL_382 (L : Nat) (xs : Nat → Int32) : lk (T_L L xs) 382 = o_iload 3 383 := rfl
set_option maxRecDepth 100000 in
theorem kL_383 (L : Nat) (xs : Nat → Int32) : lk (T_L L xs) 383 = o_const 1 384 := rfl
set_option maxRecDepth 100000 in
theorem kL_384 (L : Nat) (xs : Nat → Int32) : lk (T_L L xs) 384 = o_bin (fun x y => x + y) 385 := rfl
set_option maxRecDepth 100000 in
theorem kL_385 (L : Nat) (xs : Nat → Int32) : lk (T_L L xs) 385 = o_xld L xs 386 := rfl
set_option maxRecDepth 100000 in
theorem kL_386 (L : Nat) (xs : Nat → Int32) : lk (T_L L xs) 386 = o_callV 4 S_X4_lose 1 389 := rfl
set_option maxRecDepth 100000 in
theorem kL_389 (L : Nat) (xs : Nat → Int32) : lk (T_L L xs) 389 = o_aload 2 390 := rfl
set_option maxRecDepth 100000 in
theorem kL_390 (L : Nat) (xs : Nat → Int32) : lk (T_L L xs) 390 = o_aload 0 391 := rfl
set_option maxRecDepth 100000 in
theorem kL_391 (L : Nat) (xs : Nat → Int32) : lk (T_L L xs) 391 = o_iload 3 392 := rfl
set_option maxRecDepth 100000 in
theorem kL_392 (L : Nat) (xs : Nat → Int32) : lk (T_L L xs) 392 = o_const 1 393 := rfl
set_option maxRecDepth 100000 in
theorem kL_393 (L : Nat) (xs : Nat → Int32) : lk (T_L L xs) 393 = o_bin (fun x y => x + y) 394 := rfl
set_option maxRecDepth 100000 in
theorem kL_394 (L : Nat) (xs : Nat → Int32) : lk (T_L L xs) 394 = o_xld L xs 395 := rfl
set_option maxRecDepth 100000 in
theorem kL_395 (L : Nat) (xs : Nat → Int32) : lk (T_L L xs) 395 = o_callV 5 S_X5_lose 1 398 := rfl
set_option maxRecDepth 100000 in
theorem kL_398 (L : Nat) (xs : Nat → Int32) : lk (T_L L xs) 398 = o_icmp (fun x y => x = y) 888 401 := rfl
set_option maxRecDepth 100000 in
theorem kL_401 (L : Nat) (xs : Nat → Int32) : lk (T_L L xs) 401 = o_const 0 402 := rfl
set_option maxRecDepth 100000 in
theorem kL_402 (L : Nat) (xs : Nat → Int32) : lk (T_L L xs) 402 = o_fin := rfl
set_option maxRecDepth 100000 in
theorem kL_403 (L : Nat) (xs : Nat → Int32) : lk (T_L L xs) 403 = o_aload 1 404 := rfl
set_option maxRecDepth 100000 in
theorem kL_404 (L : Nat) (xs : Nat → Int32) : lk (T_L L xs) 404 = o_aload 0 405 := rfl
set_option maxRecDepth 100000 in
theorem kL_405 (L : Nat) (xs : Nat → Int32) : lk (T_L L xs) 405 = o_iload 3 406 := rfl
set_option maxRecDepth 100000 in
theorem kL_406 (L : Nat) (xs : Nat → Int32) : lk (T_L L xs) 406 = o_const 1 407 := rfl
set_option maxRecDepth 100000 in
theorem kL_407 (L : Nat) (xs : Nat → Int32) : lk (T_L L xs) 407 = o_bin (fun x y => x + y) 408 := rfl
set_option maxRecDepth 100000 in
theorem kL_408 (L : Nat) (xs : Nat → Int32) : lk (T_L L xs) 408 = o_xld L xs 409 := rfl
set_option maxRecDepth 100000 in
theorem kL_409 (L : Nat) (xs : Nat → Int32) : lk (T_L L xs) 409 = o_aload 0 410 := rfl
set_option maxRecDepth 100000 in
theorem kL_410 (L : Nat) (xs : Nat → Int32) : lk (T_L L xs) 410 = o_iload 3 411 := rfl
set_option maxRecDepth 100000 in
theorem kL_411 (L : Nat) (xs : Nat → Int32) : lk (T_L L xs) 411 = o_const 2 412 := rfl
set_option maxRecDepth 100000 in
theorem kL_412 (L : Nat) (xs : Nat → Int32) : lk (T_L L xs) 412 = o_bin (fun x y => x + y) 413 := rfl
set_option maxRecDepth 100000 in
theorem kL_413 (L : Nat) (xs : Nat → Int32) : lk (T_L L xs) 413 = o_xld L xs 414 := rfl
set_option maxRecDepth 100000 in
theorem kL_414 (L : Nat) (xs : Nat → Int32) : lk (T_L L xs) 414 = o_callV 4 S_X4_forge 2 417 := rfl
set_option maxRecDepth 100000 in
theorem kL_417 (L : Nat) (xs : Nat → Int32) : lk (T_L L xs) 417 = o_aload 2 418 := rfl
set_option maxRecDepth 100000 in
theorem kL_418 (L : Nat) (xs : Nat → Int32) : lk (T_L L xs) 418 = o_aload 0 419 := rfl
set_option maxRecDepth 100000 in
theorem kL_419 (L : Nat) (xs : Nat → Int32) : lk (T_L L xs) 419 = o_iload 3 420 := rfl
set_option maxRecDepth 100000 in
theorem kL_420 (L : Nat) (xs : Nat → Int32) : lk (T_L L xs) 420 = o_const 1 421 := rfl
set_option maxRecDepth 100000 in
theorem kL_421 (L : Nat) (xs : Nat → Int32) : lk (T_L L xs) 421 = o_bin (fun x y => x + y) 422 := rfl
set_option maxRecDepth 100000 in
theorem kL_422 (L : Nat) (xs : Nat → Int32) : lk (T_L L xs) 422 = o_xld L xs 423 := rfl
set_option maxRecDepth 100000 in
theorem kL_423 (L : Nat) (xs : Nat → Int32) : lk (T_L L xs) 423 = o_aload 0 424 := rfl
set_option maxRecDepth 100000 in
theorem kL_424 (L : Nat) (xs : Nat → Int32) : lk (T_L L xs) 424 = o_iload 3 425 := rfl
set_option maxRecDepth 100000 in
theorem kL_425 (L : Nat) (xs : Nat → Int32) : lk (T_L L xs) 425 = o_const 2 426 := rfl
set_option maxRecDepth 100000 in
theorem kL_426 (L : Nat) (xs : Nat → Int32) : lk (T_L L xs) 426 = o_bin (fun x y => x + y) 427 := rfl
set_option maxRecDepth 100000 in
theorem kL_427 (L : Nat) (xs : Nat → Int32) : lk (T_L L xs) 427 = o_xld L xs 428 := rfl
set_option maxRecDepth 100000 in
theorem kL_428 (L : Nat) (xs : Nat → Int32) : lk (T_L L xs) 428 = o_callV 5 S_X5_forge 2 431 := rfl
set_option maxRecDepth 100000 in
theorem kL_431 (L : Nat) (xs : Nat → Int32) : lk (T_L L xs) 431 = o_icmp (fun x y => x = y) 888 434 := rfl
set_option maxRecDepth 100000 in
theorem kL_434 (L : Nat) (xs : Nat → Int32) : lk (T_L L xs) 434 = o_const 0 435 := rfl
set_option maxRecDepth 100000 in
theorem kL_435 (L : Nat) (xs : Nat → Int32) : lk (T_L L xs) 435 = o_fin := rfl
set_option maxRecDepth 100000 in
theorem kL_436 (L : Nat) (xs : Nat → Int32) : lk (T_L L xs) 436 = o_aload 1 437 := rfl
set_option maxRecDepth 100000 in
theorem kL_437 (L : Nat) (xs : Nat → Int32) : lk (T_L L xs) 437 = o_callV 4 S_X4_undo 0 440 := rfl
set_option maxRecDepth 100000 in
theorem kL_440 (L : Nat) (xs : Nat → Int32) : lk (T_L L xs) 440 = o_aload 2 441 := rfl
set_option maxRecDepth 100000 in
theorem kL_441 (L : Nat) (xs : Nat → Int32) : lk (T_L L xs) 441 = o_callV 5 S_X5_undo 0 444 := rfl
set_option maxRecDepth 100000 in
theorem kL_444 (L : Nat) (xs : Nat → Int32) : lk (T_L L xs) 444 = o_icmp (fun x y => x = y) 888 447 := rfl
set_option maxRecDepth 100000 in
theorem kL_447 (L : Nat) (xs : Nat → Int32) : lk (T_L L xs) 447 = o_const 0 448 := rfl
set_option maxRecDepth 100000 in
theorem kL_448 (L : Nat) (xs : Nat → Int32) : lk (T_L L xs) 448 = o_fin := rfl
set_option maxRecDepth 100000 in
theorem kL_449 (L : Nat) (xs : Nat → Int32) : lk (T_L L xs) 449 = o_aload 1 450 := rfl
set_option maxRecDepth 100000 in
theorem kL_450 (L : Nat) (xs : Nat → Int32) : lk (T_L L xs) 450 = o_callV 4 S_X4_alone 0 453 := rfl
set_option maxRecDepth 100000 in
theorem kL_453 (L : Nat) (xs : Nat → Int32) : lk (T_L L xs) 453 = o_aload 2 454 := rfl
set_option maxRecDepth 100000 in
theorem kL_454 (L : Nat) (xs : Nat → Int32) : lk (T_L L xs) 454 = o_callV 5 S_X5_alone 0 457 := rfl
set_option maxRecDepth 100000 in
theorem kL_457 (L : Nat) (xs : Nat → Int32) : lk (T_L L xs) 457 = o_icmp (fun x y => x = y) 888 460 := rfl
set_option maxRecDepth 100000 in
theorem kL_460 (L : Nat) (xs : Nat → Int32) : lk (T_L L xs) 460 = o_const 0 461 := rfl
set_option maxRecDepth 100000 in
theorem kL_461 (L : Nat) (xs : Nat → Int32) : lk (T_L L xs) 461 = o_fin := rfl
set_option maxRecDepth 100000 in
theorem kL_462 (L : Nat) (xs : Nat → Int32) : lk (T_L L xs) 462 = o_aload 1 463 := rfl
set_option maxRecDepth 100000 in
theorem kL_463 (L : Nat) (xs : Nat → Int32) : lk (T_L L xs) 463 = o_aload 0 464 := rfl
set_option maxRecDepth 100000 in
theorem kL_464 (L : Nat) (xs : Nat → Int32) : lk (T_L L xs) 464 = o_iload 3 465 := rfl
set_option maxRecDepth 100000 in
theorem kL_465 (L : Nat) (xs : Nat → Int32) : lk (T_L L xs) 465 = o_const 1 466 := rfl
set_option maxRecDepth 100000 in
theorem kL_466 (L : Nat) (xs : Nat → Int32) : lk (T_L L xs) 466 = o_bin (fun x y => x + y) 467 := rfl
set_option maxRecDepth 100000 in
theorem kL_467 (L : Nat) (xs : Nat → Int32) : lk (T_L L xs) 467 = o_xld L xs 468 := rfl
set_option maxRecDepth 100000 in
theorem kL_468 (L : Nat) (xs : Nat → Int32) : lk (T_L L xs) 468 = o_aload 0 469 := rfl
set_option maxRecDepth 100000 in
theorem kL_469 (L : Nat) (xs : Nat → Int32) : lk (T_L L xs) 469 = o_iload 3 470 := rfl
set_option maxRecDepth 100000 in
theorem kL_470 (L : Nat) (xs : Nat → Int32) : lk (T_L L xs) 470 = o_const 2 471 := rfl
set_option maxRecDepth 100000 in
theorem kL_471 (L : Nat) (xs : Nat → Int32) : lk (T_L L xs) 471 = o_bin (fun x y => x + y) 472 := rfl
set_option maxRecDepth 100000 in
theorem kL_472 (L : Nat) (xs : Nat → Int32) : lk (T_L L xs) 472 = o_xld L xs 473 := rfl
set_option maxRecDepth 100000 in
theorem kL_473 (L : Nat) (xs : Nat → Int32) : lk (T_L L xs) 473 = o_aload 0 474 := rfl
set_option maxRecDepth 100000 in
theorem kL_474 (L : Nat) (xs : Nat → Int32) : lk (T_L L xs) 474 = o_iload 3 475 := rfl
set_option maxRecDepth 100000 in
theorem kL_475 (L : Nat) (xs : Nat → Int32) : lk (T_L L xs) 475 = o_const 3 476 := rfl
set_option maxRecDepth 100000 in
theorem kL_476 (L : Nat) (xs : Nat → Int32) : lk (T_L L xs) 476 = o_bin (fun x y => x + y) 477 := rfl
set_option maxRecDepth 100000 in
theorem kL_477 (L : Nat) (xs : Nat → Int32) : lk (T_L L xs) 477 = o_xld L xs 478 := rfl
set_option maxRecDepth 100000 in
theorem kL_478 (L : Nat) (xs : Nat → Int32) : lk (T_L L xs) 478 = o_callV 4 S_X4_fewest 3 481 := rfl
set_option maxRecDepth 100000 in
theorem kL_481 (L : Nat) (xs : Nat → Int32) : lk (T_L L xs) 481 = o_aload 2 482 := rfl
set_option maxRecDepth 100000 in
theorem kL_482 (L : Nat) (xs : Nat → Int32) : lk (T_L L xs) 482 = o_aload 0 483 := rfl
set_option maxRecDepth 100000 in
theorem kL_483 (L : Nat) (xs : Nat → Int32) : lk (T_L L xs) 483 = o_iload 3 484 := rfl
set_option maxRecDepth 100000 in
theorem kL_484 (L : Nat) (xs : Nat → Int32) : lk (T_L L xs) 484 = o_const 1 485 := rfl
set_option maxRecDepth 100000 in
theorem kL_485 (L : Nat) (xs : Nat → Int32) : lk (T_L L xs) 485 = o_bin (fun x y => x + y) 486 := rfl
set_option maxRecDepth 100000 in
theorem kL_486 (L : Nat) (xs : Nat → Int32) : lk (T_L L xs) 486 = o_xld L xs 487 := rfl
set_option maxRecDepth 100000 in
theorem kL_487 (L : Nat) (xs : Nat → Int32) : lk (T_L L xs) 487 = o_aload 0 488 := rfl
set_option maxRecDepth 100000 in
theorem kL_488 (L : Nat) (xs : Nat → Int32) : lk (T_L L xs) 488 = o_iload 3 489 := rfl
set_option maxRecDepth 100000 in
theorem kL_489 (L : Nat) (xs : Nat → Int32) : lk (T_L L xs) 489 = o_const 2 490 := rfl
set_option maxRecDepth 100000 in
theorem kL_490 (L : Nat) (xs : Nat → Int32) : lk (T_L L xs) 490 = o_bin (fun x y => x + y) 491 := rfl
set_option maxRecDepth 100000 in
theorem kL_491 (L : Nat) (xs : Nat → Int32) : lk (T_L L xs) 491 = o_xld L xs 492 := rfl
set_option maxRecDepth 100000 in
theorem kL_492 (L : Nat) (xs : Nat → Int32) : lk (T_L L xs) 492 = o_aload 0 493 := rfl
set_option maxRecDepth 100000 in
theorem kL_493 (L : Nat) (xs : Nat → Int32) : lk (T_L L xs) 493 = o_iload 3 494 := rfl
set_option maxRecDepth 100000 in
theorem kL_494 (L : Nat) (xs : Nat → Int32) : lk (T_L L xs) 494 = o_const 3 495 := rfl
set_option maxRecDepth 100000 in
theorem kL_495 (L : Nat) (xs : Nat → Int32) : lk (T_L L xs) 495 = o_bin (fun x y => x + y) 496 := rfl
set_option maxRecDepth 100000 in
theorem kL_496 (L : Nat) (xs : Nat → Int32) : lk (T_L L xs) 496 = o_xld L xs 497 := rfl
set_option maxRecDepth 100000 in
theorem kL_497 (L : Nat) (xs : Nat → Int32) : lk (T_L L xs) 497 = o_callV 5 S_X5_fewest 3 500 := rfl
set_option maxRecDepth 100000 in
theorem kL_500 (L : Nat) (xs : Nat → Int32) : lk (T_L L xs) 500 = o_icmp (fun x y => x = y) 888 503 := rfl
set_option maxRecDepth 100000 in
theorem kL_503 (L : Nat) (xs : Nat → Int32) : lk (T_L L xs) 503 = o_const 0 504 := rfl
set_option maxRecDepth 100000 in
theorem kL_504 (L : Nat) (xs : Nat → Int32) : lk (T_L L xs) 504 = o_fin := rfl
set_option maxRecDepth 100000 in
theorem kL_505 (L : Nat) (xs : Nat → Int32) : lk (T_L L xs) 505 = o_aload 1 506 := rfl
set_option maxRecDepth 100000 in
theorem kL_506 (L : Nat) (xs : Nat → Int32) : lk (T_L L xs) 506 = o_aload 0 507 := rfl
set_option maxRecDepth 100000 in
theorem kL_507 (L : Nat) (xs : Nat → Int32) : lk (T_L L xs) 507 = o_iload 3 508 := rfl
set_option maxRecDepth 100000 in
theorem kL_508 (L : Nat) (xs : Nat → Int32) : lk (T_L L xs) 508 = o_const 1 509 := rfl
set_option maxRecDepth 100000 in
theorem kL_509 (L : Nat) (xs : Nat → Int32) : lk (T_L L xs) 509 = o_bin (fun x y => x + y) 510 := rfl
set_option maxRecDepth 100000 in
theorem kL_510 (L : Nat) (xs : Nat → Int32) : lk (T_L L xs) 510 = o_xld L xs 511 := rfl
set_option maxRecDepth 100000 in
theorem kL_511 (L : Nat) (xs : Nat → Int32) : lk (T_L L xs) 511 = o_callV 4 S_X4_opens 1 514 := rfl
set_option maxRecDepth 100000 in
theorem kL_514 (L : Nat) (xs : Nat → Int32) : lk (T_L L xs) 514 = o_aload 2 515 := rfl
set_option maxRecDepth 100000 in
theorem kL_515 (L : Nat) (xs : Nat → Int32) : lk (T_L L xs) 515 = o_aload 0 516 := rfl
set_option maxRecDepth 100000 in
theorem kL_516 (L : Nat) (xs : Nat → Int32) : lk (T_L L xs) 516 = o_iload 3 517 := rfl
set_option maxRecDepth 100000 in
theorem kL_517 (L : Nat) (xs : Nat → Int32) : lk (T_L L xs) 517 = o_const 1 518 := rfl
set_option maxRecDepth 100000 in
theorem kL_518 (L : Nat) (xs : Nat → Int32) : lk (T_L L xs) 518 = o_bin (fun x y => x + y) 519 := rfl
set_option maxRecDepth 100000 in
theorem kL_519 (L : Nat) (xs : Nat → Int32) : lk (T_L L xs) 519 = o_xld L xs 520 := rfl
set_option maxRecDepth 100000 in
theorem kL_520 (L : Nat) (xs : Nat → Int32) : lk (T_L L xs) 520 = o_callV 5 S_X5_opens 1 523 := rfl
set_option maxRecDepth 100000 in
theorem kL_523 (L : Nat) (xs : Nat → Int32) : lk (T_L L xs) 523 = o_icmp (fun x y => x = y) 888 526 := rfl
set_option maxRecDepth 100000 in
theorem kL_526 (L : Nat) (xs : Nat → Int32) : lk (T_L L xs) 526 = o_const 0 527 := rfl
set_option maxRecDepth 100000 in
theorem kL_527 (L : Nat) (xs : Nat → Int32) : lk (T_L L xs) 527 = o_fin := rfl
set_option maxRecDepth 100000 in
theorem kL_528 (L : Nat) (xs : Nat → Int32) : lk (T_L L xs) 528 = o_aload 1 529 := rfl
set_option maxRecDepth 100000 in
theorem kL_529 (L : Nat) (xs : Nat → Int32) : lk (T_L L xs) 529 = o_aload 0 530 := rfl
set_option maxRecDepth 100000 in
theorem kL_530 (L : Nat) (xs : Nat → Int32) : lk (T_L L xs) 530 = o_iload 3 531 := rfl
set_option maxRecDepth 100000 in
theorem kL_531 (L : Nat) (xs : Nat → Int32) : lk (T_L L xs) 531 = o_const 1 532 := rfl
set_option maxRecDepth 100000 in
theorem kL_532 (L : Nat) (xs : Nat → Int32) : lk (T_L L xs) 532 = o_bin (fun x y => x + y) 533 := rfl
set_option maxRecDepth 100000 in
theorem kL_533 (L : Nat) (xs : Nat → Int32) : lk (T_L L xs) 533 = o_xld L xs 534 := rfl
set_option maxRecDepth 100000 in
theorem kL_534 (L : Nat) (xs : Nat → Int32) : lk (T_L L xs) 534 = o_aload 0 535 := rfl
set_option maxRecDepth 100000 in
theorem kL_535 (L : Nat) (xs : Nat → Int32) : lk (T_L L xs) 535 = o_iload 3 536 := rfl
set_option maxRecDepth 100000 in
theorem kL_536 (L : Nat) (xs : Nat → Int32) : lk (T_L L xs) 536 = o_const 2 537 := rfl
set_option maxRecDepth 100000 in
theorem kL_537 (L : Nat) (xs : Nat → Int32) : lk (T_L L xs) 537 = o_bin (fun x y => x + y) 538 := rfl
set_option maxRecDepth 100000 in
theorem kL_538 (L : Nat) (xs : Nat → Int32) : lk (T_L L xs) 538 = o_xld L xs 539 := rfl
set_option maxRecDepth 100000 in
theorem kL_539 (L : Nat) (xs : Nat → Int32) : lk (T_L L xs) 539 = o_callV 4 S_X4_groups 2 542 := rfl
set_option maxRecDepth 100000 in
theorem kL_542 (L : Nat) (xs : Nat → Int32) : lk (T_L L xs) 542 = o_aload 2 543 := rfl
set_option maxRecDepth 100000 in
theorem kL_543 (L : Nat) (xs : Nat → Int32) : lk (T_L L xs) 543 = o_aload 0 544 := rfl
set_option maxRecDepth 100000 in
theorem kL_544 (L : Nat) (xs : Nat → Int32) : lk (T_L L xs) 544 = o_iload 3 545 := rfl
set_option maxRecDepth 100000 in
theorem kL_545 (L : Nat) (xs : Nat → Int32) : lk (T_L L xs) 545 = o_const 1 546 := rfl
set_option maxRecDepth 100000 in
theorem kL_546 (L : Nat) (xs : Nat → Int32) : lk (T_L L xs) 546 = o_bin (fun x y => x + y) 547 := rfl
set_option maxRecDepth 100000 in
theorem kL_547 (L : Nat) (xs : Nat → Int32) : lk (T_L L xs) 547 = o_xld L xs 548 := rfl
set_option maxRecDepth 100000 in
theorem kL_548 (L : Nat) (xs : Nat → Int32) : lk (T_L L xs) 548 = o_aload 0 549 := rfl
set_option maxRecDepth 100000 in
theorem kL_549 (L : Nat) (xs : Nat → Int32) : lk (T_L L xs) 549 = o_iload 3 550 := rfl
set_option maxRecDepth 100000 in
theorem kL_550 (L : Nat) (xs : Nat → Int32) : lk (T_L L xs) 550 = o_const 2 551 := rfl
set_option maxRecDepth 100000 in
theorem kL_551 (L : Nat) (xs : Nat → Int32) : lk (T_L L xs) 551 = o_bin (fun x y => x + y) 552 := rfl
set_option maxRecDepth 100000 in
theorem kL_552 (L : Nat) (xs : Nat → Int32) : lk (T_L L xs) 552 = o_xld L xs 553 := rfl
set_option maxRecDepth 100000 in
theorem kL_553 (L : Nat) (xs : Nat → Int32) : lk (T_L L xs) 553 = o_callV 5 S_X5_groups 2 556 := rfl
set_option maxRecDepth 100000 in
theorem kL_556 (L : Nat) (xs : Nat → Int32) : lk (T_L L xs) 556 = o_icmp (fun x y => x = y) 888 559 := rfl
set_option maxRecDepth 100000 in
theorem kL_559 (L : Nat) (xs : Nat → Int32) : lk (T_L L xs) 559 = o_const 0 560 := rfl
set_option maxRecDepth 100000 in
theorem kL_560 (L : Nat) (xs : Nat → Int32) : lk (T_L L xs) 560 = o_fin := rfl
set_option maxRecDepth 100000 in
theorem kL_561 (L : Nat) (xs : Nat → Int32) : lk (T_L L xs) 561 = o_aload 1 562 := rfl
set_option maxRecDepth 100000 in
theorem kL_562 (L : Nat) (xs : Nat → Int32) : lk (T_L L xs) 562 = o_aload 0 563 := rfl
set_option maxRecDepth 100000 in
theorem kL_563 (L : Nat) (xs : Nat → Int32) : lk (T_L L xs) 563 = o_iload 3 564 := rfl
set_option maxRecDepth 100000 in
theorem kL_564 (L : Nat) (xs : Nat → Int32) : lk (T_L L xs) 564 = o_const 1 565 := rfl
set_option maxRecDepth 100000 in
theorem kL_565 (L : Nat) (xs : Nat → Int32) : lk (T_L L xs) 565 = o_bin (fun x y => x + y) 566 := rfl
set_option maxRecDepth 100000 in
theorem kL_566 (L : Nat) (xs : Nat → Int32) : lk (T_L L xs) 566 = o_xld L xs 567 := rfl
set_option maxRecDepth 100000 in
theorem kL_567 (L : Nat) (xs : Nat → Int32) : lk (T_L L xs) 567 = o_aload 0 568 := rfl
set_option maxRecDepth 100000 in
theorem kL_568 (L : Nat) (xs : Nat → Int32) : lk (T_L L xs) 568 = o_iload 3 569 := rfl
set_option maxRecDepth 100000 in
theorem kL_569 (L : Nat) (xs : Nat → Int32) : lk (T_L L xs) 569 = o_const 2 570 := rfl
set_option maxRecDepth 100000 in
theorem kL_570 (L : Nat) (xs : Nat → Int32) : lk (T_L L xs) 570 = o_bin (fun x y => x + y) 571 := rfl
set_option maxRecDepth 100000 in
theorem kL_571 (L : Nat) (xs : Nat → Int32) : lk (T_L L xs) 571 = o_xld L xs 572 := rfl
set_option maxRecDepth 100000 in
theorem kL_572 (L : Nat) (xs : Nat → Int32) : lk (T_L L xs) 572 = o_aload 0 573 := rfl
set_option maxRecDepth 100000 in
theorem kL_573 (L : Nat) (xs : Nat → Int32) : lk (T_L L xs) 573 = o_iload 3 574 := rfl
set_option maxRecDepth 100000 in
theorem kL_574 (L : Nat) (xs : Nat → Int32) : lk (T_L L xs) 574 = o_const 3 575 := rfl
set_option maxRecDepth 100000 in
theorem kL_575 (L : Nat) (xs : Nat → Int32) : lk (T_L L xs) 575 = o_bin (fun x y => x + y) 576 := rfl
set_option maxRecDepth 100000 in
theorem kL_576 (L : Nat) (xs : Nat → Int32) : lk (T_L L xs) 576 = o_xld L xs 577 := rfl
set_option maxRecDepth 100000 in
theorem kL_577 (L : Nat) (xs : Nat → Int32) : lk (T_L L xs) 577 = o_callV 4 S_X4_wish 3 580 := rfl
set_option maxRecDepth 100000 in
theorem kL_580 (L : Nat) (xs : Nat → Int32) : lk (T_L L xs) 580 = o_aload 2 581 := rfl
set_option maxRecDepth 100000 in
theorem kL_581 (L : Nat) (xs : Nat → Int32) : lk (T_L L xs) 581 = o_aload 0 582 := rfl
set_option maxRecDepth 100000 in
theorem kL_582 (L : Nat) (xs : Nat → Int32) : lk (T_L L xs) 582 = o_iload 3 583 := rfl
set_option maxRecDepth 100000 in
theorem kL_583 (L : Nat) (xs : Nat → Int32) : lk (T_L L xs) 583 = o_const 1 584 := rfl
set_option maxRecDepth 100000 in
theorem kL_584 (L : Nat) (xs : Nat → Int32) : lk (T_L L xs) 584 = o_bin (fun x y => x + y) 585 := rfl
set_option maxRecDepth 100000 in
theorem kL_585 (L : Nat) (xs : Nat → Int32) : lk (T_L L xs) 585 = o_xld L xs 586 := rfl
set_option maxRecDepth 100000 in
theorem kL_586 (L : Nat) (xs : Nat → Int32) : lk (T_L L xs) 586 = o_aload 0 587 := rfl
set_option maxRecDepth 100000 in
theorem kL_587 (L : Nat) (xs : Nat → Int32) : lk (T_L L xs) 587 = o_iload 3 588 := rfl
set_option maxRecDepth 100000 in
theorem kL_588 (L : Nat) (xs : Nat → Int32) : lk (T_L L xs) 588 = o_const 2 589 := rfl
set_option maxRecDepth 100000 in
theorem kL_589 (L : Nat) (xs : Nat → Int32) : lk (T_L L xs) 589 = o_bin (fun x y => x + y) 590 := rfl
set_option maxRecDepth 100000 in
theorem kL_590 (L : Nat) (xs : Nat → Int32) : lk (T_L L xs) 590 = o_xld L xs 591 := rfl
set_option maxRecDepth 100000 in
theorem kL_591 (L : Nat) (xs : Nat → Int32) : lk (T_L L xs) 591 = o_aload 0 592 := rfl
set_option maxRecDepth 100000 in
theorem kL_592 (L : Nat) (xs : Nat → Int32) : lk (T_L L xs) 592 = o_iload 3 593 := rfl
set_option maxRecDepth 100000 in
theorem kL_593 (L : Nat) (xs : Nat → Int32) : lk (T_L L xs) 593 = o_const 3 594 := rfl
set_option maxRecDepth 100000 in
theorem kL_594 (L : Nat) (xs : Nat → Int32) : lk (T_L L xs) 594 = o_bin (fun x y => x + y) 595 := rfl
set_option maxRecDepth 100000 in
theorem kL_595 (L : Nat) (xs : Nat → Int32) : lk (T_L L xs) 595 = o_xld L xs 596 := rfl
set_option maxRecDepth 100000 in
theorem kL_596 (L : Nat) (xs : Nat → Int32) : lk (T_L L xs) 596 = o_callV 5 S_X5_wish 3 599 := rfl
set_option maxRecDepth 100000 in
theorem kL_599 (L : Nat) (xs : Nat → Int32) : lk (T_L L xs) 599 = o_icmp (fun x y => x = y) 888 602 := rfl
set_option maxRecDepth 100000 in
theorem kL_602 (L : Nat) (xs : Nat → Int32) : lk (T_L L xs) 602 = o_const 0 603 := rfl
set_option maxRecDepth 100000 in
theorem kL_603 (L : Nat) (xs : Nat → Int32) : lk (T_L L xs) 603 = o_fin := rfl
set_option maxRecDepth 100000 in
theorem kL_604 (L : Nat) (xs : Nat → Int32) : lk (T_L L xs) 604 = o_aload 1 605 := rfl
set_option maxRecDepth 100000 in
theorem kL_605 (L : Nat) (xs : Nat → Int32) : lk (T_L L xs) 605 = o_aload 0 606 := rfl
set_option maxRecDepth 100000 in
theorem kL_606 (L : Nat) (xs : Nat → Int32) : lk (T_L L xs) 606 = o_iload 3 607 := rfl
set_option maxRecDepth 100000 in
theorem kL_607 (L : Nat) (xs : Nat → Int32) : lk (T_L L xs) 607 = o_const 1 608 := rfl
set_option maxRecDepth 100000 in
theorem kL_608 (L : Nat) (xs : Nat → Int32) : lk (T_L L xs) 608 = o_bin (fun x y => x + y) 609 := rfl
set_option maxRecDepth 100000 in
theorem kL_609 (L : Nat) (xs : Nat → Int32) : lk (T_L L xs) 609 = o_xld L xs 610 := rfl
set_option maxRecDepth 100000 in
theorem kL_610 (L : Nat) (xs : Nat → Int32) : lk (T_L L xs) 610 = o_callV 4 S_X4_shut 1 613 := rfl
set_option maxRecDepth 100000 in
theorem kL_613 (L : Nat) (xs : Nat → Int32) : lk (T_L L xs) 613 = o_aload 2 614 := rfl
set_option maxRecDepth 100000 in
theorem kL_614 (L : Nat) (xs : Nat → Int32) : lk (T_L L xs) 614 = o_aload 0 615 := rfl
set_option maxRecDepth 100000 in
theorem kL_615 (L : Nat) (xs : Nat → Int32) : lk (T_L L xs) 615 = o_iload 3 616 := rfl
set_option maxRecDepth 100000 in
theorem kL_616 (L : Nat) (xs : Nat → Int32) : lk (T_L L xs) 616 = o_const 1 617 := rfl
set_option maxRecDepth 100000 in
theorem kL_617 (L : Nat) (xs : Nat → Int32) : lk (T_L L xs) 617 = o_bin (fun x y => x + y) 618 := rfl
set_option maxRecDepth 100000 in
theorem kL_618 (L : Nat) (xs : Nat → Int32) : lk (T_L L xs) 618 = o_xld L xs 619 := rfl
set_option maxRecDepth 100000 in
theorem kL_619 (L : Nat) (xs : Nat → Int32) : lk (T_L L xs) 619 = o_callV 5 S_X5_shut 1 622 := rfl
set_option maxRecDepth 100000 in
theorem kL_622 (L : Nat) (xs : Nat → Int32) : lk (T_L L xs) 622 = o_icmp (fun x y => x = y) 888 625 := rfl
set_option maxRecDepth 100000 in
theorem kL_625 (L : Nat) (xs : Nat → Int32) : lk (T_L L xs) 625 = o_const 0 626 := rfl
set_option maxRecDepth 100000 in
theorem kL_626 (L : Nat) (xs : Nat → Int32) : lk (T_L L xs) 626 = o_fin := rfl
set_option maxRecDepth 100000 in
theorem kL_627 (L : Nat) (xs : Nat → Int32) : lk (T_L L xs) 627 = o_aload 1 628 := rfl
set_option maxRecDepth 100000 in
theorem kL_628 (L : Nat) (xs : Nat → Int32) : lk (T_L L xs) 628 = o_aload 0 629 := rfl
set_option maxRecDepth 100000 in
theorem kL_629 (L : Nat) (xs : Nat → Int32) : lk (T_L L xs) 629 = o_iload 3 630 := rfl
set_option maxRecDepth 100000 in
theorem kL_630 (L : Nat) (xs : Nat → Int32) : lk (T_L L xs) 630 = o_const 1 631 := rfl
set_option maxRecDepth 100000 in
theorem kL_631 (L : Nat) (xs : Nat → Int32) : lk (T_L L xs) 631 = o_bin (fun x y => x + y) 632 := rfl
set_option maxRecDepth 100000 in
theorem kL_632 (L : Nat) (xs : Nat → Int32) : lk (T_L L xs) 632 = o_xld L xs 633 := rfl
set_option maxRecDepth 100000 in
theorem kL_633 (L : Nat) (xs : Nat → Int32) : lk (T_L L xs) 633 = o_callV 4 S_X4_brings 1 636 := rfl
set_option maxRecDepth 100000 in
theorem kL_636 (L : Nat) (xs : Nat → Int32) : lk (T_L L xs) 636 = o_aload 2 637 := rfl
set_option maxRecDepth 100000 in
theorem kL_637 (L : Nat) (xs : Nat → Int32) : lk (T_L L xs) 637 = o_aload 0 638 := rfl
set_option maxRecDepth 100000 in
theorem kL_638 (L : Nat) (xs : Nat → Int32) : lk (T_L L xs) 638 = o_iload 3 639 := rfl
set_option maxRecDepth 100000 in
theorem kL_639 (L : Nat) (xs : Nat → Int32) : lk (T_L L xs) 639 = o_const 1 640 := rfl
set_option maxRecDepth 100000 in
theorem kL_640 (L : Nat) (xs : Nat → Int32) : lk (T_L L xs) 640 = o_bin (fun x y => x + y) 641 := rfl
set_option maxRecDepth 100000 in
theorem kL_641 (L : Nat) (xs : Nat → Int32) : lk (T_L L xs) 641 = o_xld L xs 642 := rfl
set_option maxRecDepth 100000 in
theorem kL_642 (L : Nat) (xs : Nat → Int32) : lk (T_L L xs) 642 = o_callV 5 S_X5_brings 1 645 := rfl
set_option maxRecDepth 100000 in
theorem kL_645 (L : Nat) (xs : Nat → Int32) : lk (T_L L xs) 645 = o_icmp (fun x y => x = y) 888 648 := rfl
set_option maxRecDepth 100000 in
theorem kL_648 (L : Nat) (xs : Nat → Int32) : lk (T_L L xs) 648 = o_const 0 649 := rfl
set_option maxRecDepth 100000 in
theorem kL_649 (L : Nat) (xs : Nat → Int32) : lk (T_L L xs) 649 = o_fin := rfl
set_option maxRecDepth 100000 in
theorem kL_650 (L : Nat) (xs : Nat → Int32) : lk (T_L L xs) 650 = o_aload 1 651 := rfl
set_option maxRecDepth 100000 in
theorem kL_651 (L : Nat) (xs : Nat → Int32) : lk (T_L L xs) 651 = o_aload 0 652 := rfl
set_option maxRecDepth 100000 in
theorem kL_652 (L : Nat) (xs : Nat → Int32) : lk (T_L L xs) 652 = o_iload 3 653 := rfl
set_option maxRecDepth 100000 in
theorem kL_653 (L : Nat) (xs : Nat → Int32) : lk (T_L L xs) 653 = o_const 1 654 := rfl
set_option maxRecDepth 100000 in
theorem kL_654 (L : Nat) (xs : Nat → Int32) : lk (T_L L xs) 654 = o_bin (fun x y => x + y) 655 := rfl
set_option maxRecDepth 100000 in
theorem kL_655 (L : Nat) (xs : Nat → Int32) : lk (T_L L xs) 655 = o_xld L xs 656 := rfl
set_option maxRecDepth 100000 in
theorem kL_656 (L : Nat) (xs : Nat → Int32) : lk (T_L L xs) 656 = o_callV 4 S_X4_rob 1 659 := rfl
set_option maxRecDepth 100000 in
theorem kL_659 (L : Nat) (xs : Nat → Int32) : lk (T_L L xs) 659 = o_aload 2 660 := rfl
set_option maxRecDepth 100000 in
theorem kL_660 (L : Nat) (xs : Nat → Int32) : lk (T_L L xs) 660 = o_aload 0 661 := rfl
set_option maxRecDepth 100000 in
theorem kL_661 (L : Nat) (xs : Nat → Int32) : lk (T_L L xs) 661 = o_iload 3 662 := rfl
set_option maxRecDepth 100000 in
theorem kL_662 (L : Nat) (xs : Nat → Int32) : lk (T_L L xs) 662 = o_const 1 663 := rfl
set_option maxRecDepth 100000 in
theorem kL_663 (L : Nat) (xs : Nat → Int32) : lk (T_L L xs) 663 = o_bin (fun x y => x + y) 664 := rfl
set_option maxRecDepth 100000 in
theorem kL_664 (L : Nat) (xs : Nat → Int32) : lk (T_L L xs) 664 = o_xld L xs 665 := rfl
set_option maxRecDepth 100000 in
theorem kL_665 (L : Nat) (xs : Nat → Int32) : lk (T_L L xs) 665 = o_callV 5 S_X5_rob 1 668 := rfl
set_option maxRecDepth 100000 in
theorem kL_668 (L : Nat) (xs : Nat → Int32) : lk (T_L L xs) 668 = o_icmp (fun x y => x = y) 888 671 := rfl
set_option maxRecDepth 100000 in
theorem kL_671 (L : Nat) (xs : Nat → Int32) : lk (T_L L xs) 671 = o_const 0 672 := rfl
set_option maxRecDepth 100000 in
theorem kL_672 (L : Nat) (xs : Nat → Int32) : lk (T_L L xs) 672 = o_fin := rfl
set_option maxRecDepth 100000 in
theorem kL_673 (L : Nat) (xs : Nat → Int32) : lk (T_L L xs) 673 = o_aload 1 674 := rfl
set_option maxRecDepth 100000 in
theorem kL_674 (L : Nat) (xs : Nat → Int32) : lk (T_L L xs) 674 = o_callV 4 S_X4_apart 0 677 := rfl
set_option maxRecDepth 100000 in
theorem kL_677 (L : Nat) (xs : Nat → Int32) : lk (T_L L xs) 677 = o_aload 2 678 := rfl
set_option maxRecDepth 100000 in
theorem kL_678 (L : Nat) (xs : Nat → Int32) : lk (T_L L xs) 678 = o_callV 5 S_X5_apart 0 681 := rfl
set_option maxRecDepth 100000 in
theorem kL_681 (L : Nat) (xs : Nat → Int32) : lk (T_L L xs) 681 = o_icmp (fun x y => x = y) 888 684 := rfl
set_option maxRecDepth 100000 in
theorem kL_684 (L : Nat) (xs : Nat → Int32) : lk (T_L L xs) 684 = o_const 0 685 := rfl
set_option maxRecDepth 100000 in
theorem kL_685 (L : Nat) (xs : Nat → Int32) : lk (T_L L xs) 685 = o_fin := rfl
set_option maxRecDepth 100000 in
theorem kL_686 (L : Nat) (xs : Nat → Int32) : lk (T_L L xs) 686 = o_aload 1 687 := rfl
set_option maxRecDepth 100000 in
theorem kL_687 (L : Nat) (xs : Nat → Int32) : lk (T_L L xs) 687 = o_aload 0 688 := rfl
set_option maxRecDepth 100000 in
theorem kL_688 (L : Nat) (xs : Nat → Int32) : lk (T_L L xs) 688 = o_iload 3 689 := rfl
set_option maxRecDepth 100000 in
theorem kL_689 (L : Nat) (xs : Nat → Int32) : lk (T_L L xs) 689 = o_const 1 690 := rfl
set_option maxRecDepth 100000 in
theorem kL_690 (L : Nat) (xs : Nat → Int32) : lk (T_L L xs) 690 = o_bin (fun x y => x + y) 691 := rfl
set_option maxRecDepth 100000 in
theorem kL_691 (L : Nat) (xs : Nat → Int32) : lk (T_L L xs) 691 = o_xld L xs 692 := rfl
set_option maxRecDepth 100000 in
theorem kL_692 (L : Nat) (xs : Nat → Int32) : lk (T_L L xs) 692 = o_aload 0 693 := rfl
set_option maxRecDepth 100000 in
theorem kL_693 (L : Nat) (xs : Nat → Int32) : lk (T_L L xs) 693 = o_iload 3 694 := rfl
set_option maxRecDepth 100000 in
theorem kL_694 (L : Nat) (xs : Nat → Int32) : lk (T_L L xs) 694 = o_const 2 695 := rfl
set_option maxRecDepth 100000 in
theorem kL_695 (L : Nat) (xs : Nat → Int32) : lk (T_L L xs) 695 = o_bin (fun x y => x + y) 696 := rfl
set_option maxRecDepth 100000 in
theorem kL_696 (L : Nat) (xs : Nat → Int32) : lk (T_L L xs) 696 = o_xld L xs 697 := rfl
set_option maxRecDepth 100000 in
theorem kL_697 (L : Nat) (xs : Nat → Int32) : lk (T_L L xs) 697 = o_aload 0 698 := rfl
set_option maxRecDepth 100000 in
theorem kL_698 (L : Nat) (xs : Nat → Int32) : lk (T_L L xs) 698 = o_iload 3 699 := rfl
set_option maxRecDepth 100000 in
theorem kL_699 (L : Nat) (xs : Nat → Int32) : lk (T_L L xs) 699 = o_const 3 700 := rfl
set_option maxRecDepth 100000 in
theorem kL_700 (L : Nat) (xs : Nat → Int32) : lk (T_L L xs) 700 = o_bin (fun x y => x + y) 701 := rfl
set_option maxRecDepth 100000 in
theorem kL_701 (L : Nat) (xs : Nat → Int32) : lk (T_L L xs) 701 = o_xld L xs 702 := rfl
set_option maxRecDepth 100000 in
theorem kL_702 (L : Nat) (xs : Nat → Int32) : lk (T_L L xs) 702 = o_callV 4 S_X4_slips 3 705 := rfl
set_option maxRecDepth 100000 in
theorem kL_705 (L : Nat) (xs : Nat → Int32) : lk (T_L L xs) 705 = o_aload 2 706 := rfl
set_option maxRecDepth 100000 in
theorem kL_706 (L : Nat) (xs : Nat → Int32) : lk (T_L L xs) 706 = o_aload 0 707 := rfl
set_option maxRecDepth 100000 in
theorem kL_707 (L : Nat) (xs : Nat → Int32) : lk (T_L L xs) 707 = o_iload 3 708 := rfl
set_option maxRecDepth 100000 in
theorem kL_708 (L : Nat) (xs : Nat → Int32) : lk (T_L L xs) 708 = o_const 1 709 := rfl
set_option maxRecDepth 100000 in
theorem kL_709 (L : Nat) (xs : Nat → Int32) : lk (T_L L xs) 709 = o_bin (fun x y => x + y) 710 := rfl
set_option maxRecDepth 100000 in
theorem kL_710 (L : Nat) (xs : Nat → Int32) : lk (T_L L xs) 710 = o_xld L xs 711 := rfl
set_option maxRecDepth 100000 in
theorem kL_711 (L : Nat) (xs : Nat → Int32) : lk (T_L L xs) 711 = o_aload 0 712 := rfl
set_option maxRecDepth 100000 in
theorem kL_712 (L : Nat) (xs : Nat → Int32) : lk (T_L L xs) 712 = o_iload 3 713 := rfl
set_option maxRecDepth 100000 in
theorem kL_713 (L : Nat) (xs : Nat → Int32) : lk (T_L L xs) 713 = o_const 2 714 := rfl
set_option maxRecDepth 100000 in
theorem kL_714 (L : Nat) (xs : Nat → Int32) : lk (T_L L xs) 714 = o_bin (fun x y => x + y) 715 := rfl
set_option maxRecDepth 100000 in
theorem kL_715 (L : Nat) (xs : Nat → Int32) : lk (T_L L xs) 715 = o_xld L xs 716 := rfl
set_option maxRecDepth 100000 in
theorem kL_716 (L : Nat) (xs : Nat → Int32) : lk (T_L L xs) 716 = o_aload 0 717 := rfl
set_option maxRecDepth 100000 in
theorem kL_717 (L : Nat) (xs : Nat → Int32) : lk (T_L L xs) 717 = o_iload 3 718 := rfl
set_option maxRecDepth 100000 in
theorem kL_718 (L : Nat) (xs : Nat → Int32) : lk (T_L L xs) 718 = o_const 3 719 := rfl
set_option maxRecDepth 100000 in
theorem kL_719 (L : Nat) (xs : Nat → Int32) : lk (T_L L xs) 719 = o_bin (fun x y => x + y) 720 := rfl
set_option maxRecDepth 100000 in
theorem kL_720 (L : Nat) (xs : Nat → Int32) : lk (T_L L xs) 720 = o_xld L xs 721 := rfl
set_option maxRecDepth 100000 in
theorem kL_721 (L : Nat) (xs : Nat → Int32) : lk (T_L L xs) 721 = o_callV 5 S_X5_slips 3 724 := rfl
set_option maxRecDepth 100000 in
theorem kL_724 (L : Nat) (xs : Nat → Int32) : lk (T_L L xs) 724 = o_icmp (fun x y => x = y) 888 727 := rfl
set_option maxRecDepth 100000 in
theorem kL_727 (L : Nat) (xs : Nat → Int32) : lk (T_L L xs) 727 = o_const 0 728 := rfl
set_option maxRecDepth 100000 in
theorem kL_728 (L : Nat) (xs : Nat → Int32) : lk (T_L L xs) 728 = o_fin := rfl
set_option maxRecDepth 100000 in
theorem kL_729 (L : Nat) (xs : Nat → Int32) : lk (T_L L xs) 729 = o_aload 1 730 := rfl
set_option maxRecDepth 100000 in
theorem kL_730 (L : Nat) (xs : Nat → Int32) : lk (T_L L xs) 730 = o_aload 0 731 := rfl
set_option maxRecDepth 100000 in
theorem kL_731 (L : Nat) (xs : Nat → Int32) : lk (T_L L xs) 731 = o_iload 3 732 := rfl
set_option maxRecDepth 100000 in
theorem kL_732 (L : Nat) (xs : Nat → Int32) : lk (T_L L xs) 732 = o_const 1 733 := rfl
set_option maxRecDepth 100000 in
theorem kL_733 (L : Nat) (xs : Nat → Int32) : lk (T_L L xs) 733 = o_bin (fun x y => x + y) 734 := rfl
set_option maxRecDepth 100000 in
theorem kL_734 (L : Nat) (xs : Nat → Int32) : lk (T_L L xs) 734 = o_xld L xs 735 := rfl
set_option maxRecDepth 100000 in
theorem kL_735 (L : Nat) (xs : Nat → Int32) : lk (T_L L xs) 735 = o_aload 0 736 := rfl
set_option maxRecDepth 100000 in
theorem kL_736 (L : Nat) (xs : Nat → Int32) : lk (T_L L xs) 736 = o_iload 3 737 := rfl
set_option maxRecDepth 100000 in
theorem kL_737 (L : Nat) (xs : Nat → Int32) : lk (T_L L xs) 737 = o_const 2 738 := rfl
set_option maxRecDepth 100000 in
theorem kL_738 (L : Nat) (xs : Nat → Int32) : lk (T_L L xs) 738 = o_bin (fun x y => x + y) 739 := rfl
set_option maxRecDepth 100000 in
theorem kL_739 (L : Nat) (xs : Nat → Int32) : lk (T_L L xs) 739 = o_xld L xs 740 := rfl
set_option maxRecDepth 100000 in
theorem kL_740 (L : Nat) (xs : Nat → Int32) : lk (T_L L xs) 740 = o_aload 0 741 := rfl
set_option maxRecDepth 100000 in
theorem kL_741 (L : Nat) (xs : Nat → Int32) : lk (T_L L xs) 741 = o_iload 3 742 := rfl
set_option maxRecDepth 100000 in
theorem kL_742 (L : Nat) (xs : Nat → Int32) : lk (T_L L xs) 742 = o_const 3 743 := rfl
set_option maxRecDepth 100000 in
theorem kL_743 (L : Nat) (xs : Nat → Int32) : lk (T_L L xs) 743 = o_bin (fun x y => x + y) 744 := rfl
set_option maxRecDepth 100000 in
theorem kL_744 (L : Nat) (xs : Nat → Int32) : lk (T_L L xs) 744 = o_xld L xs 745 := rfl
set_option maxRecDepth 100000 in
theorem kL_745 (L : Nat) (xs : Nat → Int32) : lk (T_L L xs) 745 = o_callV 4 S_X4_odds 3 748 := rfl
set_option maxRecDepth 100000 in
theorem kL_748 (L : Nat) (xs : Nat → Int32) : lk (T_L L xs) 748 = o_aload 2 749 := rfl
set_option maxRecDepth 100000 in
theorem kL_749 (L : Nat) (xs : Nat → Int32) : lk (T_L L xs) 749 = o_aload 0 750 := rfl
set_option maxRecDepth 100000 in
theorem kL_750 (L : Nat) (xs : Nat → Int32) : lk (T_L L xs) 750 = o_iload 3 751 := rfl
set_option maxRecDepth 100000 in
theorem kL_751 (L : Nat) (xs : Nat → Int32) : lk (T_L L xs) 751 = o_const 1 752 := rfl
set_option maxRecDepth 100000 in
theorem kL_752 (L : Nat) (xs : Nat → Int32) : lk (T_L L xs) 752 = o_bin (fun x y => x + y) 753 := rfl
set_option maxRecDepth 100000 in
theorem kL_753 (L : Nat) (xs : Nat → Int32) : lk (T_L L xs) 753 = o_xld L xs 754 := rfl
set_option maxRecDepth 100000 in
theorem kL_754 (L : Nat) (xs : Nat → Int32) : lk (T_L L xs) 754 = o_aload 0 755 := rfl
set_option maxRecDepth 100000 in
theorem kL_755 (L : Nat) (xs : Nat → Int32) : lk (T_L L xs) 755 = o_iload 3 756 := rfl
set_option maxRecDepth 100000 in
theorem kL_756 (L : Nat) (xs : Nat → Int32) : lk (T_L L xs) 756 = o_const 2 757 := rfl
set_option maxRecDepth 100000 in
theorem kL_757 (L : Nat) (xs : Nat → Int32) : lk (T_L L xs) 757 = o_bin (fun x y => x + y) 758 := rfl
set_option maxRecDepth 100000 in
theorem kL_758 (L : Nat) (xs : Nat → Int32) : lk (T_L L xs) 758 = o_xld L xs 759 := rfl
set_option maxRecDepth 100000 in
theorem kL_759 (L : Nat) (xs : Nat → Int32) : lk (T_L L xs) 759 = o_aload 0 760 := rfl
set_option maxRecDepth 100000 in
theorem kL_760 (L : Nat) (xs : Nat → Int32) : lk (T_L L xs) 760 = o_iload 3 761 := rfl
set_option maxRecDepth 100000 in
theorem kL_761 (L : Nat) (xs : Nat → Int32) : lk (T_L L xs) 761 = o_const 3 762 := rfl
set_option maxRecDepth 100000 in
theorem kL_762 (L : Nat) (xs : Nat → Int32) : lk (T_L L xs) 762 = o_bin (fun x y => x + y) 763 := rfl
set_option maxRecDepth 100000 in
theorem kL_763 (L : Nat) (xs : Nat → Int32) : lk (T_L L xs) 763 = o_xld L xs 764 := rfl
set_option maxRecDepth 100000 in
theorem kL_764 (L : Nat) (xs : Nat → Int32) : lk (T_L L xs) 764 = o_callV 5 S_X5_odds 3 767 := rfl
set_option maxRecDepth 100000 in
theorem kL_767 (L : Nat) (xs : Nat → Int32) : lk (T_L L xs) 767 = o_icmp (fun x y => x = y) 888 770 := rfl
set_option maxRecDepth 100000 in
theorem kL_770 (L : Nat) (xs : Nat → Int32) : lk (T_L L xs) 770 = o_const 0 771 := rfl
set_option maxRecDepth 100000 in
theorem kL_771 (L : Nat) (xs : Nat → Int32) : lk (T_L L xs) 771 = o_fin := rfl
set_option maxRecDepth 100000 in
theorem kL_772 (L : Nat) (xs : Nat → Int32) : lk (T_L L xs) 772 = o_aload 1 773 := rfl
set_option maxRecDepth 100000 in
theorem kL_773 (L : Nat) (xs : Nat → Int32) : lk (T_L L xs) 773 = o_aload 0 774 := rfl
set_option maxRecDepth 100000 in
theorem kL_774 (L : Nat) (xs : Nat → Int32) : lk (T_L L xs) 774 = o_iload 3 775 := rfl
set_option maxRecDepth 100000 in
theorem kL_775 (L : Nat) (xs : Nat → Int32) : lk (T_L L xs) 775 = o_const 1 776 := rfl
set_option maxRecDepth 100000 in
theorem kL_776 (L : Nat) (xs : Nat → Int32) : lk (T_L L xs) 776 = o_bin (fun x y => x + y) 777 := rfl
set_option maxRecDepth 100000 in
theorem kL_777 (L : Nat) (xs : Nat → Int32) : lk (T_L L xs) 777 = o_xld L xs 778 := rfl
set_option maxRecDepth 100000 in
theorem kL_778 (L : Nat) (xs : Nat → Int32) : lk (T_L L xs) 778 = o_aload 0 779 := rfl
set_option maxRecDepth 100000 in
theorem kL_779 (L : Nat) (xs : Nat → Int32) : lk (T_L L xs) 779 = o_iload 3 780 := rfl
set_option maxRecDepth 100000 in
theorem kL_780 (L : Nat) (xs : Nat → Int32) : lk (T_L L xs) 780 = o_const 2 781 := rfl
set_option maxRecDepth 100000 in
theorem kL_781 (L : Nat) (xs : Nat → Int32) : lk (T_L L xs) 781 = o_bin (fun x y => x + y) 782 := rfl
set_option maxRecDepth 100000 in
theorem kL_782 (L : Nat) (xs : Nat → Int32) : lk (T_L L xs) 782 = o_xld L xs 783 := rfl
set_option maxRecDepth 100000 in
theorem kL_783 (L : Nat) (xs : Nat → Int32) : lk (T_L L xs) 783 = o_callV 4 S_X4_rate 2 786 := rfl
set_option maxRecDepth 100000 in
theorem kL_786 (L : Nat) (xs : Nat → Int32) : lk (T_L L xs) 786 = o_aload 2 787 := rfl
set_option maxRecDepth 100000 in
theorem kL_787 (L : Nat) (xs : Nat → Int32) : lk (T_L L xs) 787 = o_aload 0 788 := rfl
set_option maxRecDepth 100000 in
theorem kL_788 (L : Nat) (xs : Nat → Int32) : lk (T_L L xs) 788 = o_iload 3 789 := rfl
set_option maxRecDepth 100000 in
theorem kL_789 (L : Nat) (xs : Nat → Int32) : lk (T_L L xs) 789 = o_const 1 790 := rfl
set_option maxRecDepth 100000 in
theorem kL_790 (L : Nat) (xs : Nat → Int32) : lk (T_L L xs) 790 = o_bin (fun x y => x + y) 791 := rfl
set_option maxRecDepth 100000 in
theorem kL_791 (L : Nat) (xs : Nat → Int32) : lk (T_L L xs) 791 = o_xld L xs 792 := rfl
set_option maxRecDepth 100000 in
theorem kL_792 (L : Nat) (xs : Nat → Int32) : lk (T_L L xs) 792 = o_aload 0 793 := rfl
set_option maxRecDepth 100000 in
theorem kL_793 (L : Nat) (xs : Nat → Int32) : lk (T_L L xs) 793 = o_iload 3 794 := rfl
set_option maxRecDepth 100000 in
theorem kL_794 (L : Nat) (xs : Nat → Int32) : lk (T_L L xs) 794 = o_const 2 795 := rfl
set_option maxRecDepth 100000 in
theorem kL_795 (L : Nat) (xs : Nat → Int32) : lk (T_L L xs) 795 = o_bin (fun x y => x + y) 796 := rfl
set_option maxRecDepth 100000 in
theorem kL_796 (L : Nat) (xs : Nat → Int32) : lk (T_L L xs) 796 = o_xld L xs 797 := rfl
set_option maxRecDepth 100000 in
theorem kL_797 (L : Nat) (xs : Nat → Int32) : lk (T_L L xs) 797 = o_callV 5 S_X5_rate 2 800 := rfl
set_option maxRecDepth 100000 in
theorem kL_800 (L : Nat) (xs : Nat → Int32) : lk (T_L L xs) 800 = o_icmp (fun x y => x = y) 888 803 := rfl
set_option maxRecDepth 100000 in
theorem kL_803 (L : Nat) (xs : Nat → Int32) : lk (T_L L xs) 803 = o_const 0 804 := rfl
set_option maxRecDepth 100000 in
theorem kL_804 (L : Nat) (xs : Nat → Int32) : lk (T_L L xs) 804 = o_fin := rfl
set_option maxRecDepth 100000 in
theorem kL_805 (L : Nat) (xs : Nat → Int32) : lk (T_L L xs) 805 = o_aload 1 806 := rfl
set_option maxRecDepth 100000 in
theorem kL_806 (L : Nat) (xs : Nat → Int32) : lk (T_L L xs) 806 = o_aload 0 807 := rfl
set_option maxRecDepth 100000 in
theorem kL_807 (L : Nat) (xs : Nat → Int32) : lk (T_L L xs) 807 = o_iload 3 808 := rfl
set_option maxRecDepth 100000 in
theorem kL_808 (L : Nat) (xs : Nat → Int32) : lk (T_L L xs) 808 = o_const 1 809 := rfl
set_option maxRecDepth 100000 in
theorem kL_809 (L : Nat) (xs : Nat → Int32) : lk (T_L L xs) 809 = o_bin (fun x y => x + y) 810 := rfl
set_option maxRecDepth 100000 in
theorem kL_810 (L : Nat) (xs : Nat → Int32) : lk (T_L L xs) 810 = o_xld L xs 811 := rfl
set_option maxRecDepth 100000 in
theorem kL_811 (L : Nat) (xs : Nat → Int32) : lk (T_L L xs) 811 = o_callV 4 S_X4_keep 1 814 := rfl
set_option maxRecDepth 100000 in
theorem kL_814 (L : Nat) (xs : Nat → Int32) : lk (T_L L xs) 814 = o_aload 2 815 := rfl
set_option maxRecDepth 100000 in
theorem kL_815 (L : Nat) (xs : Nat → Int32) : lk (T_L L xs) 815 = o_aload 0 816 := rfl
set_option maxRecDepth 100000 in
theorem kL_816 (L : Nat) (xs : Nat → Int32) : lk (T_L L xs) 816 = o_iload 3 817 := rfl
set_option maxRecDepth 100000 in
theorem kL_817 (L : Nat) (xs : Nat → Int32) : lk (T_L L xs) 817 = o_const 1 818 := rfl
set_option maxRecDepth 100000 in
theorem kL_818 (L : Nat) (xs : Nat → Int32) : lk (T_L L xs) 818 = o_bin (fun x y => x + y) 819 := rfl
set_option maxRecDepth 100000 in
theorem kL_819 (L : Nat) (xs : Nat → Int32) : lk (T_L L xs) 819 = o_xld L xs 820 := rfl
set_option maxRecDepth 100000 in
theorem kL_820 (L : Nat) (xs : Nat → Int32) : lk (T_L L xs) 820 = o_callV 5 S_X5_keep 1 823 := rfl
set_option maxRecDepth 100000 in
theorem kL_823 (L : Nat) (xs : Nat → Int32) : lk (T_L L xs) 823 = o_icmp (fun x y => x = y) 888 826 := rfl
set_option maxRecDepth 100000 in
theorem kL_826 (L : Nat) (xs : Nat → Int32) : lk (T_L L xs) 826 = o_const 0 827 := rfl
set_option maxRecDepth 100000 in
theorem kL_827 (L : Nat) (xs : Nat → Int32) : lk (T_L L xs) 827 = o_fin := rfl
set_option maxRecDepth 100000 in
theorem kL_828 (L : Nat) (xs : Nat → Int32) : lk (T_L L xs) 828 = o_aload 1 829 := rfl
set_option maxRecDepth 100000 in
theorem kL_829 (L : Nat) (xs : Nat → Int32) : lk (T_L L xs) 829 = o_aload 0 830 := rfl
set_option maxRecDepth 100000 in
theorem kL_830 (L : Nat) (xs : Nat → Int32) : lk (T_L L xs) 830 = o_iload 3 831 := rfl
set_option maxRecDepth 100000 in
theorem kL_831 (L : Nat) (xs : Nat → Int32) : lk (T_L L xs) 831 = o_const 1 832 := rfl
set_option maxRecDepth 100000 in
theorem kL_832 (L : Nat) (xs : Nat → Int32) : lk (T_L L xs) 832 = o_bin (fun x y => x + y) 833 := rfl
set_option maxRecDepth 100000 in
theorem kL_833 (L : Nat) (xs : Nat → Int32) : lk (T_L L xs) 833 = o_xld L xs 834 := rfl
set_option maxRecDepth 100000 in
theorem kL_834 (L : Nat) (xs : Nat → Int32) : lk (T_L L xs) 834 = o_callV 4 S_X4_back 1 837 := rfl
set_option maxRecDepth 100000 in
theorem kL_837 (L : Nat) (xs : Nat → Int32) : lk (T_L L xs) 837 = o_aload 2 838 := rfl
set_option maxRecDepth 100000 in
theorem kL_838 (L : Nat) (xs : Nat → Int32) : lk (T_L L xs) 838 = o_aload 0 839 := rfl
set_option maxRecDepth 100000 in
theorem kL_839 (L : Nat) (xs : Nat → Int32) : lk (T_L L xs) 839 = o_iload 3 840 := rfl
set_option maxRecDepth 100000 in
theorem kL_840 (L : Nat) (xs : Nat → Int32) : lk (T_L L xs) 840 = o_const 1 841 := rfl
set_option maxRecDepth 100000 in
theorem kL_841 (L : Nat) (xs : Nat → Int32) : lk (T_L L xs) 841 = o_bin (fun x y => x + y) 842 := rfl
set_option maxRecDepth 100000 in
theorem kL_842 (L : Nat) (xs : Nat → Int32) : lk (T_L L xs) 842 = o_xld L xs 843 := rfl
set_option maxRecDepth 100000 in
theorem kL_843 (L : Nat) (xs : Nat → Int32) : lk (T_L L xs) 843 = o_callV 5 S_X5_back 1 846 := rfl
set_option maxRecDepth 100000 in
theorem kL_846 (L : Nat) (xs : Nat → Int32) : lk (T_L L xs) 846 = o_icmp (fun x y => x = y) 888 849 := rfl
set_option maxRecDepth 100000 in
theorem kL_849 (L : Nat) (xs : Nat → Int32) : lk (T_L L xs) 849 = o_const 0 850 := rfl
set_option maxRecDepth 100000 in
theorem kL_850 (L : Nat) (xs : Nat → Int32) : lk (T_L L xs) 850 = o_fin := rfl
set_option maxRecDepth 100000 in
theorem kL_851 (L : Nat) (xs : Nat → Int32) : lk (T_L L xs) 851 = o_aload 1 852 := rfl
set_option maxRecDepth 100000 in
theorem kL_852 (L : Nat) (xs : Nat → Int32) : lk (T_L L xs) 852 = o_aload 0 853 := rfl
set_option maxRecDepth 100000 in
theorem kL_853 (L : Nat) (xs : Nat → Int32) : lk (T_L L xs) 853 = o_iload 3 854 := rfl
set_option maxRecDepth 100000 in
theorem kL_854 (L : Nat) (xs : Nat → Int32) : lk (T_L L xs) 854 = o_const 1 855 := rfl
set_option maxRecDepth 100000 in
theorem kL_855 (L : Nat) (xs : Nat → Int32) : lk (T_L L xs) 855 = o_bin (fun x y => x + y) 856 := rfl
set_option maxRecDepth 100000 in
theorem kL_856 (L : Nat) (xs : Nat → Int32) : lk (T_L L xs) 856 = o_xld L xs 857 := rfl
set_option maxRecDepth 100000 in
theorem kL_857 (L : Nat) (xs : Nat → Int32) : lk (T_L L xs) 857 = o_callV 4 S_X4_count 1 860 := rfl
set_option maxRecDepth 100000 in
theorem kL_860 (L : Nat) (xs : Nat → Int32) : lk (T_L L xs) 860 = o_aload 2 861 := rfl
set_option maxRecDepth 100000 in
theorem kL_861 (L : Nat) (xs : Nat → Int32) : lk (T_L L xs) 861 = o_aload 0 862 := rfl
set_option maxRecDepth 100000 in
theorem kL_862 (L : Nat) (xs : Nat → Int32) : lk (T_L L xs) 862 = o_iload 3 863 := rfl
set_option maxRecDepth 100000 in
theorem kL_863 (L : Nat) (xs : Nat → Int32) : lk (T_L L xs) 863 = o_const 1 864 := rfl
set_option maxRecDepth 100000 in
theorem kL_864 (L : Nat) (xs : Nat → Int32) : lk (T_L L xs) 864 = o_bin (fun x y => x + y) 865 := rfl
set_option maxRecDepth 100000 in
theorem kL_865 (L : Nat) (xs : Nat → Int32) : lk (T_L L xs) 865 = o_xld L xs 866 := rfl
set_option maxRecDepth 100000 in
theorem kL_866 (L : Nat) (xs : Nat → Int32) : lk (T_L L xs) 866 = o_callV 5 S_X5_count 1 869 := rfl
set_option maxRecDepth 100000 in
theorem kL_869 (L : Nat) (xs : Nat → Int32) : lk (T_L L xs) 869 = o_icmp (fun x y => x = y) 888 872 := rfl
set_option maxRecDepth 100000 in
theorem kL_872 (L : Nat) (xs : Nat → Int32) : lk (T_L L xs) 872 = o_const 0 873 := rfl
set_option maxRecDepth 100000 in
theorem kL_873 (L : Nat) (xs : Nat → Int32) : lk (T_L L xs) 873 = o_fin := rfl
set_option maxRecDepth 100000 in
theorem kL_874 (L : Nat) (xs : Nat → Int32) : lk (T_L L xs) 874 = o_aload 1 875 := rfl
set_option maxRecDepth 100000 in
theorem kL_875 (L : Nat) (xs : Nat → Int32) : lk (T_L L xs) 875 = o_callV 4 S_X4_trace 0 878 := rfl
set_option maxRecDepth 100000 in
theorem kL_878 (L : Nat) (xs : Nat → Int32) : lk (T_L L xs) 878 = o_aload 2 879 := rfl
set_option maxRecDepth 100000 in
theorem kL_879 (L : Nat) (xs : Nat → Int32) : lk (T_L L xs) 879 = o_callV 5 S_X5_trace 0 882 := rfl
set_option maxRecDepth 100000 in
theorem kL_882 (L : Nat) (xs : Nat → Int32) : lk (T_L L xs) 882 = o_lcmp 883 := rfl
set_option maxRecDepth 100000 in
theorem kL_883 (L : Nat) (xs : Nat → Int32) : lk (T_L L xs) 883 = o_if (fun x => x = 0) 888 886 := rfl
set_option maxRecDepth 100000 in
theorem kL_886 (L : Nat) (xs : Nat → Int32) : lk (T_L L xs) 886 = o_const 0 887 := rfl
set_option maxRecDepth 100000 in
theorem kL_887 (L : Nat) (xs : Nat → Int32) : lk (T_L L xs) 887 = o_fin := rfl
set_option maxRecDepth 100000 in
theorem kL_888 (L : Nat) (xs : Nat → Int32) : lk (T_L L xs) 888 = o_iinc 3 4 891 := rfl
set_option maxRecDepth 100000 in
theorem kL_891 (L : Nat) (xs : Nat → Int32) : lk (T_L L xs) 891 = o_goto 18 := rfl
set_option maxRecDepth 100000 in
theorem kL_894 (L : Nat) (xs : Nat → Int32) : lk (T_L L xs) 894 = o_const 1 895 := rfl
set_option maxRecDepth 100000 in
theorem kL_895 (L : Nat) (xs : Nat → Int32) : lk (T_L L xs) 895 = o_fin := rfl
