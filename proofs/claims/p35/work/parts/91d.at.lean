set_option maxRecDepth 20000 in
theorem ja_law_0 : jv_at jm_law.2.2.2.2.2.2 0 = some (.new 7, 3, 11, 0, 102, 0, 0) := rfl
set_option maxRecDepth 20000 in
theorem ja_law_3 : jv_at jm_law.2.2.2.2.2.2 3 = some (.dup, 1, 0, 0, 0, 0, 0) := rfl
set_option maxRecDepth 20000 in
theorem ja_law_4 : jv_at jm_law.2.2.2.2.2.2 4 = some (.invokespecial 9, 3, 0, 2, 104, 11, 0) := rfl
set_option maxRecDepth 20000 in
theorem ja_law_7 : jv_at jm_law.2.2.2.2.2.2 7 = some (.astore_n 1, 1, 0, 0, 0, 0, 0) := rfl
set_option maxRecDepth 20000 in
theorem ja_law_8 : jv_at jm_law.2.2.2.2.2.2 8 = some (.new 10, 3, 12, 0, 936, 0, 0) := rfl
set_option maxRecDepth 20000 in
theorem ja_law_11 : jv_at jm_law.2.2.2.2.2.2 11 = some (.dup, 1, 0, 0, 0, 0, 0) := rfl
set_option maxRecDepth 20000 in
theorem ja_law_12 : jv_at jm_law.2.2.2.2.2.2 12 = some (.invokespecial 12, 3, 132, 2, 938, 12, 0) := rfl
set_option maxRecDepth 20000 in
theorem ja_law_15 : jv_at jm_law.2.2.2.2.2.2 15 = some (.astore_n 2, 1, 0, 0, 0, 0, 0) := rfl
set_option maxRecDepth 20000 in
theorem ja_law_16 : jv_at jm_law.2.2.2.2.2.2 16 = some (.iconst 0, 1, 0, 0, 0, 0, 0) := rfl
set_option maxRecDepth 20000 in
theorem ja_law_17 : jv_at jm_law.2.2.2.2.2.2 17 = some (.istore_n 3, 1, 0, 0, 0, 0, 0) := rfl
set_option maxRecDepth 20000 in
theorem ja_law_18 : jv_at jm_law.2.2.2.2.2.2 18 = some (.iload_n 3, 1, 0, 0, 0, 0, 0) := rfl
set_option maxRecDepth 20000 in
theorem ja_law_19 : jv_at jm_law.2.2.2.2.2.2 19 = some (.aload_n 0, 1, 0, 0, 0, 0, 0) := rfl
set_option maxRecDepth 20000 in
theorem ja_law_20 : jv_at jm_law.2.2.2.2.2.2 20 = some (.arraylength, 1, 0, 0, 0, 0, 0) := rfl
set_option maxRecDepth 20000 in
theorem ja_law_21 : jv_at jm_law.2.2.2.2.2.2 21 = some (.bipush 7, 2, 0, 0, 0, 0, 7) := rfl
set_option maxRecDepth 20000 in
theorem ja_law_23 : jv_at jm_law.2.2.2.2.2.2 23 = some (.isub, 1, 0, 0, 0, 0, 0) := rfl
set_option maxRecDepth 20000 in
theorem ja_law_24 : jv_at jm_law.2.2.2.2.2.2 24 = some (.if_icmp .gt 1340, 3, 1364, 0, 0, 0, 0) := rfl
set_option maxRecDepth 20000 in
theorem ja_law_27 : jv_at jm_law.2.2.2.2.2.2 27 = some (.aload_n 0, 1, 0, 0, 0, 0, 0) := rfl
set_option maxRecDepth 20000 in
theorem ja_law_28 : jv_at jm_law.2.2.2.2.2.2 28 = some (.iload_n 3, 1, 0, 0, 0, 0, 0) := rfl
set_option maxRecDepth 20000 in
theorem ja_law_29 : jv_at jm_law.2.2.2.2.2.2 29 = some (.iaload, 1, 0, 0, 0, 0, 0) := rfl
set_option maxRecDepth 20000 in
theorem ja_law_30 : jv_at jm_law.2.2.2.2.2.2 30 = some (.bipush 63, 2, 0, 0, 0, 0, 63) := rfl
set_option maxRecDepth 20000 in
theorem ja_law_32 : jv_at jm_law.2.2.2.2.2.2 32 = some (.iand, 1, 0, 0, 0, 0, 0) := rfl
set_option maxRecDepth 20000 in
theorem ja_law_33 : jv_at jm_law.2.2.2.2.2.2 33 = some (.tableswitch 1325 0 35 #[159, 182, 225, 274, 307, 330, 363, 396, 409, 442, 475, 508, 541, 564, 597, 610, 673, 686, 761, 814, 867, 880, 903, 926, 959, 972, 985, 1028, 1061, 1084, 1117, 1160, 1183, 1216, 1259, 1292], 159, 0, 0, 0, 0, 0) := rfl
set_option maxRecDepth 20000 in
theorem ja_law_192 : jv_at jm_law.2.2.2.2.2.2 192 = some (.aload_n 1, 1, 0, 0, 0, 0, 0) := rfl
set_option maxRecDepth 20000 in
theorem ja_law_193 : jv_at jm_law.2.2.2.2.2.2 193 = some (.aload_n 0, 1, 0, 0, 0, 0, 0) := rfl
set_option maxRecDepth 20000 in
theorem ja_law_194 : jv_at jm_law.2.2.2.2.2.2 194 = some (.iload_n 3, 1, 0, 0, 0, 0, 0) := rfl
set_option maxRecDepth 20000 in
theorem ja_law_195 : jv_at jm_law.2.2.2.2.2.2 195 = some (.iconst 1, 1, 0, 0, 0, 0, 1) := rfl
set_option maxRecDepth 20000 in
theorem ja_law_196 : jv_at jm_law.2.2.2.2.2.2 196 = some (.iadd, 1, 0, 0, 0, 0, 0) := rfl
set_option maxRecDepth 20000 in
theorem ja_law_197 : jv_at jm_law.2.2.2.2.2.2 197 = some (.iaload, 1, 0, 0, 0, 0, 0) := rfl
set_option maxRecDepth 20000 in
theorem ja_law_198 : jv_at jm_law.2.2.2.2.2.2 198 = some (.invokevirtual 13, 3, 39, 0, 559, 11, 1) := rfl
set_option maxRecDepth 20000 in
theorem ja_law_201 : jv_at jm_law.2.2.2.2.2.2 201 = some (.pop, 1, 0, 0, 0, 0, 0) := rfl
set_option maxRecDepth 20000 in
theorem ja_law_202 : jv_at jm_law.2.2.2.2.2.2 202 = some (.aload_n 2, 1, 0, 0, 0, 0, 0) := rfl
set_option maxRecDepth 20000 in
theorem ja_law_203 : jv_at jm_law.2.2.2.2.2.2 203 = some (.aload_n 0, 1, 0, 0, 0, 0, 0) := rfl
set_option maxRecDepth 20000 in
theorem ja_law_204 : jv_at jm_law.2.2.2.2.2.2 204 = some (.iload_n 3, 1, 0, 0, 0, 0, 0) := rfl
set_option maxRecDepth 20000 in
theorem ja_law_205 : jv_at jm_law.2.2.2.2.2.2 205 = some (.iconst 1, 1, 0, 0, 0, 0, 1) := rfl
set_option maxRecDepth 20000 in
theorem ja_law_206 : jv_at jm_law.2.2.2.2.2.2 206 = some (.iadd, 1, 0, 0, 0, 0, 0) := rfl
set_option maxRecDepth 20000 in
theorem ja_law_207 : jv_at jm_law.2.2.2.2.2.2 207 = some (.iaload, 1, 0, 0, 0, 0, 0) := rfl
set_option maxRecDepth 20000 in
theorem ja_law_208 : jv_at jm_law.2.2.2.2.2.2 208 = some (.invokevirtual 17, 3, 151, 0, 1191, 12, 1) := rfl
set_option maxRecDepth 20000 in
theorem ja_law_211 : jv_at jm_law.2.2.2.2.2.2 211 = some (.pop, 1, 0, 0, 0, 0, 0) := rfl
set_option maxRecDepth 20000 in
theorem ja_law_212 : jv_at jm_law.2.2.2.2.2.2 212 = some (.goto 1146, 3, 1358, 0, 0, 0, 0) := rfl
set_option maxRecDepth 20000 in
theorem ja_law_215 : jv_at jm_law.2.2.2.2.2.2 215 = some (.aload_n 1, 1, 0, 0, 0, 0, 0) := rfl
set_option maxRecDepth 20000 in
theorem ja_law_216 : jv_at jm_law.2.2.2.2.2.2 216 = some (.aload_n 0, 1, 0, 0, 0, 0, 0) := rfl
set_option maxRecDepth 20000 in
theorem ja_law_217 : jv_at jm_law.2.2.2.2.2.2 217 = some (.iload_n 3, 1, 0, 0, 0, 0, 0) := rfl
set_option maxRecDepth 20000 in
theorem ja_law_218 : jv_at jm_law.2.2.2.2.2.2 218 = some (.iconst 1, 1, 0, 0, 0, 0, 1) := rfl
set_option maxRecDepth 20000 in
theorem ja_law_219 : jv_at jm_law.2.2.2.2.2.2 219 = some (.iadd, 1, 0, 0, 0, 0, 0) := rfl
set_option maxRecDepth 20000 in
theorem ja_law_220 : jv_at jm_law.2.2.2.2.2.2 220 = some (.iaload, 1, 0, 0, 0, 0, 0) := rfl
set_option maxRecDepth 20000 in
theorem ja_law_221 : jv_at jm_law.2.2.2.2.2.2 221 = some (.aload_n 0, 1, 0, 0, 0, 0, 0) := rfl
set_option maxRecDepth 20000 in
theorem ja_law_222 : jv_at jm_law.2.2.2.2.2.2 222 = some (.iload_n 3, 1, 0, 0, 0, 0, 0) := rfl
set_option maxRecDepth 20000 in
theorem ja_law_223 : jv_at jm_law.2.2.2.2.2.2 223 = some (.iconst 2, 1, 0, 0, 0, 0, 2) := rfl
set_option maxRecDepth 20000 in
theorem ja_law_224 : jv_at jm_law.2.2.2.2.2.2 224 = some (.iadd, 1, 0, 0, 0, 0, 0) := rfl
set_option maxRecDepth 20000 in
theorem ja_law_225 : jv_at jm_law.2.2.2.2.2.2 225 = some (.iaload, 1, 0, 0, 0, 0, 0) := rfl
set_option maxRecDepth 20000 in
theorem ja_law_226 : jv_at jm_law.2.2.2.2.2.2 226 = some (.aload_n 0, 1, 0, 0, 0, 0, 0) := rfl
set_option maxRecDepth 20000 in
theorem ja_law_227 : jv_at jm_law.2.2.2.2.2.2 227 = some (.iload_n 3, 1, 0, 0, 0, 0, 0) := rfl
set_option maxRecDepth 20000 in
theorem ja_law_228 : jv_at jm_law.2.2.2.2.2.2 228 = some (.iconst 3, 1, 0, 0, 0, 0, 3) := rfl
set_option maxRecDepth 20000 in
theorem ja_law_229 : jv_at jm_law.2.2.2.2.2.2 229 = some (.iadd, 1, 0, 0, 0, 0, 0) := rfl
set_option maxRecDepth 20000 in
theorem ja_law_230 : jv_at jm_law.2.2.2.2.2.2 230 = some (.iaload, 1, 0, 0, 0, 0, 0) := rfl
set_option maxRecDepth 20000 in
theorem ja_law_231 : jv_at jm_law.2.2.2.2.2.2 231 = some (.invokevirtual 18, 3, 40, 0, 563, 11, 3) := rfl
set_option maxRecDepth 20000 in
theorem ja_law_234 : jv_at jm_law.2.2.2.2.2.2 234 = some (.pop, 1, 0, 0, 0, 0, 0) := rfl
set_option maxRecDepth 20000 in
theorem ja_law_235 : jv_at jm_law.2.2.2.2.2.2 235 = some (.aload_n 2, 1, 0, 0, 0, 0, 0) := rfl
set_option maxRecDepth 20000 in
theorem ja_law_236 : jv_at jm_law.2.2.2.2.2.2 236 = some (.aload_n 0, 1, 0, 0, 0, 0, 0) := rfl
set_option maxRecDepth 20000 in
theorem ja_law_237 : jv_at jm_law.2.2.2.2.2.2 237 = some (.iload_n 3, 1, 0, 0, 0, 0, 0) := rfl
set_option maxRecDepth 20000 in
theorem ja_law_238 : jv_at jm_law.2.2.2.2.2.2 238 = some (.iconst 1, 1, 0, 0, 0, 0, 1) := rfl
set_option maxRecDepth 20000 in
theorem ja_law_239 : jv_at jm_law.2.2.2.2.2.2 239 = some (.iadd, 1, 0, 0, 0, 0, 0) := rfl
set_option maxRecDepth 20000 in
theorem ja_law_240 : jv_at jm_law.2.2.2.2.2.2 240 = some (.iaload, 1, 0, 0, 0, 0, 0) := rfl
set_option maxRecDepth 20000 in
theorem ja_law_241 : jv_at jm_law.2.2.2.2.2.2 241 = some (.aload_n 0, 1, 0, 0, 0, 0, 0) := rfl
set_option maxRecDepth 20000 in
theorem ja_law_242 : jv_at jm_law.2.2.2.2.2.2 242 = some (.iload_n 3, 1, 0, 0, 0, 0, 0) := rfl
set_option maxRecDepth 20000 in
theorem ja_law_243 : jv_at jm_law.2.2.2.2.2.2 243 = some (.iconst 2, 1, 0, 0, 0, 0, 2) := rfl
set_option maxRecDepth 20000 in
theorem ja_law_244 : jv_at jm_law.2.2.2.2.2.2 244 = some (.iadd, 1, 0, 0, 0, 0, 0) := rfl
set_option maxRecDepth 20000 in
theorem ja_law_245 : jv_at jm_law.2.2.2.2.2.2 245 = some (.iaload, 1, 0, 0, 0, 0, 0) := rfl
set_option maxRecDepth 20000 in
theorem ja_law_246 : jv_at jm_law.2.2.2.2.2.2 246 = some (.aload_n 0, 1, 0, 0, 0, 0, 0) := rfl
set_option maxRecDepth 20000 in
theorem ja_law_247 : jv_at jm_law.2.2.2.2.2.2 247 = some (.iload_n 3, 1, 0, 0, 0, 0, 0) := rfl
set_option maxRecDepth 20000 in
theorem ja_law_248 : jv_at jm_law.2.2.2.2.2.2 248 = some (.iconst 3, 1, 0, 0, 0, 0, 3) := rfl
set_option maxRecDepth 20000 in
theorem ja_law_249 : jv_at jm_law.2.2.2.2.2.2 249 = some (.iadd, 1, 0, 0, 0, 0, 0) := rfl
set_option maxRecDepth 20000 in
theorem ja_law_250 : jv_at jm_law.2.2.2.2.2.2 250 = some (.iaload, 1, 0, 0, 0, 0, 0) := rfl
set_option maxRecDepth 20000 in
theorem ja_law_251 : jv_at jm_law.2.2.2.2.2.2 251 = some (.invokevirtual 22, 3, 153, 0, 1198, 12, 3) := rfl
set_option maxRecDepth 20000 in
theorem ja_law_254 : jv_at jm_law.2.2.2.2.2.2 254 = some (.pop, 1, 0, 0, 0, 0, 0) := rfl
set_option maxRecDepth 20000 in
theorem ja_law_255 : jv_at jm_law.2.2.2.2.2.2 255 = some (.goto 1103, 3, 1358, 0, 0, 0, 0) := rfl
set_option maxRecDepth 20000 in
theorem ja_law_258 : jv_at jm_law.2.2.2.2.2.2 258 = some (.aload_n 1, 1, 0, 0, 0, 0, 0) := rfl
set_option maxRecDepth 20000 in
theorem ja_law_259 : jv_at jm_law.2.2.2.2.2.2 259 = some (.aload_n 0, 1, 0, 0, 0, 0, 0) := rfl
set_option maxRecDepth 20000 in
theorem ja_law_260 : jv_at jm_law.2.2.2.2.2.2 260 = some (.iload_n 3, 1, 0, 0, 0, 0, 0) := rfl
set_option maxRecDepth 20000 in
theorem ja_law_261 : jv_at jm_law.2.2.2.2.2.2 261 = some (.iconst 1, 1, 0, 0, 0, 0, 1) := rfl
set_option maxRecDepth 20000 in
theorem ja_law_262 : jv_at jm_law.2.2.2.2.2.2 262 = some (.iadd, 1, 0, 0, 0, 0, 0) := rfl
set_option maxRecDepth 20000 in
theorem ja_law_263 : jv_at jm_law.2.2.2.2.2.2 263 = some (.iaload, 1, 0, 0, 0, 0, 0) := rfl
set_option maxRecDepth 20000 in
theorem ja_law_264 : jv_at jm_law.2.2.2.2.2.2 264 = some (.aload_n 0, 1, 0, 0, 0, 0, 0) := rfl
set_option maxRecDepth 20000 in
theorem ja_law_265 : jv_at jm_law.2.2.2.2.2.2 265 = some (.iload_n 3, 1, 0, 0, 0, 0, 0) := rfl
set_option maxRecDepth 20000 in
theorem ja_law_266 : jv_at jm_law.2.2.2.2.2.2 266 = some (.iconst 2, 1, 0, 0, 0, 0, 2) := rfl
set_option maxRecDepth 20000 in
theorem ja_law_267 : jv_at jm_law.2.2.2.2.2.2 267 = some (.iadd, 1, 0, 0, 0, 0, 0) := rfl
set_option maxRecDepth 20000 in
theorem ja_law_268 : jv_at jm_law.2.2.2.2.2.2 268 = some (.iaload, 1, 0, 0, 0, 0, 0) := rfl
set_option maxRecDepth 20000 in
theorem ja_law_269 : jv_at jm_law.2.2.2.2.2.2 269 = some (.ifCond .eq 7, 3, 276, 0, 0, 0, 0) := rfl
set_option maxRecDepth 20000 in
theorem ja_law_272 : jv_at jm_law.2.2.2.2.2.2 272 = some (.iconst 1, 1, 0, 0, 0, 0, 1) := rfl
set_option maxRecDepth 20000 in
theorem ja_law_273 : jv_at jm_law.2.2.2.2.2.2 273 = some (.goto 4, 3, 277, 0, 0, 0, 0) := rfl
set_option maxRecDepth 20000 in
theorem ja_law_276 : jv_at jm_law.2.2.2.2.2.2 276 = some (.iconst 0, 1, 0, 0, 0, 0, 0) := rfl
set_option maxRecDepth 20000 in
theorem ja_law_277 : jv_at jm_law.2.2.2.2.2.2 277 = some (.invokevirtual 23, 3, 45, 0, 582, 11, 2) := rfl
set_option maxRecDepth 20000 in
theorem ja_law_280 : jv_at jm_law.2.2.2.2.2.2 280 = some (.pop, 1, 0, 0, 0, 0, 0) := rfl
set_option maxRecDepth 20000 in
theorem ja_law_281 : jv_at jm_law.2.2.2.2.2.2 281 = some (.aload_n 2, 1, 0, 0, 0, 0, 0) := rfl
set_option maxRecDepth 20000 in
theorem ja_law_282 : jv_at jm_law.2.2.2.2.2.2 282 = some (.aload_n 0, 1, 0, 0, 0, 0, 0) := rfl
set_option maxRecDepth 20000 in
theorem ja_law_283 : jv_at jm_law.2.2.2.2.2.2 283 = some (.iload_n 3, 1, 0, 0, 0, 0, 0) := rfl
set_option maxRecDepth 20000 in
theorem ja_law_284 : jv_at jm_law.2.2.2.2.2.2 284 = some (.iconst 1, 1, 0, 0, 0, 0, 1) := rfl
set_option maxRecDepth 20000 in
theorem ja_law_285 : jv_at jm_law.2.2.2.2.2.2 285 = some (.iadd, 1, 0, 0, 0, 0, 0) := rfl
set_option maxRecDepth 20000 in
theorem ja_law_286 : jv_at jm_law.2.2.2.2.2.2 286 = some (.iaload, 1, 0, 0, 0, 0, 0) := rfl
set_option maxRecDepth 20000 in
theorem ja_law_287 : jv_at jm_law.2.2.2.2.2.2 287 = some (.aload_n 0, 1, 0, 0, 0, 0, 0) := rfl
set_option maxRecDepth 20000 in
theorem ja_law_288 : jv_at jm_law.2.2.2.2.2.2 288 = some (.iload_n 3, 1, 0, 0, 0, 0, 0) := rfl
set_option maxRecDepth 20000 in
theorem ja_law_289 : jv_at jm_law.2.2.2.2.2.2 289 = some (.iconst 2, 1, 0, 0, 0, 0, 2) := rfl
set_option maxRecDepth 20000 in
theorem ja_law_290 : jv_at jm_law.2.2.2.2.2.2 290 = some (.iadd, 1, 0, 0, 0, 0, 0) := rfl
set_option maxRecDepth 20000 in
theorem ja_law_291 : jv_at jm_law.2.2.2.2.2.2 291 = some (.iaload, 1, 0, 0, 0, 0, 0) := rfl
set_option maxRecDepth 20000 in
theorem ja_law_292 : jv_at jm_law.2.2.2.2.2.2 292 = some (.ifCond .eq 7, 3, 299, 0, 0, 0, 0) := rfl
set_option maxRecDepth 20000 in
theorem ja_law_295 : jv_at jm_law.2.2.2.2.2.2 295 = some (.iconst 1, 1, 0, 0, 0, 0, 1) := rfl
set_option maxRecDepth 20000 in
theorem ja_law_296 : jv_at jm_law.2.2.2.2.2.2 296 = some (.goto 4, 3, 300, 0, 0, 0, 0) := rfl
set_option maxRecDepth 20000 in
theorem ja_law_299 : jv_at jm_law.2.2.2.2.2.2 299 = some (.iconst 0, 1, 0, 0, 0, 0, 0) := rfl
set_option maxRecDepth 20000 in
theorem ja_law_300 : jv_at jm_law.2.2.2.2.2.2 300 = some (.invokevirtual 27, 3, 156, 0, 1209, 12, 2) := rfl
set_option maxRecDepth 20000 in
theorem ja_law_303 : jv_at jm_law.2.2.2.2.2.2 303 = some (.pop, 1, 0, 0, 0, 0, 0) := rfl
set_option maxRecDepth 20000 in
theorem ja_law_304 : jv_at jm_law.2.2.2.2.2.2 304 = some (.goto 1054, 3, 1358, 0, 0, 0, 0) := rfl
set_option maxRecDepth 20000 in
theorem ja_law_307 : jv_at jm_law.2.2.2.2.2.2 307 = some (.aload_n 1, 1, 0, 0, 0, 0, 0) := rfl
set_option maxRecDepth 20000 in
theorem ja_law_308 : jv_at jm_law.2.2.2.2.2.2 308 = some (.aload_n 0, 1, 0, 0, 0, 0, 0) := rfl
set_option maxRecDepth 20000 in
theorem ja_law_309 : jv_at jm_law.2.2.2.2.2.2 309 = some (.iload_n 3, 1, 0, 0, 0, 0, 0) := rfl
set_option maxRecDepth 20000 in
theorem ja_law_310 : jv_at jm_law.2.2.2.2.2.2 310 = some (.iconst 1, 1, 0, 0, 0, 0, 1) := rfl
set_option maxRecDepth 20000 in
theorem ja_law_311 : jv_at jm_law.2.2.2.2.2.2 311 = some (.iadd, 1, 0, 0, 0, 0, 0) := rfl
set_option maxRecDepth 20000 in
theorem ja_law_312 : jv_at jm_law.2.2.2.2.2.2 312 = some (.iaload, 1, 0, 0, 0, 0, 0) := rfl
set_option maxRecDepth 20000 in
theorem ja_law_313 : jv_at jm_law.2.2.2.2.2.2 313 = some (.aload_n 0, 1, 0, 0, 0, 0, 0) := rfl
set_option maxRecDepth 20000 in
theorem ja_law_314 : jv_at jm_law.2.2.2.2.2.2 314 = some (.iload_n 3, 1, 0, 0, 0, 0, 0) := rfl
set_option maxRecDepth 20000 in
theorem ja_law_315 : jv_at jm_law.2.2.2.2.2.2 315 = some (.iconst 2, 1, 0, 0, 0, 0, 2) := rfl
set_option maxRecDepth 20000 in
theorem ja_law_316 : jv_at jm_law.2.2.2.2.2.2 316 = some (.iadd, 1, 0, 0, 0, 0, 0) := rfl
set_option maxRecDepth 20000 in
theorem ja_law_317 : jv_at jm_law.2.2.2.2.2.2 317 = some (.iaload, 1, 0, 0, 0, 0, 0) := rfl
set_option maxRecDepth 20000 in
theorem ja_law_318 : jv_at jm_law.2.2.2.2.2.2 318 = some (.invokevirtual 28, 3, 46, 0, 586, 11, 2) := rfl
set_option maxRecDepth 20000 in
theorem ja_law_321 : jv_at jm_law.2.2.2.2.2.2 321 = some (.pop, 1, 0, 0, 0, 0, 0) := rfl
set_option maxRecDepth 20000 in
theorem ja_law_322 : jv_at jm_law.2.2.2.2.2.2 322 = some (.aload_n 2, 1, 0, 0, 0, 0, 0) := rfl
set_option maxRecDepth 20000 in
theorem ja_law_323 : jv_at jm_law.2.2.2.2.2.2 323 = some (.aload_n 0, 1, 0, 0, 0, 0, 0) := rfl
set_option maxRecDepth 20000 in
theorem ja_law_324 : jv_at jm_law.2.2.2.2.2.2 324 = some (.iload_n 3, 1, 0, 0, 0, 0, 0) := rfl
set_option maxRecDepth 20000 in
theorem ja_law_325 : jv_at jm_law.2.2.2.2.2.2 325 = some (.iconst 1, 1, 0, 0, 0, 0, 1) := rfl
set_option maxRecDepth 20000 in
theorem ja_law_326 : jv_at jm_law.2.2.2.2.2.2 326 = some (.iadd, 1, 0, 0, 0, 0, 0) := rfl
set_option maxRecDepth 20000 in
theorem ja_law_327 : jv_at jm_law.2.2.2.2.2.2 327 = some (.iaload, 1, 0, 0, 0, 0, 0) := rfl
set_option maxRecDepth 20000 in
theorem ja_law_328 : jv_at jm_law.2.2.2.2.2.2 328 = some (.aload_n 0, 1, 0, 0, 0, 0, 0) := rfl
set_option maxRecDepth 20000 in
theorem ja_law_329 : jv_at jm_law.2.2.2.2.2.2 329 = some (.iload_n 3, 1, 0, 0, 0, 0, 0) := rfl
set_option maxRecDepth 20000 in
theorem ja_law_330 : jv_at jm_law.2.2.2.2.2.2 330 = some (.iconst 2, 1, 0, 0, 0, 0, 2) := rfl
set_option maxRecDepth 20000 in
theorem ja_law_331 : jv_at jm_law.2.2.2.2.2.2 331 = some (.iadd, 1, 0, 0, 0, 0, 0) := rfl
set_option maxRecDepth 20000 in
theorem ja_law_332 : jv_at jm_law.2.2.2.2.2.2 332 = some (.iaload, 1, 0, 0, 0, 0, 0) := rfl
set_option maxRecDepth 20000 in
theorem ja_law_333 : jv_at jm_law.2.2.2.2.2.2 333 = some (.invokevirtual 32, 3, 157, 0, 1213, 12, 2) := rfl
set_option maxRecDepth 20000 in
theorem ja_law_336 : jv_at jm_law.2.2.2.2.2.2 336 = some (.pop, 1, 0, 0, 0, 0, 0) := rfl
set_option maxRecDepth 20000 in
theorem ja_law_337 : jv_at jm_law.2.2.2.2.2.2 337 = some (.goto 1021, 3, 1358, 0, 0, 0, 0) := rfl
set_option maxRecDepth 20000 in
theorem ja_law_340 : jv_at jm_law.2.2.2.2.2.2 340 = some (.aload_n 1, 1, 0, 0, 0, 0, 0) := rfl
set_option maxRecDepth 20000 in
theorem ja_law_341 : jv_at jm_law.2.2.2.2.2.2 341 = some (.aload_n 0, 1, 0, 0, 0, 0, 0) := rfl
set_option maxRecDepth 20000 in
theorem ja_law_342 : jv_at jm_law.2.2.2.2.2.2 342 = some (.iload_n 3, 1, 0, 0, 0, 0, 0) := rfl
set_option maxRecDepth 20000 in
theorem ja_law_343 : jv_at jm_law.2.2.2.2.2.2 343 = some (.iconst 1, 1, 0, 0, 0, 0, 1) := rfl
set_option maxRecDepth 20000 in
theorem ja_law_344 : jv_at jm_law.2.2.2.2.2.2 344 = some (.iadd, 1, 0, 0, 0, 0, 0) := rfl
set_option maxRecDepth 20000 in
theorem ja_law_345 : jv_at jm_law.2.2.2.2.2.2 345 = some (.iaload, 1, 0, 0, 0, 0, 0) := rfl
set_option maxRecDepth 20000 in
theorem ja_law_346 : jv_at jm_law.2.2.2.2.2.2 346 = some (.invokevirtual 33, 3, 47, 0, 590, 11, 1) := rfl
set_option maxRecDepth 20000 in
theorem ja_law_349 : jv_at jm_law.2.2.2.2.2.2 349 = some (.pop, 1, 0, 0, 0, 0, 0) := rfl
set_option maxRecDepth 20000 in
theorem ja_law_350 : jv_at jm_law.2.2.2.2.2.2 350 = some (.aload_n 2, 1, 0, 0, 0, 0, 0) := rfl
set_option maxRecDepth 20000 in
theorem ja_law_351 : jv_at jm_law.2.2.2.2.2.2 351 = some (.aload_n 0, 1, 0, 0, 0, 0, 0) := rfl
set_option maxRecDepth 20000 in
theorem ja_law_352 : jv_at jm_law.2.2.2.2.2.2 352 = some (.iload_n 3, 1, 0, 0, 0, 0, 0) := rfl
set_option maxRecDepth 20000 in
theorem ja_law_353 : jv_at jm_law.2.2.2.2.2.2 353 = some (.iconst 1, 1, 0, 0, 0, 0, 1) := rfl
set_option maxRecDepth 20000 in
theorem ja_law_354 : jv_at jm_law.2.2.2.2.2.2 354 = some (.iadd, 1, 0, 0, 0, 0, 0) := rfl
set_option maxRecDepth 20000 in
theorem ja_law_355 : jv_at jm_law.2.2.2.2.2.2 355 = some (.iaload, 1, 0, 0, 0, 0, 0) := rfl
set_option maxRecDepth 20000 in
theorem ja_law_356 : jv_at jm_law.2.2.2.2.2.2 356 = some (.invokevirtual 36, 3, 158, 0, 1217, 12, 1) := rfl
set_option maxRecDepth 20000 in
theorem ja_law_359 : jv_at jm_law.2.2.2.2.2.2 359 = some (.pop, 1, 0, 0, 0, 0, 0) := rfl
set_option maxRecDepth 20000 in
theorem ja_law_360 : jv_at jm_law.2.2.2.2.2.2 360 = some (.goto 998, 3, 1358, 0, 0, 0, 0) := rfl
set_option maxRecDepth 20000 in
theorem ja_law_363 : jv_at jm_law.2.2.2.2.2.2 363 = some (.aload_n 1, 1, 0, 0, 0, 0, 0) := rfl
set_option maxRecDepth 20000 in
theorem ja_law_364 : jv_at jm_law.2.2.2.2.2.2 364 = some (.aload_n 0, 1, 0, 0, 0, 0, 0) := rfl
set_option maxRecDepth 20000 in
theorem ja_law_365 : jv_at jm_law.2.2.2.2.2.2 365 = some (.iload_n 3, 1, 0, 0, 0, 0, 0) := rfl
set_option maxRecDepth 20000 in
theorem ja_law_366 : jv_at jm_law.2.2.2.2.2.2 366 = some (.iconst 1, 1, 0, 0, 0, 0, 1) := rfl
set_option maxRecDepth 20000 in
theorem ja_law_367 : jv_at jm_law.2.2.2.2.2.2 367 = some (.iadd, 1, 0, 0, 0, 0, 0) := rfl
set_option maxRecDepth 20000 in
theorem ja_law_368 : jv_at jm_law.2.2.2.2.2.2 368 = some (.iaload, 1, 0, 0, 0, 0, 0) := rfl
set_option maxRecDepth 20000 in
theorem ja_law_369 : jv_at jm_law.2.2.2.2.2.2 369 = some (.aload_n 0, 1, 0, 0, 0, 0, 0) := rfl
set_option maxRecDepth 20000 in
theorem ja_law_370 : jv_at jm_law.2.2.2.2.2.2 370 = some (.iload_n 3, 1, 0, 0, 0, 0, 0) := rfl
set_option maxRecDepth 20000 in
theorem ja_law_371 : jv_at jm_law.2.2.2.2.2.2 371 = some (.iconst 2, 1, 0, 0, 0, 0, 2) := rfl
set_option maxRecDepth 20000 in
theorem ja_law_372 : jv_at jm_law.2.2.2.2.2.2 372 = some (.iadd, 1, 0, 0, 0, 0, 0) := rfl
set_option maxRecDepth 20000 in
theorem ja_law_373 : jv_at jm_law.2.2.2.2.2.2 373 = some (.iaload, 1, 0, 0, 0, 0, 0) := rfl
set_option maxRecDepth 20000 in
theorem ja_law_374 : jv_at jm_law.2.2.2.2.2.2 374 = some (.invokevirtual 37, 3, 48, 0, 594, 11, 2) := rfl
set_option maxRecDepth 20000 in
theorem ja_law_377 : jv_at jm_law.2.2.2.2.2.2 377 = some (.pop, 1, 0, 0, 0, 0, 0) := rfl
set_option maxRecDepth 20000 in
theorem ja_law_378 : jv_at jm_law.2.2.2.2.2.2 378 = some (.aload_n 2, 1, 0, 0, 0, 0, 0) := rfl
set_option maxRecDepth 20000 in
theorem ja_law_379 : jv_at jm_law.2.2.2.2.2.2 379 = some (.aload_n 0, 1, 0, 0, 0, 0, 0) := rfl
set_option maxRecDepth 20000 in
theorem ja_law_380 : jv_at jm_law.2.2.2.2.2.2 380 = some (.iload_n 3, 1, 0, 0, 0, 0, 0) := rfl
set_option maxRecDepth 20000 in
theorem ja_law_381 : jv_at jm_law.2.2.2.2.2.2 381 = some (.iconst 1, 1, 0, 0, 0, 0, 1) := rfl
set_option maxRecDepth 20000 in
theorem ja_law_382 : jv_at jm_law.2.2.2.2.2.2 382 = some (.iadd, 1, 0, 0, 0, 0, 0) := rfl
set_option maxRecDepth 20000 in
theorem ja_law_383 : jv_at jm_law.2.2.2.2.2.2 383 = some (.iaload, 1, 0, 0, 0, 0, 0) := rfl
set_option maxRecDepth 20000 in
theorem ja_law_384 : jv_at jm_law.2.2.2.2.2.2 384 = some (.aload_n 0, 1, 0, 0, 0, 0, 0) := rfl
set_option maxRecDepth 20000 in
theorem ja_law_385 : jv_at jm_law.2.2.2.2.2.2 385 = some (.iload_n 3, 1, 0, 0, 0, 0, 0) := rfl
set_option maxRecDepth 20000 in
theorem ja_law_386 : jv_at jm_law.2.2.2.2.2.2 386 = some (.iconst 2, 1, 0, 0, 0, 0, 2) := rfl
set_option maxRecDepth 20000 in
theorem ja_law_387 : jv_at jm_law.2.2.2.2.2.2 387 = some (.iadd, 1, 0, 0, 0, 0, 0) := rfl
set_option maxRecDepth 20000 in
theorem ja_law_388 : jv_at jm_law.2.2.2.2.2.2 388 = some (.iaload, 1, 0, 0, 0, 0, 0) := rfl
set_option maxRecDepth 20000 in
theorem ja_law_389 : jv_at jm_law.2.2.2.2.2.2 389 = some (.invokevirtual 40, 3, 159, 0, 1221, 12, 2) := rfl
set_option maxRecDepth 20000 in
theorem ja_law_392 : jv_at jm_law.2.2.2.2.2.2 392 = some (.pop, 1, 0, 0, 0, 0, 0) := rfl
set_option maxRecDepth 20000 in
theorem ja_law_393 : jv_at jm_law.2.2.2.2.2.2 393 = some (.goto 965, 3, 1358, 0, 0, 0, 0) := rfl
set_option maxRecDepth 20000 in
theorem ja_law_396 : jv_at jm_law.2.2.2.2.2.2 396 = some (.aload_n 1, 1, 0, 0, 0, 0, 0) := rfl
set_option maxRecDepth 20000 in
theorem ja_law_397 : jv_at jm_law.2.2.2.2.2.2 397 = some (.aload_n 0, 1, 0, 0, 0, 0, 0) := rfl
set_option maxRecDepth 20000 in
theorem ja_law_398 : jv_at jm_law.2.2.2.2.2.2 398 = some (.iload_n 3, 1, 0, 0, 0, 0, 0) := rfl
set_option maxRecDepth 20000 in
theorem ja_law_399 : jv_at jm_law.2.2.2.2.2.2 399 = some (.iconst 1, 1, 0, 0, 0, 0, 1) := rfl
set_option maxRecDepth 20000 in
theorem ja_law_400 : jv_at jm_law.2.2.2.2.2.2 400 = some (.iadd, 1, 0, 0, 0, 0, 0) := rfl
set_option maxRecDepth 20000 in
theorem ja_law_401 : jv_at jm_law.2.2.2.2.2.2 401 = some (.iaload, 1, 0, 0, 0, 0, 0) := rfl
set_option maxRecDepth 20000 in
theorem ja_law_402 : jv_at jm_law.2.2.2.2.2.2 402 = some (.aload_n 0, 1, 0, 0, 0, 0, 0) := rfl
set_option maxRecDepth 20000 in
theorem ja_law_403 : jv_at jm_law.2.2.2.2.2.2 403 = some (.iload_n 3, 1, 0, 0, 0, 0, 0) := rfl
set_option maxRecDepth 20000 in
theorem ja_law_404 : jv_at jm_law.2.2.2.2.2.2 404 = some (.iconst 2, 1, 0, 0, 0, 0, 2) := rfl
set_option maxRecDepth 20000 in
theorem ja_law_405 : jv_at jm_law.2.2.2.2.2.2 405 = some (.iadd, 1, 0, 0, 0, 0, 0) := rfl
set_option maxRecDepth 20000 in
theorem ja_law_406 : jv_at jm_law.2.2.2.2.2.2 406 = some (.iaload, 1, 0, 0, 0, 0, 0) := rfl
set_option maxRecDepth 20000 in
theorem ja_law_407 : jv_at jm_law.2.2.2.2.2.2 407 = some (.invokevirtual 41, 3, 49, 0, 598, 11, 2) := rfl
set_option maxRecDepth 20000 in
theorem ja_law_410 : jv_at jm_law.2.2.2.2.2.2 410 = some (.pop, 1, 0, 0, 0, 0, 0) := rfl
set_option maxRecDepth 20000 in
theorem ja_law_411 : jv_at jm_law.2.2.2.2.2.2 411 = some (.aload_n 2, 1, 0, 0, 0, 0, 0) := rfl
set_option maxRecDepth 20000 in
theorem ja_law_412 : jv_at jm_law.2.2.2.2.2.2 412 = some (.aload_n 0, 1, 0, 0, 0, 0, 0) := rfl
set_option maxRecDepth 20000 in
theorem ja_law_413 : jv_at jm_law.2.2.2.2.2.2 413 = some (.iload_n 3, 1, 0, 0, 0, 0, 0) := rfl
set_option maxRecDepth 20000 in
theorem ja_law_414 : jv_at jm_law.2.2.2.2.2.2 414 = some (.iconst 1, 1, 0, 0, 0, 0, 1) := rfl
set_option maxRecDepth 20000 in
theorem ja_law_415 : jv_at jm_law.2.2.2.2.2.2 415 = some (.iadd, 1, 0, 0, 0, 0, 0) := rfl
set_option maxRecDepth 20000 in
theorem ja_law_416 : jv_at jm_law.2.2.2.2.2.2 416 = some (.iaload, 1, 0, 0, 0, 0, 0) := rfl
set_option maxRecDepth 20000 in
theorem ja_law_417 : jv_at jm_law.2.2.2.2.2.2 417 = some (.aload_n 0, 1, 0, 0, 0, 0, 0) := rfl
set_option maxRecDepth 20000 in
theorem ja_law_418 : jv_at jm_law.2.2.2.2.2.2 418 = some (.iload_n 3, 1, 0, 0, 0, 0, 0) := rfl
set_option maxRecDepth 20000 in
theorem ja_law_419 : jv_at jm_law.2.2.2.2.2.2 419 = some (.iconst 2, 1, 0, 0, 0, 0, 2) := rfl
set_option maxRecDepth 20000 in
theorem ja_law_420 : jv_at jm_law.2.2.2.2.2.2 420 = some (.iadd, 1, 0, 0, 0, 0, 0) := rfl
set_option maxRecDepth 20000 in
theorem ja_law_421 : jv_at jm_law.2.2.2.2.2.2 421 = some (.iaload, 1, 0, 0, 0, 0, 0) := rfl
set_option maxRecDepth 20000 in
theorem ja_law_422 : jv_at jm_law.2.2.2.2.2.2 422 = some (.invokevirtual 44, 3, 160, 0, 1225, 12, 2) := rfl
set_option maxRecDepth 20000 in
theorem ja_law_425 : jv_at jm_law.2.2.2.2.2.2 425 = some (.pop, 1, 0, 0, 0, 0, 0) := rfl
set_option maxRecDepth 20000 in
theorem ja_law_426 : jv_at jm_law.2.2.2.2.2.2 426 = some (.goto 932, 3, 1358, 0, 0, 0, 0) := rfl
set_option maxRecDepth 20000 in
theorem ja_law_429 : jv_at jm_law.2.2.2.2.2.2 429 = some (.aload_n 1, 1, 0, 0, 0, 0, 0) := rfl
set_option maxRecDepth 20000 in
theorem ja_law_430 : jv_at jm_law.2.2.2.2.2.2 430 = some (.invokevirtual 45, 3, 50, 0, 602, 11, 0) := rfl
set_option maxRecDepth 20000 in
theorem ja_law_433 : jv_at jm_law.2.2.2.2.2.2 433 = some (.pop, 1, 0, 0, 0, 0, 0) := rfl
set_option maxRecDepth 20000 in
theorem ja_law_434 : jv_at jm_law.2.2.2.2.2.2 434 = some (.aload_n 2, 1, 0, 0, 0, 0, 0) := rfl
set_option maxRecDepth 20000 in
theorem ja_law_435 : jv_at jm_law.2.2.2.2.2.2 435 = some (.invokevirtual 49, 3, 161, 0, 1229, 12, 0) := rfl
set_option maxRecDepth 20000 in
theorem ja_law_438 : jv_at jm_law.2.2.2.2.2.2 438 = some (.pop, 1, 0, 0, 0, 0, 0) := rfl
set_option maxRecDepth 20000 in
theorem ja_law_439 : jv_at jm_law.2.2.2.2.2.2 439 = some (.goto 919, 3, 1358, 0, 0, 0, 0) := rfl
set_option maxRecDepth 20000 in
theorem ja_law_442 : jv_at jm_law.2.2.2.2.2.2 442 = some (.aload_n 1, 1, 0, 0, 0, 0, 0) := rfl
set_option maxRecDepth 20000 in
theorem ja_law_443 : jv_at jm_law.2.2.2.2.2.2 443 = some (.aload_n 0, 1, 0, 0, 0, 0, 0) := rfl
set_option maxRecDepth 20000 in
theorem ja_law_444 : jv_at jm_law.2.2.2.2.2.2 444 = some (.iload_n 3, 1, 0, 0, 0, 0, 0) := rfl
set_option maxRecDepth 20000 in
theorem ja_law_445 : jv_at jm_law.2.2.2.2.2.2 445 = some (.iconst 1, 1, 0, 0, 0, 0, 1) := rfl
set_option maxRecDepth 20000 in
theorem ja_law_446 : jv_at jm_law.2.2.2.2.2.2 446 = some (.iadd, 1, 0, 0, 0, 0, 0) := rfl
set_option maxRecDepth 20000 in
theorem ja_law_447 : jv_at jm_law.2.2.2.2.2.2 447 = some (.iaload, 1, 0, 0, 0, 0, 0) := rfl
set_option maxRecDepth 20000 in
theorem ja_law_448 : jv_at jm_law.2.2.2.2.2.2 448 = some (.aload_n 0, 1, 0, 0, 0, 0, 0) := rfl
set_option maxRecDepth 20000 in
theorem ja_law_449 : jv_at jm_law.2.2.2.2.2.2 449 = some (.iload_n 3, 1, 0, 0, 0, 0, 0) := rfl
set_option maxRecDepth 20000 in
theorem ja_law_450 : jv_at jm_law.2.2.2.2.2.2 450 = some (.iconst 2, 1, 0, 0, 0, 0, 2) := rfl
set_option maxRecDepth 20000 in
theorem ja_law_451 : jv_at jm_law.2.2.2.2.2.2 451 = some (.iadd, 1, 0, 0, 0, 0, 0) := rfl
set_option maxRecDepth 20000 in
theorem ja_law_452 : jv_at jm_law.2.2.2.2.2.2 452 = some (.iaload, 1, 0, 0, 0, 0, 0) := rfl
set_option maxRecDepth 20000 in
theorem ja_law_453 : jv_at jm_law.2.2.2.2.2.2 453 = some (.invokevirtual 50, 3, 51, 0, 606, 11, 2) := rfl
set_option maxRecDepth 20000 in
theorem ja_law_456 : jv_at jm_law.2.2.2.2.2.2 456 = some (.pop, 1, 0, 0, 0, 0, 0) := rfl
set_option maxRecDepth 20000 in
theorem ja_law_457 : jv_at jm_law.2.2.2.2.2.2 457 = some (.aload_n 2, 1, 0, 0, 0, 0, 0) := rfl
set_option maxRecDepth 20000 in
theorem ja_law_458 : jv_at jm_law.2.2.2.2.2.2 458 = some (.aload_n 0, 1, 0, 0, 0, 0, 0) := rfl
set_option maxRecDepth 20000 in
theorem ja_law_459 : jv_at jm_law.2.2.2.2.2.2 459 = some (.iload_n 3, 1, 0, 0, 0, 0, 0) := rfl
set_option maxRecDepth 20000 in
theorem ja_law_460 : jv_at jm_law.2.2.2.2.2.2 460 = some (.iconst 1, 1, 0, 0, 0, 0, 1) := rfl
set_option maxRecDepth 20000 in
theorem ja_law_461 : jv_at jm_law.2.2.2.2.2.2 461 = some (.iadd, 1, 0, 0, 0, 0, 0) := rfl
set_option maxRecDepth 20000 in
theorem ja_law_462 : jv_at jm_law.2.2.2.2.2.2 462 = some (.iaload, 1, 0, 0, 0, 0, 0) := rfl
set_option maxRecDepth 20000 in
theorem ja_law_463 : jv_at jm_law.2.2.2.2.2.2 463 = some (.aload_n 0, 1, 0, 0, 0, 0, 0) := rfl
set_option maxRecDepth 20000 in
theorem ja_law_464 : jv_at jm_law.2.2.2.2.2.2 464 = some (.iload_n 3, 1, 0, 0, 0, 0, 0) := rfl
set_option maxRecDepth 20000 in
theorem ja_law_465 : jv_at jm_law.2.2.2.2.2.2 465 = some (.iconst 2, 1, 0, 0, 0, 0, 2) := rfl
set_option maxRecDepth 20000 in
theorem ja_law_466 : jv_at jm_law.2.2.2.2.2.2 466 = some (.iadd, 1, 0, 0, 0, 0, 0) := rfl
set_option maxRecDepth 20000 in
theorem ja_law_467 : jv_at jm_law.2.2.2.2.2.2 467 = some (.iaload, 1, 0, 0, 0, 0, 0) := rfl
set_option maxRecDepth 20000 in
theorem ja_law_468 : jv_at jm_law.2.2.2.2.2.2 468 = some (.invokevirtual 53, 3, 162, 0, 1233, 12, 2) := rfl
set_option maxRecDepth 20000 in
theorem ja_law_471 : jv_at jm_law.2.2.2.2.2.2 471 = some (.pop, 1, 0, 0, 0, 0, 0) := rfl
set_option maxRecDepth 20000 in
theorem ja_law_472 : jv_at jm_law.2.2.2.2.2.2 472 = some (.goto 886, 3, 1358, 0, 0, 0, 0) := rfl
set_option maxRecDepth 20000 in
theorem ja_law_475 : jv_at jm_law.2.2.2.2.2.2 475 = some (.aload_n 1, 1, 0, 0, 0, 0, 0) := rfl
set_option maxRecDepth 20000 in
theorem ja_law_476 : jv_at jm_law.2.2.2.2.2.2 476 = some (.aload_n 0, 1, 0, 0, 0, 0, 0) := rfl
set_option maxRecDepth 20000 in
theorem ja_law_477 : jv_at jm_law.2.2.2.2.2.2 477 = some (.iload_n 3, 1, 0, 0, 0, 0, 0) := rfl
set_option maxRecDepth 20000 in
theorem ja_law_478 : jv_at jm_law.2.2.2.2.2.2 478 = some (.iconst 1, 1, 0, 0, 0, 0, 1) := rfl
set_option maxRecDepth 20000 in
theorem ja_law_479 : jv_at jm_law.2.2.2.2.2.2 479 = some (.iadd, 1, 0, 0, 0, 0, 0) := rfl
set_option maxRecDepth 20000 in
theorem ja_law_480 : jv_at jm_law.2.2.2.2.2.2 480 = some (.iaload, 1, 0, 0, 0, 0, 0) := rfl
set_option maxRecDepth 20000 in
theorem ja_law_481 : jv_at jm_law.2.2.2.2.2.2 481 = some (.aload_n 0, 1, 0, 0, 0, 0, 0) := rfl
set_option maxRecDepth 20000 in
theorem ja_law_482 : jv_at jm_law.2.2.2.2.2.2 482 = some (.iload_n 3, 1, 0, 0, 0, 0, 0) := rfl
set_option maxRecDepth 20000 in
theorem ja_law_483 : jv_at jm_law.2.2.2.2.2.2 483 = some (.iconst 2, 1, 0, 0, 0, 0, 2) := rfl
set_option maxRecDepth 20000 in
theorem ja_law_484 : jv_at jm_law.2.2.2.2.2.2 484 = some (.iadd, 1, 0, 0, 0, 0, 0) := rfl
set_option maxRecDepth 20000 in
theorem ja_law_485 : jv_at jm_law.2.2.2.2.2.2 485 = some (.iaload, 1, 0, 0, 0, 0, 0) := rfl
set_option maxRecDepth 20000 in
theorem ja_law_486 : jv_at jm_law.2.2.2.2.2.2 486 = some (.invokevirtual 54, 3, 58, 0, 634, 11, 2) := rfl
set_option maxRecDepth 20000 in
theorem ja_law_489 : jv_at jm_law.2.2.2.2.2.2 489 = some (.pop, 1, 0, 0, 0, 0, 0) := rfl
set_option maxRecDepth 20000 in
theorem ja_law_490 : jv_at jm_law.2.2.2.2.2.2 490 = some (.aload_n 2, 1, 0, 0, 0, 0, 0) := rfl
set_option maxRecDepth 20000 in
theorem ja_law_491 : jv_at jm_law.2.2.2.2.2.2 491 = some (.aload_n 0, 1, 0, 0, 0, 0, 0) := rfl
set_option maxRecDepth 20000 in
theorem ja_law_492 : jv_at jm_law.2.2.2.2.2.2 492 = some (.iload_n 3, 1, 0, 0, 0, 0, 0) := rfl
set_option maxRecDepth 20000 in
theorem ja_law_493 : jv_at jm_law.2.2.2.2.2.2 493 = some (.iconst 1, 1, 0, 0, 0, 0, 1) := rfl
set_option maxRecDepth 20000 in
theorem ja_law_494 : jv_at jm_law.2.2.2.2.2.2 494 = some (.iadd, 1, 0, 0, 0, 0, 0) := rfl
set_option maxRecDepth 20000 in
theorem ja_law_495 : jv_at jm_law.2.2.2.2.2.2 495 = some (.iaload, 1, 0, 0, 0, 0, 0) := rfl
set_option maxRecDepth 20000 in
theorem ja_law_496 : jv_at jm_law.2.2.2.2.2.2 496 = some (.aload_n 0, 1, 0, 0, 0, 0, 0) := rfl
set_option maxRecDepth 20000 in
theorem ja_law_497 : jv_at jm_law.2.2.2.2.2.2 497 = some (.iload_n 3, 1, 0, 0, 0, 0, 0) := rfl
set_option maxRecDepth 20000 in
theorem ja_law_498 : jv_at jm_law.2.2.2.2.2.2 498 = some (.iconst 2, 1, 0, 0, 0, 0, 2) := rfl
set_option maxRecDepth 20000 in
theorem ja_law_499 : jv_at jm_law.2.2.2.2.2.2 499 = some (.iadd, 1, 0, 0, 0, 0, 0) := rfl
set_option maxRecDepth 20000 in
theorem ja_law_500 : jv_at jm_law.2.2.2.2.2.2 500 = some (.iaload, 1, 0, 0, 0, 0, 0) := rfl
set_option maxRecDepth 20000 in
theorem ja_law_501 : jv_at jm_law.2.2.2.2.2.2 501 = some (.invokevirtual 57, 3, 164, 0, 1241, 12, 2) := rfl
set_option maxRecDepth 20000 in
theorem ja_law_504 : jv_at jm_law.2.2.2.2.2.2 504 = some (.pop, 1, 0, 0, 0, 0, 0) := rfl
set_option maxRecDepth 20000 in
theorem ja_law_505 : jv_at jm_law.2.2.2.2.2.2 505 = some (.goto 853, 3, 1358, 0, 0, 0, 0) := rfl
set_option maxRecDepth 20000 in
theorem ja_law_508 : jv_at jm_law.2.2.2.2.2.2 508 = some (.aload_n 1, 1, 0, 0, 0, 0, 0) := rfl
set_option maxRecDepth 20000 in
theorem ja_law_509 : jv_at jm_law.2.2.2.2.2.2 509 = some (.aload_n 0, 1, 0, 0, 0, 0, 0) := rfl
set_option maxRecDepth 20000 in
theorem ja_law_510 : jv_at jm_law.2.2.2.2.2.2 510 = some (.iload_n 3, 1, 0, 0, 0, 0, 0) := rfl
set_option maxRecDepth 20000 in
theorem ja_law_511 : jv_at jm_law.2.2.2.2.2.2 511 = some (.iconst 1, 1, 0, 0, 0, 0, 1) := rfl
set_option maxRecDepth 20000 in
theorem ja_law_512 : jv_at jm_law.2.2.2.2.2.2 512 = some (.iadd, 1, 0, 0, 0, 0, 0) := rfl
set_option maxRecDepth 20000 in
theorem ja_law_513 : jv_at jm_law.2.2.2.2.2.2 513 = some (.iaload, 1, 0, 0, 0, 0, 0) := rfl
set_option maxRecDepth 20000 in
theorem ja_law_514 : jv_at jm_law.2.2.2.2.2.2 514 = some (.aload_n 0, 1, 0, 0, 0, 0, 0) := rfl
set_option maxRecDepth 20000 in
theorem ja_law_515 : jv_at jm_law.2.2.2.2.2.2 515 = some (.iload_n 3, 1, 0, 0, 0, 0, 0) := rfl
set_option maxRecDepth 20000 in
theorem ja_law_516 : jv_at jm_law.2.2.2.2.2.2 516 = some (.iconst 2, 1, 0, 0, 0, 0, 2) := rfl
set_option maxRecDepth 20000 in
theorem ja_law_517 : jv_at jm_law.2.2.2.2.2.2 517 = some (.iadd, 1, 0, 0, 0, 0, 0) := rfl
set_option maxRecDepth 20000 in
theorem ja_law_518 : jv_at jm_law.2.2.2.2.2.2 518 = some (.iaload, 1, 0, 0, 0, 0, 0) := rfl
set_option maxRecDepth 20000 in
theorem ja_law_519 : jv_at jm_law.2.2.2.2.2.2 519 = some (.invokevirtual 58, 3, 61, 0, 648, 11, 2) := rfl
set_option maxRecDepth 20000 in
theorem ja_law_522 : jv_at jm_law.2.2.2.2.2.2 522 = some (.pop, 1, 0, 0, 0, 0, 0) := rfl
set_option maxRecDepth 20000 in
theorem ja_law_523 : jv_at jm_law.2.2.2.2.2.2 523 = some (.aload_n 2, 1, 0, 0, 0, 0, 0) := rfl
set_option maxRecDepth 20000 in
theorem ja_law_524 : jv_at jm_law.2.2.2.2.2.2 524 = some (.aload_n 0, 1, 0, 0, 0, 0, 0) := rfl
set_option maxRecDepth 20000 in
theorem ja_law_525 : jv_at jm_law.2.2.2.2.2.2 525 = some (.iload_n 3, 1, 0, 0, 0, 0, 0) := rfl
set_option maxRecDepth 20000 in
theorem ja_law_526 : jv_at jm_law.2.2.2.2.2.2 526 = some (.iconst 1, 1, 0, 0, 0, 0, 1) := rfl
set_option maxRecDepth 20000 in
theorem ja_law_527 : jv_at jm_law.2.2.2.2.2.2 527 = some (.iadd, 1, 0, 0, 0, 0, 0) := rfl
set_option maxRecDepth 20000 in
theorem ja_law_528 : jv_at jm_law.2.2.2.2.2.2 528 = some (.iaload, 1, 0, 0, 0, 0, 0) := rfl
set_option maxRecDepth 20000 in
theorem ja_law_529 : jv_at jm_law.2.2.2.2.2.2 529 = some (.aload_n 0, 1, 0, 0, 0, 0, 0) := rfl
set_option maxRecDepth 20000 in
theorem ja_law_530 : jv_at jm_law.2.2.2.2.2.2 530 = some (.iload_n 3, 1, 0, 0, 0, 0, 0) := rfl
set_option maxRecDepth 20000 in
theorem ja_law_531 : jv_at jm_law.2.2.2.2.2.2 531 = some (.iconst 2, 1, 0, 0, 0, 0, 2) := rfl
set_option maxRecDepth 20000 in
theorem ja_law_532 : jv_at jm_law.2.2.2.2.2.2 532 = some (.iadd, 1, 0, 0, 0, 0, 0) := rfl
set_option maxRecDepth 20000 in
theorem ja_law_533 : jv_at jm_law.2.2.2.2.2.2 533 = some (.iaload, 1, 0, 0, 0, 0, 0) := rfl
set_option maxRecDepth 20000 in
theorem ja_law_534 : jv_at jm_law.2.2.2.2.2.2 534 = some (.invokevirtual 61, 3, 167, 0, 1252, 12, 2) := rfl
set_option maxRecDepth 20000 in
theorem ja_law_537 : jv_at jm_law.2.2.2.2.2.2 537 = some (.pop, 1, 0, 0, 0, 0, 0) := rfl
set_option maxRecDepth 20000 in
theorem ja_law_538 : jv_at jm_law.2.2.2.2.2.2 538 = some (.goto 820, 3, 1358, 0, 0, 0, 0) := rfl
set_option maxRecDepth 20000 in
theorem ja_law_541 : jv_at jm_law.2.2.2.2.2.2 541 = some (.aload_n 1, 1, 0, 0, 0, 0, 0) := rfl
set_option maxRecDepth 20000 in
theorem ja_law_542 : jv_at jm_law.2.2.2.2.2.2 542 = some (.aload_n 0, 1, 0, 0, 0, 0, 0) := rfl
set_option maxRecDepth 20000 in
theorem ja_law_543 : jv_at jm_law.2.2.2.2.2.2 543 = some (.iload_n 3, 1, 0, 0, 0, 0, 0) := rfl
set_option maxRecDepth 20000 in
theorem ja_law_544 : jv_at jm_law.2.2.2.2.2.2 544 = some (.iconst 1, 1, 0, 0, 0, 0, 1) := rfl
set_option maxRecDepth 20000 in
theorem ja_law_545 : jv_at jm_law.2.2.2.2.2.2 545 = some (.iadd, 1, 0, 0, 0, 0, 0) := rfl
set_option maxRecDepth 20000 in
theorem ja_law_546 : jv_at jm_law.2.2.2.2.2.2 546 = some (.iaload, 1, 0, 0, 0, 0, 0) := rfl
set_option maxRecDepth 20000 in
theorem ja_law_547 : jv_at jm_law.2.2.2.2.2.2 547 = some (.aload_n 0, 1, 0, 0, 0, 0, 0) := rfl
set_option maxRecDepth 20000 in
theorem ja_law_548 : jv_at jm_law.2.2.2.2.2.2 548 = some (.iload_n 3, 1, 0, 0, 0, 0, 0) := rfl
set_option maxRecDepth 20000 in
theorem ja_law_549 : jv_at jm_law.2.2.2.2.2.2 549 = some (.iconst 2, 1, 0, 0, 0, 0, 2) := rfl
set_option maxRecDepth 20000 in
theorem ja_law_550 : jv_at jm_law.2.2.2.2.2.2 550 = some (.iadd, 1, 0, 0, 0, 0, 0) := rfl
set_option maxRecDepth 20000 in
theorem ja_law_551 : jv_at jm_law.2.2.2.2.2.2 551 = some (.iaload, 1, 0, 0, 0, 0, 0) := rfl
set_option maxRecDepth 20000 in
theorem ja_law_552 : jv_at jm_law.2.2.2.2.2.2 552 = some (.invokevirtual 62, 3, 63, 0, 656, 11, 2) := rfl
set_option maxRecDepth 20000 in
theorem ja_law_555 : jv_at jm_law.2.2.2.2.2.2 555 = some (.pop2, 1, 0, 0, 0, 0, 0) := rfl
set_option maxRecDepth 20000 in
theorem ja_law_556 : jv_at jm_law.2.2.2.2.2.2 556 = some (.aload_n 2, 1, 0, 0, 0, 0, 0) := rfl
set_option maxRecDepth 20000 in
theorem ja_law_557 : jv_at jm_law.2.2.2.2.2.2 557 = some (.aload_n 0, 1, 0, 0, 0, 0, 0) := rfl
set_option maxRecDepth 20000 in
theorem ja_law_558 : jv_at jm_law.2.2.2.2.2.2 558 = some (.iload_n 3, 1, 0, 0, 0, 0, 0) := rfl
set_option maxRecDepth 20000 in
theorem ja_law_559 : jv_at jm_law.2.2.2.2.2.2 559 = some (.iconst 1, 1, 0, 0, 0, 0, 1) := rfl
set_option maxRecDepth 20000 in
theorem ja_law_560 : jv_at jm_law.2.2.2.2.2.2 560 = some (.iadd, 1, 0, 0, 0, 0, 0) := rfl
set_option maxRecDepth 20000 in
theorem ja_law_561 : jv_at jm_law.2.2.2.2.2.2 561 = some (.iaload, 1, 0, 0, 0, 0, 0) := rfl
set_option maxRecDepth 20000 in
theorem ja_law_562 : jv_at jm_law.2.2.2.2.2.2 562 = some (.aload_n 0, 1, 0, 0, 0, 0, 0) := rfl
set_option maxRecDepth 20000 in
theorem ja_law_563 : jv_at jm_law.2.2.2.2.2.2 563 = some (.iload_n 3, 1, 0, 0, 0, 0, 0) := rfl
set_option maxRecDepth 20000 in
theorem ja_law_564 : jv_at jm_law.2.2.2.2.2.2 564 = some (.iconst 2, 1, 0, 0, 0, 0, 2) := rfl
set_option maxRecDepth 20000 in
theorem ja_law_565 : jv_at jm_law.2.2.2.2.2.2 565 = some (.iadd, 1, 0, 0, 0, 0, 0) := rfl
set_option maxRecDepth 20000 in
theorem ja_law_566 : jv_at jm_law.2.2.2.2.2.2 566 = some (.iaload, 1, 0, 0, 0, 0, 0) := rfl
set_option maxRecDepth 20000 in
theorem ja_law_567 : jv_at jm_law.2.2.2.2.2.2 567 = some (.invokevirtual 66, 3, 168, 0, 1256, 12, 2) := rfl
set_option maxRecDepth 20000 in
theorem ja_law_570 : jv_at jm_law.2.2.2.2.2.2 570 = some (.pop2, 1, 0, 0, 0, 0, 0) := rfl
set_option maxRecDepth 20000 in
theorem ja_law_571 : jv_at jm_law.2.2.2.2.2.2 571 = some (.goto 787, 3, 1358, 0, 0, 0, 0) := rfl
set_option maxRecDepth 20000 in
theorem ja_law_574 : jv_at jm_law.2.2.2.2.2.2 574 = some (.aload_n 1, 1, 0, 0, 0, 0, 0) := rfl
set_option maxRecDepth 20000 in
theorem ja_law_575 : jv_at jm_law.2.2.2.2.2.2 575 = some (.aload_n 0, 1, 0, 0, 0, 0, 0) := rfl
set_option maxRecDepth 20000 in
theorem ja_law_576 : jv_at jm_law.2.2.2.2.2.2 576 = some (.iload_n 3, 1, 0, 0, 0, 0, 0) := rfl
set_option maxRecDepth 20000 in
theorem ja_law_577 : jv_at jm_law.2.2.2.2.2.2 577 = some (.iconst 1, 1, 0, 0, 0, 0, 1) := rfl
set_option maxRecDepth 20000 in
theorem ja_law_578 : jv_at jm_law.2.2.2.2.2.2 578 = some (.iadd, 1, 0, 0, 0, 0, 0) := rfl
set_option maxRecDepth 20000 in
theorem ja_law_579 : jv_at jm_law.2.2.2.2.2.2 579 = some (.iaload, 1, 0, 0, 0, 0, 0) := rfl
set_option maxRecDepth 20000 in
theorem ja_law_580 : jv_at jm_law.2.2.2.2.2.2 580 = some (.invokevirtual 67, 3, 65, 0, 666, 11, 1) := rfl
set_option maxRecDepth 20000 in
theorem ja_law_583 : jv_at jm_law.2.2.2.2.2.2 583 = some (.pop, 1, 0, 0, 0, 0, 0) := rfl
set_option maxRecDepth 20000 in
theorem ja_law_584 : jv_at jm_law.2.2.2.2.2.2 584 = some (.aload_n 2, 1, 0, 0, 0, 0, 0) := rfl
set_option maxRecDepth 20000 in
theorem ja_law_585 : jv_at jm_law.2.2.2.2.2.2 585 = some (.aload_n 0, 1, 0, 0, 0, 0, 0) := rfl
set_option maxRecDepth 20000 in
theorem ja_law_586 : jv_at jm_law.2.2.2.2.2.2 586 = some (.iload_n 3, 1, 0, 0, 0, 0, 0) := rfl
set_option maxRecDepth 20000 in
theorem ja_law_587 : jv_at jm_law.2.2.2.2.2.2 587 = some (.iconst 1, 1, 0, 0, 0, 0, 1) := rfl
set_option maxRecDepth 20000 in
theorem ja_law_588 : jv_at jm_law.2.2.2.2.2.2 588 = some (.iadd, 1, 0, 0, 0, 0, 0) := rfl
set_option maxRecDepth 20000 in
theorem ja_law_589 : jv_at jm_law.2.2.2.2.2.2 589 = some (.iaload, 1, 0, 0, 0, 0, 0) := rfl
set_option maxRecDepth 20000 in
theorem ja_law_590 : jv_at jm_law.2.2.2.2.2.2 590 = some (.invokevirtual 70, 3, 171, 0, 1269, 12, 1) := rfl
set_option maxRecDepth 20000 in
theorem ja_law_593 : jv_at jm_law.2.2.2.2.2.2 593 = some (.pop, 1, 0, 0, 0, 0, 0) := rfl
set_option maxRecDepth 20000 in
theorem ja_law_594 : jv_at jm_law.2.2.2.2.2.2 594 = some (.goto 764, 3, 1358, 0, 0, 0, 0) := rfl
set_option maxRecDepth 20000 in
theorem ja_law_597 : jv_at jm_law.2.2.2.2.2.2 597 = some (.aload_n 1, 1, 0, 0, 0, 0, 0) := rfl
set_option maxRecDepth 20000 in
theorem ja_law_598 : jv_at jm_law.2.2.2.2.2.2 598 = some (.aload_n 0, 1, 0, 0, 0, 0, 0) := rfl
set_option maxRecDepth 20000 in
theorem ja_law_599 : jv_at jm_law.2.2.2.2.2.2 599 = some (.iload_n 3, 1, 0, 0, 0, 0, 0) := rfl
set_option maxRecDepth 20000 in
theorem ja_law_600 : jv_at jm_law.2.2.2.2.2.2 600 = some (.iconst 1, 1, 0, 0, 0, 0, 1) := rfl
set_option maxRecDepth 20000 in
theorem ja_law_601 : jv_at jm_law.2.2.2.2.2.2 601 = some (.iadd, 1, 0, 0, 0, 0, 0) := rfl
set_option maxRecDepth 20000 in
theorem ja_law_602 : jv_at jm_law.2.2.2.2.2.2 602 = some (.iaload, 1, 0, 0, 0, 0, 0) := rfl
set_option maxRecDepth 20000 in
theorem ja_law_603 : jv_at jm_law.2.2.2.2.2.2 603 = some (.aload_n 0, 1, 0, 0, 0, 0, 0) := rfl
set_option maxRecDepth 20000 in
theorem ja_law_604 : jv_at jm_law.2.2.2.2.2.2 604 = some (.iload_n 3, 1, 0, 0, 0, 0, 0) := rfl
set_option maxRecDepth 20000 in
theorem ja_law_605 : jv_at jm_law.2.2.2.2.2.2 605 = some (.iconst 2, 1, 0, 0, 0, 0, 2) := rfl
set_option maxRecDepth 20000 in
theorem ja_law_606 : jv_at jm_law.2.2.2.2.2.2 606 = some (.iadd, 1, 0, 0, 0, 0, 0) := rfl
set_option maxRecDepth 20000 in
theorem ja_law_607 : jv_at jm_law.2.2.2.2.2.2 607 = some (.iaload, 1, 0, 0, 0, 0, 0) := rfl
set_option maxRecDepth 20000 in
theorem ja_law_608 : jv_at jm_law.2.2.2.2.2.2 608 = some (.invokevirtual 71, 3, 67, 0, 674, 11, 2) := rfl
set_option maxRecDepth 20000 in
theorem ja_law_611 : jv_at jm_law.2.2.2.2.2.2 611 = some (.pop, 1, 0, 0, 0, 0, 0) := rfl
set_option maxRecDepth 20000 in
theorem ja_law_612 : jv_at jm_law.2.2.2.2.2.2 612 = some (.aload_n 2, 1, 0, 0, 0, 0, 0) := rfl
set_option maxRecDepth 20000 in
theorem ja_law_613 : jv_at jm_law.2.2.2.2.2.2 613 = some (.aload_n 0, 1, 0, 0, 0, 0, 0) := rfl
set_option maxRecDepth 20000 in
theorem ja_law_614 : jv_at jm_law.2.2.2.2.2.2 614 = some (.iload_n 3, 1, 0, 0, 0, 0, 0) := rfl
set_option maxRecDepth 20000 in
theorem ja_law_615 : jv_at jm_law.2.2.2.2.2.2 615 = some (.iconst 1, 1, 0, 0, 0, 0, 1) := rfl
set_option maxRecDepth 20000 in
theorem ja_law_616 : jv_at jm_law.2.2.2.2.2.2 616 = some (.iadd, 1, 0, 0, 0, 0, 0) := rfl
set_option maxRecDepth 20000 in
theorem ja_law_617 : jv_at jm_law.2.2.2.2.2.2 617 = some (.iaload, 1, 0, 0, 0, 0, 0) := rfl
set_option maxRecDepth 20000 in
theorem ja_law_618 : jv_at jm_law.2.2.2.2.2.2 618 = some (.aload_n 0, 1, 0, 0, 0, 0, 0) := rfl
set_option maxRecDepth 20000 in
theorem ja_law_619 : jv_at jm_law.2.2.2.2.2.2 619 = some (.iload_n 3, 1, 0, 0, 0, 0, 0) := rfl
set_option maxRecDepth 20000 in
theorem ja_law_620 : jv_at jm_law.2.2.2.2.2.2 620 = some (.iconst 2, 1, 0, 0, 0, 0, 2) := rfl
set_option maxRecDepth 20000 in
theorem ja_law_621 : jv_at jm_law.2.2.2.2.2.2 621 = some (.iadd, 1, 0, 0, 0, 0, 0) := rfl
set_option maxRecDepth 20000 in
theorem ja_law_622 : jv_at jm_law.2.2.2.2.2.2 622 = some (.iaload, 1, 0, 0, 0, 0, 0) := rfl
set_option maxRecDepth 20000 in
theorem ja_law_623 : jv_at jm_law.2.2.2.2.2.2 623 = some (.invokevirtual 74, 3, 173, 0, 1277, 12, 2) := rfl
set_option maxRecDepth 20000 in
theorem ja_law_626 : jv_at jm_law.2.2.2.2.2.2 626 = some (.pop, 1, 0, 0, 0, 0, 0) := rfl
set_option maxRecDepth 20000 in
theorem ja_law_627 : jv_at jm_law.2.2.2.2.2.2 627 = some (.goto 731, 3, 1358, 0, 0, 0, 0) := rfl
set_option maxRecDepth 20000 in
theorem ja_law_630 : jv_at jm_law.2.2.2.2.2.2 630 = some (.aload_n 1, 1, 0, 0, 0, 0, 0) := rfl
set_option maxRecDepth 20000 in
theorem ja_law_631 : jv_at jm_law.2.2.2.2.2.2 631 = some (.invokevirtual 75, 3, 68, 0, 678, 11, 0) := rfl
set_option maxRecDepth 20000 in
theorem ja_law_634 : jv_at jm_law.2.2.2.2.2.2 634 = some (.pop, 1, 0, 0, 0, 0, 0) := rfl
set_option maxRecDepth 20000 in
theorem ja_law_635 : jv_at jm_law.2.2.2.2.2.2 635 = some (.aload_n 2, 1, 0, 0, 0, 0, 0) := rfl
set_option maxRecDepth 20000 in
theorem ja_law_636 : jv_at jm_law.2.2.2.2.2.2 636 = some (.invokevirtual 78, 3, 174, 0, 1281, 12, 0) := rfl
set_option maxRecDepth 20000 in
theorem ja_law_639 : jv_at jm_law.2.2.2.2.2.2 639 = some (.pop, 1, 0, 0, 0, 0, 0) := rfl
set_option maxRecDepth 20000 in
theorem ja_law_640 : jv_at jm_law.2.2.2.2.2.2 640 = some (.goto 718, 3, 1358, 0, 0, 0, 0) := rfl
set_option maxRecDepth 20000 in
theorem ja_law_643 : jv_at jm_law.2.2.2.2.2.2 643 = some (.aload_n 1, 1, 0, 0, 0, 0, 0) := rfl
set_option maxRecDepth 20000 in
theorem ja_law_644 : jv_at jm_law.2.2.2.2.2.2 644 = some (.aload_n 0, 1, 0, 0, 0, 0, 0) := rfl
set_option maxRecDepth 20000 in
theorem ja_law_645 : jv_at jm_law.2.2.2.2.2.2 645 = some (.iload_n 3, 1, 0, 0, 0, 0, 0) := rfl
set_option maxRecDepth 20000 in
theorem ja_law_646 : jv_at jm_law.2.2.2.2.2.2 646 = some (.iconst 1, 1, 0, 0, 0, 0, 1) := rfl
set_option maxRecDepth 20000 in
theorem ja_law_647 : jv_at jm_law.2.2.2.2.2.2 647 = some (.iadd, 1, 0, 0, 0, 0, 0) := rfl
set_option maxRecDepth 20000 in
theorem ja_law_648 : jv_at jm_law.2.2.2.2.2.2 648 = some (.iaload, 1, 0, 0, 0, 0, 0) := rfl
set_option maxRecDepth 20000 in
theorem ja_law_649 : jv_at jm_law.2.2.2.2.2.2 649 = some (.aload_n 0, 1, 0, 0, 0, 0, 0) := rfl
set_option maxRecDepth 20000 in
theorem ja_law_650 : jv_at jm_law.2.2.2.2.2.2 650 = some (.iload_n 3, 1, 0, 0, 0, 0, 0) := rfl
set_option maxRecDepth 20000 in
theorem ja_law_651 : jv_at jm_law.2.2.2.2.2.2 651 = some (.iconst 2, 1, 0, 0, 0, 0, 2) := rfl
set_option maxRecDepth 20000 in
theorem ja_law_652 : jv_at jm_law.2.2.2.2.2.2 652 = some (.iadd, 1, 0, 0, 0, 0, 0) := rfl
set_option maxRecDepth 20000 in
theorem ja_law_653 : jv_at jm_law.2.2.2.2.2.2 653 = some (.iaload, 1, 0, 0, 0, 0, 0) := rfl
set_option maxRecDepth 20000 in
theorem ja_law_654 : jv_at jm_law.2.2.2.2.2.2 654 = some (.i2l, 1, 0, 0, 0, 0, 0) := rfl
set_option maxRecDepth 20000 in
theorem ja_law_655 : jv_at jm_law.2.2.2.2.2.2 655 = some (.bipush 32, 2, 0, 0, 0, 0, 32) := rfl
set_option maxRecDepth 20000 in
theorem ja_law_657 : jv_at jm_law.2.2.2.2.2.2 657 = some (.lshl, 1, 0, 0, 0, 0, 0) := rfl
set_option maxRecDepth 20000 in
theorem ja_law_658 : jv_at jm_law.2.2.2.2.2.2 658 = some (.aload_n 0, 1, 0, 0, 0, 0, 0) := rfl
set_option maxRecDepth 20000 in
theorem ja_law_659 : jv_at jm_law.2.2.2.2.2.2 659 = some (.iload_n 3, 1, 0, 0, 0, 0, 0) := rfl
set_option maxRecDepth 20000 in
theorem ja_law_660 : jv_at jm_law.2.2.2.2.2.2 660 = some (.iconst 3, 1, 0, 0, 0, 0, 3) := rfl
set_option maxRecDepth 20000 in
theorem ja_law_661 : jv_at jm_law.2.2.2.2.2.2 661 = some (.iadd, 1, 0, 0, 0, 0, 0) := rfl
set_option maxRecDepth 20000 in
theorem ja_law_662 : jv_at jm_law.2.2.2.2.2.2 662 = some (.iaload, 1, 0, 0, 0, 0, 0) := rfl
set_option maxRecDepth 20000 in
theorem ja_law_663 : jv_at jm_law.2.2.2.2.2.2 663 = some (.i2l, 1, 0, 0, 0, 0, 0) := rfl
set_option maxRecDepth 20000 in
theorem ja_law_664 : jv_at jm_law.2.2.2.2.2.2 664 = some (.ldc2_w 79, 3, 0, 0, 1465, 0, 4294967295) := rfl
set_option maxRecDepth 20000 in
theorem ja_law_667 : jv_at jm_law.2.2.2.2.2.2 667 = some (.land, 1, 0, 0, 0, 0, 0) := rfl
set_option maxRecDepth 20000 in
theorem ja_law_668 : jv_at jm_law.2.2.2.2.2.2 668 = some (.lor, 1, 0, 0, 0, 0, 0) := rfl
set_option maxRecDepth 20000 in
theorem ja_law_669 : jv_at jm_law.2.2.2.2.2.2 669 = some (.invokevirtual 81, 3, 69, 0, 682, 11, 2) := rfl
set_option maxRecDepth 20000 in
theorem ja_law_672 : jv_at jm_law.2.2.2.2.2.2 672 = some (.pop, 1, 0, 0, 0, 0, 0) := rfl
set_option maxRecDepth 20000 in
theorem ja_law_673 : jv_at jm_law.2.2.2.2.2.2 673 = some (.aload_n 2, 1, 0, 0, 0, 0, 0) := rfl
set_option maxRecDepth 20000 in
theorem ja_law_674 : jv_at jm_law.2.2.2.2.2.2 674 = some (.aload_n 0, 1, 0, 0, 0, 0, 0) := rfl
set_option maxRecDepth 20000 in
theorem ja_law_675 : jv_at jm_law.2.2.2.2.2.2 675 = some (.iload_n 3, 1, 0, 0, 0, 0, 0) := rfl
set_option maxRecDepth 20000 in
theorem ja_law_676 : jv_at jm_law.2.2.2.2.2.2 676 = some (.iconst 1, 1, 0, 0, 0, 0, 1) := rfl
set_option maxRecDepth 20000 in
theorem ja_law_677 : jv_at jm_law.2.2.2.2.2.2 677 = some (.iadd, 1, 0, 0, 0, 0, 0) := rfl
set_option maxRecDepth 20000 in
theorem ja_law_678 : jv_at jm_law.2.2.2.2.2.2 678 = some (.iaload, 1, 0, 0, 0, 0, 0) := rfl
set_option maxRecDepth 20000 in
theorem ja_law_679 : jv_at jm_law.2.2.2.2.2.2 679 = some (.aload_n 0, 1, 0, 0, 0, 0, 0) := rfl
set_option maxRecDepth 20000 in
theorem ja_law_680 : jv_at jm_law.2.2.2.2.2.2 680 = some (.iload_n 3, 1, 0, 0, 0, 0, 0) := rfl
set_option maxRecDepth 20000 in
theorem ja_law_681 : jv_at jm_law.2.2.2.2.2.2 681 = some (.iconst 2, 1, 0, 0, 0, 0, 2) := rfl
set_option maxRecDepth 20000 in
theorem ja_law_682 : jv_at jm_law.2.2.2.2.2.2 682 = some (.iadd, 1, 0, 0, 0, 0, 0) := rfl
set_option maxRecDepth 20000 in
theorem ja_law_683 : jv_at jm_law.2.2.2.2.2.2 683 = some (.iaload, 1, 0, 0, 0, 0, 0) := rfl
set_option maxRecDepth 20000 in
theorem ja_law_684 : jv_at jm_law.2.2.2.2.2.2 684 = some (.i2l, 1, 0, 0, 0, 0, 0) := rfl
set_option maxRecDepth 20000 in
theorem ja_law_685 : jv_at jm_law.2.2.2.2.2.2 685 = some (.bipush 32, 2, 0, 0, 0, 0, 32) := rfl
set_option maxRecDepth 20000 in
theorem ja_law_687 : jv_at jm_law.2.2.2.2.2.2 687 = some (.lshl, 1, 0, 0, 0, 0, 0) := rfl
set_option maxRecDepth 20000 in
theorem ja_law_688 : jv_at jm_law.2.2.2.2.2.2 688 = some (.aload_n 0, 1, 0, 0, 0, 0, 0) := rfl
set_option maxRecDepth 20000 in
theorem ja_law_689 : jv_at jm_law.2.2.2.2.2.2 689 = some (.iload_n 3, 1, 0, 0, 0, 0, 0) := rfl
set_option maxRecDepth 20000 in
theorem ja_law_690 : jv_at jm_law.2.2.2.2.2.2 690 = some (.iconst 3, 1, 0, 0, 0, 0, 3) := rfl
set_option maxRecDepth 20000 in
theorem ja_law_691 : jv_at jm_law.2.2.2.2.2.2 691 = some (.iadd, 1, 0, 0, 0, 0, 0) := rfl
set_option maxRecDepth 20000 in
theorem ja_law_692 : jv_at jm_law.2.2.2.2.2.2 692 = some (.iaload, 1, 0, 0, 0, 0, 0) := rfl
set_option maxRecDepth 20000 in
theorem ja_law_693 : jv_at jm_law.2.2.2.2.2.2 693 = some (.i2l, 1, 0, 0, 0, 0, 0) := rfl
set_option maxRecDepth 20000 in
theorem ja_law_694 : jv_at jm_law.2.2.2.2.2.2 694 = some (.ldc2_w 79, 3, 0, 0, 1465, 0, 4294967295) := rfl
set_option maxRecDepth 20000 in
theorem ja_law_697 : jv_at jm_law.2.2.2.2.2.2 697 = some (.land, 1, 0, 0, 0, 0, 0) := rfl
set_option maxRecDepth 20000 in
theorem ja_law_698 : jv_at jm_law.2.2.2.2.2.2 698 = some (.lor, 1, 0, 0, 0, 0, 0) := rfl
set_option maxRecDepth 20000 in
theorem ja_law_699 : jv_at jm_law.2.2.2.2.2.2 699 = some (.invokevirtual 85, 3, 175, 0, 1285, 12, 2) := rfl
set_option maxRecDepth 20000 in
theorem ja_law_702 : jv_at jm_law.2.2.2.2.2.2 702 = some (.pop, 1, 0, 0, 0, 0, 0) := rfl
set_option maxRecDepth 20000 in
theorem ja_law_703 : jv_at jm_law.2.2.2.2.2.2 703 = some (.goto 655, 3, 1358, 0, 0, 0, 0) := rfl
set_option maxRecDepth 20000 in
theorem ja_law_706 : jv_at jm_law.2.2.2.2.2.2 706 = some (.aload_n 1, 1, 0, 0, 0, 0, 0) := rfl
set_option maxRecDepth 20000 in
theorem ja_law_707 : jv_at jm_law.2.2.2.2.2.2 707 = some (.invokevirtual 86, 3, 70, 0, 687, 11, 0) := rfl
set_option maxRecDepth 20000 in
theorem ja_law_710 : jv_at jm_law.2.2.2.2.2.2 710 = some (.pop, 1, 0, 0, 0, 0, 0) := rfl
set_option maxRecDepth 20000 in
theorem ja_law_711 : jv_at jm_law.2.2.2.2.2.2 711 = some (.aload_n 2, 1, 0, 0, 0, 0, 0) := rfl
set_option maxRecDepth 20000 in
theorem ja_law_712 : jv_at jm_law.2.2.2.2.2.2 712 = some (.invokevirtual 89, 3, 176, 0, 1290, 12, 0) := rfl
set_option maxRecDepth 20000 in
theorem ja_law_715 : jv_at jm_law.2.2.2.2.2.2 715 = some (.pop, 1, 0, 0, 0, 0, 0) := rfl
set_option maxRecDepth 20000 in
theorem ja_law_716 : jv_at jm_law.2.2.2.2.2.2 716 = some (.goto 642, 3, 1358, 0, 0, 0, 0) := rfl
set_option maxRecDepth 20000 in
theorem ja_law_719 : jv_at jm_law.2.2.2.2.2.2 719 = some (.aload_n 1, 1, 0, 0, 0, 0, 0) := rfl
set_option maxRecDepth 20000 in
theorem ja_law_720 : jv_at jm_law.2.2.2.2.2.2 720 = some (.aload_n 0, 1, 0, 0, 0, 0, 0) := rfl
set_option maxRecDepth 20000 in
theorem ja_law_721 : jv_at jm_law.2.2.2.2.2.2 721 = some (.iload_n 3, 1, 0, 0, 0, 0, 0) := rfl
set_option maxRecDepth 20000 in
theorem ja_law_722 : jv_at jm_law.2.2.2.2.2.2 722 = some (.iconst 1, 1, 0, 0, 0, 0, 1) := rfl
set_option maxRecDepth 20000 in
theorem ja_law_723 : jv_at jm_law.2.2.2.2.2.2 723 = some (.iadd, 1, 0, 0, 0, 0, 0) := rfl
set_option maxRecDepth 20000 in
theorem ja_law_724 : jv_at jm_law.2.2.2.2.2.2 724 = some (.iaload, 1, 0, 0, 0, 0, 0) := rfl
set_option maxRecDepth 20000 in
theorem ja_law_725 : jv_at jm_law.2.2.2.2.2.2 725 = some (.aload_n 0, 1, 0, 0, 0, 0, 0) := rfl
set_option maxRecDepth 20000 in
theorem ja_law_726 : jv_at jm_law.2.2.2.2.2.2 726 = some (.iload_n 3, 1, 0, 0, 0, 0, 0) := rfl
set_option maxRecDepth 20000 in
theorem ja_law_727 : jv_at jm_law.2.2.2.2.2.2 727 = some (.iconst 2, 1, 0, 0, 0, 0, 2) := rfl
set_option maxRecDepth 20000 in
theorem ja_law_728 : jv_at jm_law.2.2.2.2.2.2 728 = some (.iadd, 1, 0, 0, 0, 0, 0) := rfl
set_option maxRecDepth 20000 in
theorem ja_law_729 : jv_at jm_law.2.2.2.2.2.2 729 = some (.iaload, 1, 0, 0, 0, 0, 0) := rfl
set_option maxRecDepth 20000 in
theorem ja_law_730 : jv_at jm_law.2.2.2.2.2.2 730 = some (.aload_n 0, 1, 0, 0, 0, 0, 0) := rfl
set_option maxRecDepth 20000 in
theorem ja_law_731 : jv_at jm_law.2.2.2.2.2.2 731 = some (.iload_n 3, 1, 0, 0, 0, 0, 0) := rfl
set_option maxRecDepth 20000 in
theorem ja_law_732 : jv_at jm_law.2.2.2.2.2.2 732 = some (.iconst 3, 1, 0, 0, 0, 0, 3) := rfl
set_option maxRecDepth 20000 in
theorem ja_law_733 : jv_at jm_law.2.2.2.2.2.2 733 = some (.iadd, 1, 0, 0, 0, 0, 0) := rfl
set_option maxRecDepth 20000 in
theorem ja_law_734 : jv_at jm_law.2.2.2.2.2.2 734 = some (.iaload, 1, 0, 0, 0, 0, 0) := rfl
set_option maxRecDepth 20000 in
theorem ja_law_735 : jv_at jm_law.2.2.2.2.2.2 735 = some (.aload_n 0, 1, 0, 0, 0, 0, 0) := rfl
set_option maxRecDepth 20000 in
theorem ja_law_736 : jv_at jm_law.2.2.2.2.2.2 736 = some (.iload_n 3, 1, 0, 0, 0, 0, 0) := rfl
set_option maxRecDepth 20000 in
theorem ja_law_737 : jv_at jm_law.2.2.2.2.2.2 737 = some (.iconst 4, 1, 0, 0, 0, 0, 4) := rfl
set_option maxRecDepth 20000 in
theorem ja_law_738 : jv_at jm_law.2.2.2.2.2.2 738 = some (.iadd, 1, 0, 0, 0, 0, 0) := rfl
set_option maxRecDepth 20000 in
theorem ja_law_739 : jv_at jm_law.2.2.2.2.2.2 739 = some (.iaload, 1, 0, 0, 0, 0, 0) := rfl
set_option maxRecDepth 20000 in
theorem ja_law_740 : jv_at jm_law.2.2.2.2.2.2 740 = some (.aload_n 0, 1, 0, 0, 0, 0, 0) := rfl
set_option maxRecDepth 20000 in
theorem ja_law_741 : jv_at jm_law.2.2.2.2.2.2 741 = some (.iload_n 3, 1, 0, 0, 0, 0, 0) := rfl
set_option maxRecDepth 20000 in
theorem ja_law_742 : jv_at jm_law.2.2.2.2.2.2 742 = some (.iconst 5, 1, 0, 0, 0, 0, 5) := rfl
set_option maxRecDepth 20000 in
theorem ja_law_743 : jv_at jm_law.2.2.2.2.2.2 743 = some (.iadd, 1, 0, 0, 0, 0, 0) := rfl
set_option maxRecDepth 20000 in
theorem ja_law_744 : jv_at jm_law.2.2.2.2.2.2 744 = some (.iaload, 1, 0, 0, 0, 0, 0) := rfl
set_option maxRecDepth 20000 in
theorem ja_law_745 : jv_at jm_law.2.2.2.2.2.2 745 = some (.aload_n 0, 1, 0, 0, 0, 0, 0) := rfl
set_option maxRecDepth 20000 in
theorem ja_law_746 : jv_at jm_law.2.2.2.2.2.2 746 = some (.iload_n 3, 1, 0, 0, 0, 0, 0) := rfl
set_option maxRecDepth 20000 in
theorem ja_law_747 : jv_at jm_law.2.2.2.2.2.2 747 = some (.bipush 6, 2, 0, 0, 0, 0, 6) := rfl
set_option maxRecDepth 20000 in
theorem ja_law_749 : jv_at jm_law.2.2.2.2.2.2 749 = some (.iadd, 1, 0, 0, 0, 0, 0) := rfl
set_option maxRecDepth 20000 in
theorem ja_law_750 : jv_at jm_law.2.2.2.2.2.2 750 = some (.iaload, 1, 0, 0, 0, 0, 0) := rfl
set_option maxRecDepth 20000 in
theorem ja_law_751 : jv_at jm_law.2.2.2.2.2.2 751 = some (.invokevirtual 90, 3, 71, 0, 691, 11, 6) := rfl
set_option maxRecDepth 20000 in
theorem ja_law_754 : jv_at jm_law.2.2.2.2.2.2 754 = some (.pop2, 1, 0, 0, 0, 0, 0) := rfl
set_option maxRecDepth 20000 in
theorem ja_law_755 : jv_at jm_law.2.2.2.2.2.2 755 = some (.aload_n 2, 1, 0, 0, 0, 0, 0) := rfl
set_option maxRecDepth 20000 in
theorem ja_law_756 : jv_at jm_law.2.2.2.2.2.2 756 = some (.aload_n 0, 1, 0, 0, 0, 0, 0) := rfl
set_option maxRecDepth 20000 in
theorem ja_law_757 : jv_at jm_law.2.2.2.2.2.2 757 = some (.iload_n 3, 1, 0, 0, 0, 0, 0) := rfl
set_option maxRecDepth 20000 in
theorem ja_law_758 : jv_at jm_law.2.2.2.2.2.2 758 = some (.iconst 1, 1, 0, 0, 0, 0, 1) := rfl
set_option maxRecDepth 20000 in
theorem ja_law_759 : jv_at jm_law.2.2.2.2.2.2 759 = some (.iadd, 1, 0, 0, 0, 0, 0) := rfl
set_option maxRecDepth 20000 in
theorem ja_law_760 : jv_at jm_law.2.2.2.2.2.2 760 = some (.iaload, 1, 0, 0, 0, 0, 0) := rfl
set_option maxRecDepth 20000 in
theorem ja_law_761 : jv_at jm_law.2.2.2.2.2.2 761 = some (.aload_n 0, 1, 0, 0, 0, 0, 0) := rfl
set_option maxRecDepth 20000 in
theorem ja_law_762 : jv_at jm_law.2.2.2.2.2.2 762 = some (.iload_n 3, 1, 0, 0, 0, 0, 0) := rfl
set_option maxRecDepth 20000 in
theorem ja_law_763 : jv_at jm_law.2.2.2.2.2.2 763 = some (.iconst 2, 1, 0, 0, 0, 0, 2) := rfl
set_option maxRecDepth 20000 in
theorem ja_law_764 : jv_at jm_law.2.2.2.2.2.2 764 = some (.iadd, 1, 0, 0, 0, 0, 0) := rfl
set_option maxRecDepth 20000 in
theorem ja_law_765 : jv_at jm_law.2.2.2.2.2.2 765 = some (.iaload, 1, 0, 0, 0, 0, 0) := rfl
set_option maxRecDepth 20000 in
theorem ja_law_766 : jv_at jm_law.2.2.2.2.2.2 766 = some (.aload_n 0, 1, 0, 0, 0, 0, 0) := rfl
set_option maxRecDepth 20000 in
theorem ja_law_767 : jv_at jm_law.2.2.2.2.2.2 767 = some (.iload_n 3, 1, 0, 0, 0, 0, 0) := rfl
set_option maxRecDepth 20000 in
theorem ja_law_768 : jv_at jm_law.2.2.2.2.2.2 768 = some (.iconst 3, 1, 0, 0, 0, 0, 3) := rfl
set_option maxRecDepth 20000 in
theorem ja_law_769 : jv_at jm_law.2.2.2.2.2.2 769 = some (.iadd, 1, 0, 0, 0, 0, 0) := rfl
set_option maxRecDepth 20000 in
theorem ja_law_770 : jv_at jm_law.2.2.2.2.2.2 770 = some (.iaload, 1, 0, 0, 0, 0, 0) := rfl
set_option maxRecDepth 20000 in
theorem ja_law_771 : jv_at jm_law.2.2.2.2.2.2 771 = some (.aload_n 0, 1, 0, 0, 0, 0, 0) := rfl
set_option maxRecDepth 20000 in
theorem ja_law_772 : jv_at jm_law.2.2.2.2.2.2 772 = some (.iload_n 3, 1, 0, 0, 0, 0, 0) := rfl
set_option maxRecDepth 20000 in
theorem ja_law_773 : jv_at jm_law.2.2.2.2.2.2 773 = some (.iconst 4, 1, 0, 0, 0, 0, 4) := rfl
set_option maxRecDepth 20000 in
theorem ja_law_774 : jv_at jm_law.2.2.2.2.2.2 774 = some (.iadd, 1, 0, 0, 0, 0, 0) := rfl
set_option maxRecDepth 20000 in
theorem ja_law_775 : jv_at jm_law.2.2.2.2.2.2 775 = some (.iaload, 1, 0, 0, 0, 0, 0) := rfl
set_option maxRecDepth 20000 in
theorem ja_law_776 : jv_at jm_law.2.2.2.2.2.2 776 = some (.aload_n 0, 1, 0, 0, 0, 0, 0) := rfl
set_option maxRecDepth 20000 in
theorem ja_law_777 : jv_at jm_law.2.2.2.2.2.2 777 = some (.iload_n 3, 1, 0, 0, 0, 0, 0) := rfl
set_option maxRecDepth 20000 in
theorem ja_law_778 : jv_at jm_law.2.2.2.2.2.2 778 = some (.iconst 5, 1, 0, 0, 0, 0, 5) := rfl
set_option maxRecDepth 20000 in
theorem ja_law_779 : jv_at jm_law.2.2.2.2.2.2 779 = some (.iadd, 1, 0, 0, 0, 0, 0) := rfl
set_option maxRecDepth 20000 in
theorem ja_law_780 : jv_at jm_law.2.2.2.2.2.2 780 = some (.iaload, 1, 0, 0, 0, 0, 0) := rfl
set_option maxRecDepth 20000 in
theorem ja_law_781 : jv_at jm_law.2.2.2.2.2.2 781 = some (.aload_n 0, 1, 0, 0, 0, 0, 0) := rfl
set_option maxRecDepth 20000 in
theorem ja_law_782 : jv_at jm_law.2.2.2.2.2.2 782 = some (.iload_n 3, 1, 0, 0, 0, 0, 0) := rfl
set_option maxRecDepth 20000 in
theorem ja_law_783 : jv_at jm_law.2.2.2.2.2.2 783 = some (.bipush 6, 2, 0, 0, 0, 0, 6) := rfl
set_option maxRecDepth 20000 in
theorem ja_law_785 : jv_at jm_law.2.2.2.2.2.2 785 = some (.iadd, 1, 0, 0, 0, 0, 0) := rfl
set_option maxRecDepth 20000 in
theorem ja_law_786 : jv_at jm_law.2.2.2.2.2.2 786 = some (.iaload, 1, 0, 0, 0, 0, 0) := rfl
set_option maxRecDepth 20000 in
theorem ja_law_787 : jv_at jm_law.2.2.2.2.2.2 787 = some (.invokevirtual 94, 3, 177, 0, 1294, 12, 6) := rfl
set_option maxRecDepth 20000 in
theorem ja_law_790 : jv_at jm_law.2.2.2.2.2.2 790 = some (.pop2, 1, 0, 0, 0, 0, 0) := rfl
set_option maxRecDepth 20000 in
theorem ja_law_791 : jv_at jm_law.2.2.2.2.2.2 791 = some (.goto 567, 3, 1358, 0, 0, 0, 0) := rfl
set_option maxRecDepth 20000 in
theorem ja_law_794 : jv_at jm_law.2.2.2.2.2.2 794 = some (.aload_n 1, 1, 0, 0, 0, 0, 0) := rfl
set_option maxRecDepth 20000 in
theorem ja_law_795 : jv_at jm_law.2.2.2.2.2.2 795 = some (.aload_n 0, 1, 0, 0, 0, 0, 0) := rfl
set_option maxRecDepth 20000 in
theorem ja_law_796 : jv_at jm_law.2.2.2.2.2.2 796 = some (.iload_n 3, 1, 0, 0, 0, 0, 0) := rfl
set_option maxRecDepth 20000 in
theorem ja_law_797 : jv_at jm_law.2.2.2.2.2.2 797 = some (.iconst 1, 1, 0, 0, 0, 0, 1) := rfl
set_option maxRecDepth 20000 in
theorem ja_law_798 : jv_at jm_law.2.2.2.2.2.2 798 = some (.iadd, 1, 0, 0, 0, 0, 0) := rfl
set_option maxRecDepth 20000 in
theorem ja_law_799 : jv_at jm_law.2.2.2.2.2.2 799 = some (.iaload, 1, 0, 0, 0, 0, 0) := rfl
set_option maxRecDepth 20000 in
theorem ja_law_800 : jv_at jm_law.2.2.2.2.2.2 800 = some (.aload_n 0, 1, 0, 0, 0, 0, 0) := rfl
set_option maxRecDepth 20000 in
theorem ja_law_801 : jv_at jm_law.2.2.2.2.2.2 801 = some (.iload_n 3, 1, 0, 0, 0, 0, 0) := rfl
set_option maxRecDepth 20000 in
theorem ja_law_802 : jv_at jm_law.2.2.2.2.2.2 802 = some (.iconst 2, 1, 0, 0, 0, 0, 2) := rfl
set_option maxRecDepth 20000 in
theorem ja_law_803 : jv_at jm_law.2.2.2.2.2.2 803 = some (.iadd, 1, 0, 0, 0, 0, 0) := rfl
set_option maxRecDepth 20000 in
theorem ja_law_804 : jv_at jm_law.2.2.2.2.2.2 804 = some (.iaload, 1, 0, 0, 0, 0, 0) := rfl
set_option maxRecDepth 20000 in
theorem ja_law_805 : jv_at jm_law.2.2.2.2.2.2 805 = some (.aload_n 0, 1, 0, 0, 0, 0, 0) := rfl
set_option maxRecDepth 20000 in
theorem ja_law_806 : jv_at jm_law.2.2.2.2.2.2 806 = some (.iload_n 3, 1, 0, 0, 0, 0, 0) := rfl
set_option maxRecDepth 20000 in
theorem ja_law_807 : jv_at jm_law.2.2.2.2.2.2 807 = some (.iconst 3, 1, 0, 0, 0, 0, 3) := rfl
set_option maxRecDepth 20000 in
theorem ja_law_808 : jv_at jm_law.2.2.2.2.2.2 808 = some (.iadd, 1, 0, 0, 0, 0, 0) := rfl
set_option maxRecDepth 20000 in
theorem ja_law_809 : jv_at jm_law.2.2.2.2.2.2 809 = some (.iaload, 1, 0, 0, 0, 0, 0) := rfl
set_option maxRecDepth 20000 in
theorem ja_law_810 : jv_at jm_law.2.2.2.2.2.2 810 = some (.aload_n 0, 1, 0, 0, 0, 0, 0) := rfl
set_option maxRecDepth 20000 in
theorem ja_law_811 : jv_at jm_law.2.2.2.2.2.2 811 = some (.iload_n 3, 1, 0, 0, 0, 0, 0) := rfl
set_option maxRecDepth 20000 in
theorem ja_law_812 : jv_at jm_law.2.2.2.2.2.2 812 = some (.iconst 4, 1, 0, 0, 0, 0, 4) := rfl
set_option maxRecDepth 20000 in
theorem ja_law_813 : jv_at jm_law.2.2.2.2.2.2 813 = some (.iadd, 1, 0, 0, 0, 0, 0) := rfl
set_option maxRecDepth 20000 in
theorem ja_law_814 : jv_at jm_law.2.2.2.2.2.2 814 = some (.iaload, 1, 0, 0, 0, 0, 0) := rfl
set_option maxRecDepth 20000 in
theorem ja_law_815 : jv_at jm_law.2.2.2.2.2.2 815 = some (.invokevirtual 95, 3, 80, 0, 725, 11, 4) := rfl
set_option maxRecDepth 20000 in
theorem ja_law_818 : jv_at jm_law.2.2.2.2.2.2 818 = some (.pop, 1, 0, 0, 0, 0, 0) := rfl
set_option maxRecDepth 20000 in
theorem ja_law_819 : jv_at jm_law.2.2.2.2.2.2 819 = some (.aload_n 2, 1, 0, 0, 0, 0, 0) := rfl
set_option maxRecDepth 20000 in
theorem ja_law_820 : jv_at jm_law.2.2.2.2.2.2 820 = some (.aload_n 0, 1, 0, 0, 0, 0, 0) := rfl
set_option maxRecDepth 20000 in
theorem ja_law_821 : jv_at jm_law.2.2.2.2.2.2 821 = some (.iload_n 3, 1, 0, 0, 0, 0, 0) := rfl
set_option maxRecDepth 20000 in
theorem ja_law_822 : jv_at jm_law.2.2.2.2.2.2 822 = some (.iconst 1, 1, 0, 0, 0, 0, 1) := rfl
set_option maxRecDepth 20000 in
theorem ja_law_823 : jv_at jm_law.2.2.2.2.2.2 823 = some (.iadd, 1, 0, 0, 0, 0, 0) := rfl
set_option maxRecDepth 20000 in
theorem ja_law_824 : jv_at jm_law.2.2.2.2.2.2 824 = some (.iaload, 1, 0, 0, 0, 0, 0) := rfl
set_option maxRecDepth 20000 in
theorem ja_law_825 : jv_at jm_law.2.2.2.2.2.2 825 = some (.aload_n 0, 1, 0, 0, 0, 0, 0) := rfl
set_option maxRecDepth 20000 in
theorem ja_law_826 : jv_at jm_law.2.2.2.2.2.2 826 = some (.iload_n 3, 1, 0, 0, 0, 0, 0) := rfl
set_option maxRecDepth 20000 in
theorem ja_law_827 : jv_at jm_law.2.2.2.2.2.2 827 = some (.iconst 2, 1, 0, 0, 0, 0, 2) := rfl
set_option maxRecDepth 20000 in
theorem ja_law_828 : jv_at jm_law.2.2.2.2.2.2 828 = some (.iadd, 1, 0, 0, 0, 0, 0) := rfl
set_option maxRecDepth 20000 in
theorem ja_law_829 : jv_at jm_law.2.2.2.2.2.2 829 = some (.iaload, 1, 0, 0, 0, 0, 0) := rfl
set_option maxRecDepth 20000 in
theorem ja_law_830 : jv_at jm_law.2.2.2.2.2.2 830 = some (.aload_n 0, 1, 0, 0, 0, 0, 0) := rfl
set_option maxRecDepth 20000 in
theorem ja_law_831 : jv_at jm_law.2.2.2.2.2.2 831 = some (.iload_n 3, 1, 0, 0, 0, 0, 0) := rfl
set_option maxRecDepth 20000 in
theorem ja_law_832 : jv_at jm_law.2.2.2.2.2.2 832 = some (.iconst 3, 1, 0, 0, 0, 0, 3) := rfl
set_option maxRecDepth 20000 in
theorem ja_law_833 : jv_at jm_law.2.2.2.2.2.2 833 = some (.iadd, 1, 0, 0, 0, 0, 0) := rfl
set_option maxRecDepth 20000 in
theorem ja_law_834 : jv_at jm_law.2.2.2.2.2.2 834 = some (.iaload, 1, 0, 0, 0, 0, 0) := rfl
set_option maxRecDepth 20000 in
theorem ja_law_835 : jv_at jm_law.2.2.2.2.2.2 835 = some (.aload_n 0, 1, 0, 0, 0, 0, 0) := rfl
set_option maxRecDepth 20000 in
theorem ja_law_836 : jv_at jm_law.2.2.2.2.2.2 836 = some (.iload_n 3, 1, 0, 0, 0, 0, 0) := rfl
set_option maxRecDepth 20000 in
theorem ja_law_837 : jv_at jm_law.2.2.2.2.2.2 837 = some (.iconst 4, 1, 0, 0, 0, 0, 4) := rfl
set_option maxRecDepth 20000 in
theorem ja_law_838 : jv_at jm_law.2.2.2.2.2.2 838 = some (.iadd, 1, 0, 0, 0, 0, 0) := rfl
set_option maxRecDepth 20000 in
theorem ja_law_839 : jv_at jm_law.2.2.2.2.2.2 839 = some (.iaload, 1, 0, 0, 0, 0, 0) := rfl
set_option maxRecDepth 20000 in
theorem ja_law_840 : jv_at jm_law.2.2.2.2.2.2 840 = some (.invokevirtual 99, 3, 186, 0, 1329, 12, 4) := rfl
set_option maxRecDepth 20000 in
theorem ja_law_843 : jv_at jm_law.2.2.2.2.2.2 843 = some (.pop, 1, 0, 0, 0, 0, 0) := rfl
set_option maxRecDepth 20000 in
theorem ja_law_844 : jv_at jm_law.2.2.2.2.2.2 844 = some (.goto 514, 3, 1358, 0, 0, 0, 0) := rfl
set_option maxRecDepth 20000 in
theorem ja_law_847 : jv_at jm_law.2.2.2.2.2.2 847 = some (.aload_n 1, 1, 0, 0, 0, 0, 0) := rfl
set_option maxRecDepth 20000 in
theorem ja_law_848 : jv_at jm_law.2.2.2.2.2.2 848 = some (.aload_n 0, 1, 0, 0, 0, 0, 0) := rfl
set_option maxRecDepth 20000 in
theorem ja_law_849 : jv_at jm_law.2.2.2.2.2.2 849 = some (.iload_n 3, 1, 0, 0, 0, 0, 0) := rfl
set_option maxRecDepth 20000 in
theorem ja_law_850 : jv_at jm_law.2.2.2.2.2.2 850 = some (.iconst 1, 1, 0, 0, 0, 0, 1) := rfl
set_option maxRecDepth 20000 in
theorem ja_law_851 : jv_at jm_law.2.2.2.2.2.2 851 = some (.iadd, 1, 0, 0, 0, 0, 0) := rfl
set_option maxRecDepth 20000 in
theorem ja_law_852 : jv_at jm_law.2.2.2.2.2.2 852 = some (.iaload, 1, 0, 0, 0, 0, 0) := rfl
set_option maxRecDepth 20000 in
theorem ja_law_853 : jv_at jm_law.2.2.2.2.2.2 853 = some (.aload_n 0, 1, 0, 0, 0, 0, 0) := rfl
set_option maxRecDepth 20000 in
theorem ja_law_854 : jv_at jm_law.2.2.2.2.2.2 854 = some (.iload_n 3, 1, 0, 0, 0, 0, 0) := rfl
set_option maxRecDepth 20000 in
theorem ja_law_855 : jv_at jm_law.2.2.2.2.2.2 855 = some (.iconst 2, 1, 0, 0, 0, 0, 2) := rfl
set_option maxRecDepth 20000 in
theorem ja_law_856 : jv_at jm_law.2.2.2.2.2.2 856 = some (.iadd, 1, 0, 0, 0, 0, 0) := rfl
set_option maxRecDepth 20000 in
theorem ja_law_857 : jv_at jm_law.2.2.2.2.2.2 857 = some (.iaload, 1, 0, 0, 0, 0, 0) := rfl
set_option maxRecDepth 20000 in
theorem ja_law_858 : jv_at jm_law.2.2.2.2.2.2 858 = some (.aload_n 0, 1, 0, 0, 0, 0, 0) := rfl
set_option maxRecDepth 20000 in
theorem ja_law_859 : jv_at jm_law.2.2.2.2.2.2 859 = some (.iload_n 3, 1, 0, 0, 0, 0, 0) := rfl
set_option maxRecDepth 20000 in
theorem ja_law_860 : jv_at jm_law.2.2.2.2.2.2 860 = some (.iconst 3, 1, 0, 0, 0, 0, 3) := rfl
set_option maxRecDepth 20000 in
theorem ja_law_861 : jv_at jm_law.2.2.2.2.2.2 861 = some (.iadd, 1, 0, 0, 0, 0, 0) := rfl
set_option maxRecDepth 20000 in
theorem ja_law_862 : jv_at jm_law.2.2.2.2.2.2 862 = some (.iaload, 1, 0, 0, 0, 0, 0) := rfl
set_option maxRecDepth 20000 in
theorem ja_law_863 : jv_at jm_law.2.2.2.2.2.2 863 = some (.aload_n 0, 1, 0, 0, 0, 0, 0) := rfl
set_option maxRecDepth 20000 in
theorem ja_law_864 : jv_at jm_law.2.2.2.2.2.2 864 = some (.iload_n 3, 1, 0, 0, 0, 0, 0) := rfl
set_option maxRecDepth 20000 in
theorem ja_law_865 : jv_at jm_law.2.2.2.2.2.2 865 = some (.iconst 4, 1, 0, 0, 0, 0, 4) := rfl
set_option maxRecDepth 20000 in
theorem ja_law_866 : jv_at jm_law.2.2.2.2.2.2 866 = some (.iadd, 1, 0, 0, 0, 0, 0) := rfl
set_option maxRecDepth 20000 in
theorem ja_law_867 : jv_at jm_law.2.2.2.2.2.2 867 = some (.iaload, 1, 0, 0, 0, 0, 0) := rfl
set_option maxRecDepth 20000 in
theorem ja_law_868 : jv_at jm_law.2.2.2.2.2.2 868 = some (.invokevirtual 100, 3, 91, 0, 768, 11, 4) := rfl
set_option maxRecDepth 20000 in
theorem ja_law_871 : jv_at jm_law.2.2.2.2.2.2 871 = some (.pop, 1, 0, 0, 0, 0, 0) := rfl
set_option maxRecDepth 20000 in
theorem ja_law_872 : jv_at jm_law.2.2.2.2.2.2 872 = some (.aload_n 2, 1, 0, 0, 0, 0, 0) := rfl
set_option maxRecDepth 20000 in
theorem ja_law_873 : jv_at jm_law.2.2.2.2.2.2 873 = some (.aload_n 0, 1, 0, 0, 0, 0, 0) := rfl
set_option maxRecDepth 20000 in
theorem ja_law_874 : jv_at jm_law.2.2.2.2.2.2 874 = some (.iload_n 3, 1, 0, 0, 0, 0, 0) := rfl
set_option maxRecDepth 20000 in
theorem ja_law_875 : jv_at jm_law.2.2.2.2.2.2 875 = some (.iconst 1, 1, 0, 0, 0, 0, 1) := rfl
set_option maxRecDepth 20000 in
theorem ja_law_876 : jv_at jm_law.2.2.2.2.2.2 876 = some (.iadd, 1, 0, 0, 0, 0, 0) := rfl
set_option maxRecDepth 20000 in
theorem ja_law_877 : jv_at jm_law.2.2.2.2.2.2 877 = some (.iaload, 1, 0, 0, 0, 0, 0) := rfl
set_option maxRecDepth 20000 in
theorem ja_law_878 : jv_at jm_law.2.2.2.2.2.2 878 = some (.aload_n 0, 1, 0, 0, 0, 0, 0) := rfl
set_option maxRecDepth 20000 in
theorem ja_law_879 : jv_at jm_law.2.2.2.2.2.2 879 = some (.iload_n 3, 1, 0, 0, 0, 0, 0) := rfl
set_option maxRecDepth 20000 in
theorem ja_law_880 : jv_at jm_law.2.2.2.2.2.2 880 = some (.iconst 2, 1, 0, 0, 0, 0, 2) := rfl
set_option maxRecDepth 20000 in
theorem ja_law_881 : jv_at jm_law.2.2.2.2.2.2 881 = some (.iadd, 1, 0, 0, 0, 0, 0) := rfl
set_option maxRecDepth 20000 in
theorem ja_law_882 : jv_at jm_law.2.2.2.2.2.2 882 = some (.iaload, 1, 0, 0, 0, 0, 0) := rfl
set_option maxRecDepth 20000 in
theorem ja_law_883 : jv_at jm_law.2.2.2.2.2.2 883 = some (.aload_n 0, 1, 0, 0, 0, 0, 0) := rfl
set_option maxRecDepth 20000 in
theorem ja_law_884 : jv_at jm_law.2.2.2.2.2.2 884 = some (.iload_n 3, 1, 0, 0, 0, 0, 0) := rfl
set_option maxRecDepth 20000 in
theorem ja_law_885 : jv_at jm_law.2.2.2.2.2.2 885 = some (.iconst 3, 1, 0, 0, 0, 0, 3) := rfl
set_option maxRecDepth 20000 in
theorem ja_law_886 : jv_at jm_law.2.2.2.2.2.2 886 = some (.iadd, 1, 0, 0, 0, 0, 0) := rfl
set_option maxRecDepth 20000 in
theorem ja_law_887 : jv_at jm_law.2.2.2.2.2.2 887 = some (.iaload, 1, 0, 0, 0, 0, 0) := rfl
set_option maxRecDepth 20000 in
theorem ja_law_888 : jv_at jm_law.2.2.2.2.2.2 888 = some (.aload_n 0, 1, 0, 0, 0, 0, 0) := rfl
set_option maxRecDepth 20000 in
theorem ja_law_889 : jv_at jm_law.2.2.2.2.2.2 889 = some (.iload_n 3, 1, 0, 0, 0, 0, 0) := rfl
set_option maxRecDepth 20000 in
theorem ja_law_890 : jv_at jm_law.2.2.2.2.2.2 890 = some (.iconst 4, 1, 0, 0, 0, 0, 4) := rfl
set_option maxRecDepth 20000 in
theorem ja_law_891 : jv_at jm_law.2.2.2.2.2.2 891 = some (.iadd, 1, 0, 0, 0, 0, 0) := rfl
set_option maxRecDepth 20000 in
theorem ja_law_892 : jv_at jm_law.2.2.2.2.2.2 892 = some (.iaload, 1, 0, 0, 0, 0, 0) := rfl
set_option maxRecDepth 20000 in
theorem ja_law_893 : jv_at jm_law.2.2.2.2.2.2 893 = some (.invokevirtual 103, 3, 182, 0, 1313, 12, 4) := rfl
set_option maxRecDepth 20000 in
theorem ja_law_896 : jv_at jm_law.2.2.2.2.2.2 896 = some (.pop, 1, 0, 0, 0, 0, 0) := rfl
set_option maxRecDepth 20000 in
theorem ja_law_897 : jv_at jm_law.2.2.2.2.2.2 897 = some (.goto 461, 3, 1358, 0, 0, 0, 0) := rfl
set_option maxRecDepth 20000 in
theorem ja_law_900 : jv_at jm_law.2.2.2.2.2.2 900 = some (.aload_n 1, 1, 0, 0, 0, 0, 0) := rfl
set_option maxRecDepth 20000 in
theorem ja_law_901 : jv_at jm_law.2.2.2.2.2.2 901 = some (.invokevirtual 104, 3, 92, 0, 772, 11, 0) := rfl
set_option maxRecDepth 20000 in
theorem ja_law_904 : jv_at jm_law.2.2.2.2.2.2 904 = some (.pop, 1, 0, 0, 0, 0, 0) := rfl
set_option maxRecDepth 20000 in
theorem ja_law_905 : jv_at jm_law.2.2.2.2.2.2 905 = some (.aload_n 2, 1, 0, 0, 0, 0, 0) := rfl
set_option maxRecDepth 20000 in
theorem ja_law_906 : jv_at jm_law.2.2.2.2.2.2 906 = some (.invokevirtual 107, 3, 189, 0, 1341, 12, 0) := rfl
set_option maxRecDepth 20000 in
theorem ja_law_909 : jv_at jm_law.2.2.2.2.2.2 909 = some (.pop, 1, 0, 0, 0, 0, 0) := rfl
set_option maxRecDepth 20000 in
theorem ja_law_910 : jv_at jm_law.2.2.2.2.2.2 910 = some (.goto 448, 3, 1358, 0, 0, 0, 0) := rfl
set_option maxRecDepth 20000 in
theorem ja_law_913 : jv_at jm_law.2.2.2.2.2.2 913 = some (.aload_n 1, 1, 0, 0, 0, 0, 0) := rfl
set_option maxRecDepth 20000 in
theorem ja_law_914 : jv_at jm_law.2.2.2.2.2.2 914 = some (.aload_n 0, 1, 0, 0, 0, 0, 0) := rfl
set_option maxRecDepth 20000 in
theorem ja_law_915 : jv_at jm_law.2.2.2.2.2.2 915 = some (.iload_n 3, 1, 0, 0, 0, 0, 0) := rfl
set_option maxRecDepth 20000 in
theorem ja_law_916 : jv_at jm_law.2.2.2.2.2.2 916 = some (.iconst 1, 1, 0, 0, 0, 0, 1) := rfl
set_option maxRecDepth 20000 in
theorem ja_law_917 : jv_at jm_law.2.2.2.2.2.2 917 = some (.iadd, 1, 0, 0, 0, 0, 0) := rfl
set_option maxRecDepth 20000 in
theorem ja_law_918 : jv_at jm_law.2.2.2.2.2.2 918 = some (.iaload, 1, 0, 0, 0, 0, 0) := rfl
set_option maxRecDepth 20000 in
theorem ja_law_919 : jv_at jm_law.2.2.2.2.2.2 919 = some (.invokevirtual 108, 3, 101, 0, 807, 11, 1) := rfl
set_option maxRecDepth 20000 in
theorem ja_law_922 : jv_at jm_law.2.2.2.2.2.2 922 = some (.pop, 1, 0, 0, 0, 0, 0) := rfl
set_option maxRecDepth 20000 in
theorem ja_law_923 : jv_at jm_law.2.2.2.2.2.2 923 = some (.aload_n 2, 1, 0, 0, 0, 0, 0) := rfl
set_option maxRecDepth 20000 in
theorem ja_law_924 : jv_at jm_law.2.2.2.2.2.2 924 = some (.aload_n 0, 1, 0, 0, 0, 0, 0) := rfl
set_option maxRecDepth 20000 in
theorem ja_law_925 : jv_at jm_law.2.2.2.2.2.2 925 = some (.iload_n 3, 1, 0, 0, 0, 0, 0) := rfl
set_option maxRecDepth 20000 in
theorem ja_law_926 : jv_at jm_law.2.2.2.2.2.2 926 = some (.iconst 1, 1, 0, 0, 0, 0, 1) := rfl
set_option maxRecDepth 20000 in
theorem ja_law_927 : jv_at jm_law.2.2.2.2.2.2 927 = some (.iadd, 1, 0, 0, 0, 0, 0) := rfl
set_option maxRecDepth 20000 in
theorem ja_law_928 : jv_at jm_law.2.2.2.2.2.2 928 = some (.iaload, 1, 0, 0, 0, 0, 0) := rfl
set_option maxRecDepth 20000 in
theorem ja_law_929 : jv_at jm_law.2.2.2.2.2.2 929 = some (.invokevirtual 111, 3, 200, 0, 1385, 12, 1) := rfl
set_option maxRecDepth 20000 in
theorem ja_law_932 : jv_at jm_law.2.2.2.2.2.2 932 = some (.pop, 1, 0, 0, 0, 0, 0) := rfl
set_option maxRecDepth 20000 in
theorem ja_law_933 : jv_at jm_law.2.2.2.2.2.2 933 = some (.goto 425, 3, 1358, 0, 0, 0, 0) := rfl
set_option maxRecDepth 20000 in
theorem ja_law_936 : jv_at jm_law.2.2.2.2.2.2 936 = some (.aload_n 1, 1, 0, 0, 0, 0, 0) := rfl
set_option maxRecDepth 20000 in
theorem ja_law_937 : jv_at jm_law.2.2.2.2.2.2 937 = some (.aload_n 0, 1, 0, 0, 0, 0, 0) := rfl
set_option maxRecDepth 20000 in
theorem ja_law_938 : jv_at jm_law.2.2.2.2.2.2 938 = some (.iload_n 3, 1, 0, 0, 0, 0, 0) := rfl
set_option maxRecDepth 20000 in
theorem ja_law_939 : jv_at jm_law.2.2.2.2.2.2 939 = some (.iconst 1, 1, 0, 0, 0, 0, 1) := rfl
set_option maxRecDepth 20000 in
theorem ja_law_940 : jv_at jm_law.2.2.2.2.2.2 940 = some (.iadd, 1, 0, 0, 0, 0, 0) := rfl
set_option maxRecDepth 20000 in
theorem ja_law_941 : jv_at jm_law.2.2.2.2.2.2 941 = some (.iaload, 1, 0, 0, 0, 0, 0) := rfl
set_option maxRecDepth 20000 in
theorem ja_law_942 : jv_at jm_law.2.2.2.2.2.2 942 = some (.invokevirtual 112, 3, 102, 0, 811, 11, 1) := rfl
set_option maxRecDepth 20000 in
theorem ja_law_945 : jv_at jm_law.2.2.2.2.2.2 945 = some (.pop, 1, 0, 0, 0, 0, 0) := rfl
set_option maxRecDepth 20000 in
theorem ja_law_946 : jv_at jm_law.2.2.2.2.2.2 946 = some (.aload_n 2, 1, 0, 0, 0, 0, 0) := rfl
set_option maxRecDepth 20000 in
theorem ja_law_947 : jv_at jm_law.2.2.2.2.2.2 947 = some (.aload_n 0, 1, 0, 0, 0, 0, 0) := rfl
set_option maxRecDepth 20000 in
theorem ja_law_948 : jv_at jm_law.2.2.2.2.2.2 948 = some (.iload_n 3, 1, 0, 0, 0, 0, 0) := rfl
set_option maxRecDepth 20000 in
theorem ja_law_949 : jv_at jm_law.2.2.2.2.2.2 949 = some (.iconst 1, 1, 0, 0, 0, 0, 1) := rfl
set_option maxRecDepth 20000 in
theorem ja_law_950 : jv_at jm_law.2.2.2.2.2.2 950 = some (.iadd, 1, 0, 0, 0, 0, 0) := rfl
set_option maxRecDepth 20000 in
theorem ja_law_951 : jv_at jm_law.2.2.2.2.2.2 951 = some (.iaload, 1, 0, 0, 0, 0, 0) := rfl
set_option maxRecDepth 20000 in
theorem ja_law_952 : jv_at jm_law.2.2.2.2.2.2 952 = some (.invokevirtual 115, 3, 201, 0, 1389, 12, 1) := rfl
set_option maxRecDepth 20000 in
theorem ja_law_955 : jv_at jm_law.2.2.2.2.2.2 955 = some (.pop, 1, 0, 0, 0, 0, 0) := rfl
set_option maxRecDepth 20000 in
theorem ja_law_956 : jv_at jm_law.2.2.2.2.2.2 956 = some (.goto 402, 3, 1358, 0, 0, 0, 0) := rfl
set_option maxRecDepth 20000 in
theorem ja_law_959 : jv_at jm_law.2.2.2.2.2.2 959 = some (.aload_n 1, 1, 0, 0, 0, 0, 0) := rfl
set_option maxRecDepth 20000 in
theorem ja_law_960 : jv_at jm_law.2.2.2.2.2.2 960 = some (.aload_n 0, 1, 0, 0, 0, 0, 0) := rfl
set_option maxRecDepth 20000 in
theorem ja_law_961 : jv_at jm_law.2.2.2.2.2.2 961 = some (.iload_n 3, 1, 0, 0, 0, 0, 0) := rfl
set_option maxRecDepth 20000 in
theorem ja_law_962 : jv_at jm_law.2.2.2.2.2.2 962 = some (.iconst 1, 1, 0, 0, 0, 0, 1) := rfl
set_option maxRecDepth 20000 in
theorem ja_law_963 : jv_at jm_law.2.2.2.2.2.2 963 = some (.iadd, 1, 0, 0, 0, 0, 0) := rfl
set_option maxRecDepth 20000 in
theorem ja_law_964 : jv_at jm_law.2.2.2.2.2.2 964 = some (.iaload, 1, 0, 0, 0, 0, 0) := rfl
set_option maxRecDepth 20000 in
theorem ja_law_965 : jv_at jm_law.2.2.2.2.2.2 965 = some (.aload_n 0, 1, 0, 0, 0, 0, 0) := rfl
set_option maxRecDepth 20000 in
theorem ja_law_966 : jv_at jm_law.2.2.2.2.2.2 966 = some (.iload_n 3, 1, 0, 0, 0, 0, 0) := rfl
set_option maxRecDepth 20000 in
theorem ja_law_967 : jv_at jm_law.2.2.2.2.2.2 967 = some (.iconst 2, 1, 0, 0, 0, 0, 2) := rfl
set_option maxRecDepth 20000 in
theorem ja_law_968 : jv_at jm_law.2.2.2.2.2.2 968 = some (.iadd, 1, 0, 0, 0, 0, 0) := rfl
set_option maxRecDepth 20000 in
theorem ja_law_969 : jv_at jm_law.2.2.2.2.2.2 969 = some (.iaload, 1, 0, 0, 0, 0, 0) := rfl
set_option maxRecDepth 20000 in
theorem ja_law_970 : jv_at jm_law.2.2.2.2.2.2 970 = some (.invokevirtual 116, 3, 103, 0, 815, 11, 2) := rfl
set_option maxRecDepth 20000 in
theorem ja_law_973 : jv_at jm_law.2.2.2.2.2.2 973 = some (.pop, 1, 0, 0, 0, 0, 0) := rfl
set_option maxRecDepth 20000 in
theorem ja_law_974 : jv_at jm_law.2.2.2.2.2.2 974 = some (.aload_n 2, 1, 0, 0, 0, 0, 0) := rfl
set_option maxRecDepth 20000 in
theorem ja_law_975 : jv_at jm_law.2.2.2.2.2.2 975 = some (.aload_n 0, 1, 0, 0, 0, 0, 0) := rfl
set_option maxRecDepth 20000 in
theorem ja_law_976 : jv_at jm_law.2.2.2.2.2.2 976 = some (.iload_n 3, 1, 0, 0, 0, 0, 0) := rfl
set_option maxRecDepth 20000 in
theorem ja_law_977 : jv_at jm_law.2.2.2.2.2.2 977 = some (.iconst 1, 1, 0, 0, 0, 0, 1) := rfl
set_option maxRecDepth 20000 in
theorem ja_law_978 : jv_at jm_law.2.2.2.2.2.2 978 = some (.iadd, 1, 0, 0, 0, 0, 0) := rfl
set_option maxRecDepth 20000 in
theorem ja_law_979 : jv_at jm_law.2.2.2.2.2.2 979 = some (.iaload, 1, 0, 0, 0, 0, 0) := rfl
set_option maxRecDepth 20000 in
theorem ja_law_980 : jv_at jm_law.2.2.2.2.2.2 980 = some (.aload_n 0, 1, 0, 0, 0, 0, 0) := rfl
set_option maxRecDepth 20000 in
theorem ja_law_981 : jv_at jm_law.2.2.2.2.2.2 981 = some (.iload_n 3, 1, 0, 0, 0, 0, 0) := rfl
set_option maxRecDepth 20000 in
theorem ja_law_982 : jv_at jm_law.2.2.2.2.2.2 982 = some (.iconst 2, 1, 0, 0, 0, 0, 2) := rfl
set_option maxRecDepth 20000 in
theorem ja_law_983 : jv_at jm_law.2.2.2.2.2.2 983 = some (.iadd, 1, 0, 0, 0, 0, 0) := rfl
set_option maxRecDepth 20000 in
theorem ja_law_984 : jv_at jm_law.2.2.2.2.2.2 984 = some (.iaload, 1, 0, 0, 0, 0, 0) := rfl
set_option maxRecDepth 20000 in
theorem ja_law_985 : jv_at jm_law.2.2.2.2.2.2 985 = some (.invokevirtual 119, 3, 202, 0, 1393, 12, 2) := rfl
set_option maxRecDepth 20000 in
theorem ja_law_988 : jv_at jm_law.2.2.2.2.2.2 988 = some (.pop, 1, 0, 0, 0, 0, 0) := rfl
set_option maxRecDepth 20000 in
theorem ja_law_989 : jv_at jm_law.2.2.2.2.2.2 989 = some (.goto 369, 3, 1358, 0, 0, 0, 0) := rfl
set_option maxRecDepth 20000 in
theorem ja_law_992 : jv_at jm_law.2.2.2.2.2.2 992 = some (.aload_n 1, 1, 0, 0, 0, 0, 0) := rfl
set_option maxRecDepth 20000 in
theorem ja_law_993 : jv_at jm_law.2.2.2.2.2.2 993 = some (.invokevirtual 120, 3, 104, 0, 820, 11, 0) := rfl
set_option maxRecDepth 20000 in
theorem ja_law_996 : jv_at jm_law.2.2.2.2.2.2 996 = some (.pop, 1, 0, 0, 0, 0, 0) := rfl
set_option maxRecDepth 20000 in
theorem ja_law_997 : jv_at jm_law.2.2.2.2.2.2 997 = some (.aload_n 2, 1, 0, 0, 0, 0, 0) := rfl
set_option maxRecDepth 20000 in
theorem ja_law_998 : jv_at jm_law.2.2.2.2.2.2 998 = some (.invokevirtual 123, 3, 203, 0, 1398, 12, 0) := rfl
set_option maxRecDepth 20000 in
theorem ja_law_1001 : jv_at jm_law.2.2.2.2.2.2 1001 = some (.pop, 1, 0, 0, 0, 0, 0) := rfl
set_option maxRecDepth 20000 in
theorem ja_law_1002 : jv_at jm_law.2.2.2.2.2.2 1002 = some (.goto 356, 3, 1358, 0, 0, 0, 0) := rfl
set_option maxRecDepth 20000 in
theorem ja_law_1005 : jv_at jm_law.2.2.2.2.2.2 1005 = some (.aload_n 1, 1, 0, 0, 0, 0, 0) := rfl
set_option maxRecDepth 20000 in
theorem ja_law_1006 : jv_at jm_law.2.2.2.2.2.2 1006 = some (.invokevirtual 124, 3, 105, 0, 824, 11, 0) := rfl
set_option maxRecDepth 20000 in
theorem ja_law_1009 : jv_at jm_law.2.2.2.2.2.2 1009 = some (.pop, 1, 0, 0, 0, 0, 0) := rfl
set_option maxRecDepth 20000 in
theorem ja_law_1010 : jv_at jm_law.2.2.2.2.2.2 1010 = some (.aload_n 2, 1, 0, 0, 0, 0, 0) := rfl
set_option maxRecDepth 20000 in
theorem ja_law_1011 : jv_at jm_law.2.2.2.2.2.2 1011 = some (.invokevirtual 127, 3, 204, 0, 1402, 12, 0) := rfl
set_option maxRecDepth 20000 in
theorem ja_law_1014 : jv_at jm_law.2.2.2.2.2.2 1014 = some (.pop, 1, 0, 0, 0, 0, 0) := rfl
set_option maxRecDepth 20000 in
theorem ja_law_1015 : jv_at jm_law.2.2.2.2.2.2 1015 = some (.goto 343, 3, 1358, 0, 0, 0, 0) := rfl
set_option maxRecDepth 20000 in
theorem ja_law_1018 : jv_at jm_law.2.2.2.2.2.2 1018 = some (.aload_n 1, 1, 0, 0, 0, 0, 0) := rfl
set_option maxRecDepth 20000 in
theorem ja_law_1019 : jv_at jm_law.2.2.2.2.2.2 1019 = some (.aload_n 0, 1, 0, 0, 0, 0, 0) := rfl
set_option maxRecDepth 20000 in
theorem ja_law_1020 : jv_at jm_law.2.2.2.2.2.2 1020 = some (.iload_n 3, 1, 0, 0, 0, 0, 0) := rfl
set_option maxRecDepth 20000 in
theorem ja_law_1021 : jv_at jm_law.2.2.2.2.2.2 1021 = some (.iconst 1, 1, 0, 0, 0, 0, 1) := rfl
set_option maxRecDepth 20000 in
theorem ja_law_1022 : jv_at jm_law.2.2.2.2.2.2 1022 = some (.iadd, 1, 0, 0, 0, 0, 0) := rfl
set_option maxRecDepth 20000 in
theorem ja_law_1023 : jv_at jm_law.2.2.2.2.2.2 1023 = some (.iaload, 1, 0, 0, 0, 0, 0) := rfl
set_option maxRecDepth 20000 in
theorem ja_law_1024 : jv_at jm_law.2.2.2.2.2.2 1024 = some (.aload_n 0, 1, 0, 0, 0, 0, 0) := rfl
set_option maxRecDepth 20000 in
theorem ja_law_1025 : jv_at jm_law.2.2.2.2.2.2 1025 = some (.iload_n 3, 1, 0, 0, 0, 0, 0) := rfl
set_option maxRecDepth 20000 in
theorem ja_law_1026 : jv_at jm_law.2.2.2.2.2.2 1026 = some (.iconst 2, 1, 0, 0, 0, 0, 2) := rfl
set_option maxRecDepth 20000 in
theorem ja_law_1027 : jv_at jm_law.2.2.2.2.2.2 1027 = some (.iadd, 1, 0, 0, 0, 0, 0) := rfl
set_option maxRecDepth 20000 in
theorem ja_law_1028 : jv_at jm_law.2.2.2.2.2.2 1028 = some (.iaload, 1, 0, 0, 0, 0, 0) := rfl
set_option maxRecDepth 20000 in
theorem ja_law_1029 : jv_at jm_law.2.2.2.2.2.2 1029 = some (.aload_n 0, 1, 0, 0, 0, 0, 0) := rfl
set_option maxRecDepth 20000 in
theorem ja_law_1030 : jv_at jm_law.2.2.2.2.2.2 1030 = some (.iload_n 3, 1, 0, 0, 0, 0, 0) := rfl
set_option maxRecDepth 20000 in
theorem ja_law_1031 : jv_at jm_law.2.2.2.2.2.2 1031 = some (.iconst 3, 1, 0, 0, 0, 0, 3) := rfl
set_option maxRecDepth 20000 in
theorem ja_law_1032 : jv_at jm_law.2.2.2.2.2.2 1032 = some (.iadd, 1, 0, 0, 0, 0, 0) := rfl
set_option maxRecDepth 20000 in
theorem ja_law_1033 : jv_at jm_law.2.2.2.2.2.2 1033 = some (.iaload, 1, 0, 0, 0, 0, 0) := rfl
set_option maxRecDepth 20000 in
theorem ja_law_1034 : jv_at jm_law.2.2.2.2.2.2 1034 = some (.invokevirtual 128, 3, 106, 0, 828, 11, 3) := rfl
set_option maxRecDepth 20000 in
theorem ja_law_1037 : jv_at jm_law.2.2.2.2.2.2 1037 = some (.pop, 1, 0, 0, 0, 0, 0) := rfl
set_option maxRecDepth 20000 in
theorem ja_law_1038 : jv_at jm_law.2.2.2.2.2.2 1038 = some (.aload_n 2, 1, 0, 0, 0, 0, 0) := rfl
set_option maxRecDepth 20000 in
theorem ja_law_1039 : jv_at jm_law.2.2.2.2.2.2 1039 = some (.aload_n 0, 1, 0, 0, 0, 0, 0) := rfl
set_option maxRecDepth 20000 in
theorem ja_law_1040 : jv_at jm_law.2.2.2.2.2.2 1040 = some (.iload_n 3, 1, 0, 0, 0, 0, 0) := rfl
set_option maxRecDepth 20000 in
theorem ja_law_1041 : jv_at jm_law.2.2.2.2.2.2 1041 = some (.iconst 1, 1, 0, 0, 0, 0, 1) := rfl
set_option maxRecDepth 20000 in
theorem ja_law_1042 : jv_at jm_law.2.2.2.2.2.2 1042 = some (.iadd, 1, 0, 0, 0, 0, 0) := rfl
set_option maxRecDepth 20000 in
theorem ja_law_1043 : jv_at jm_law.2.2.2.2.2.2 1043 = some (.iaload, 1, 0, 0, 0, 0, 0) := rfl
set_option maxRecDepth 20000 in
theorem ja_law_1044 : jv_at jm_law.2.2.2.2.2.2 1044 = some (.aload_n 0, 1, 0, 0, 0, 0, 0) := rfl
set_option maxRecDepth 20000 in
theorem ja_law_1045 : jv_at jm_law.2.2.2.2.2.2 1045 = some (.iload_n 3, 1, 0, 0, 0, 0, 0) := rfl
set_option maxRecDepth 20000 in
theorem ja_law_1046 : jv_at jm_law.2.2.2.2.2.2 1046 = some (.iconst 2, 1, 0, 0, 0, 0, 2) := rfl
set_option maxRecDepth 20000 in
theorem ja_law_1047 : jv_at jm_law.2.2.2.2.2.2 1047 = some (.iadd, 1, 0, 0, 0, 0, 0) := rfl
set_option maxRecDepth 20000 in
theorem ja_law_1048 : jv_at jm_law.2.2.2.2.2.2 1048 = some (.iaload, 1, 0, 0, 0, 0, 0) := rfl
set_option maxRecDepth 20000 in
theorem ja_law_1049 : jv_at jm_law.2.2.2.2.2.2 1049 = some (.aload_n 0, 1, 0, 0, 0, 0, 0) := rfl
set_option maxRecDepth 20000 in
theorem ja_law_1050 : jv_at jm_law.2.2.2.2.2.2 1050 = some (.iload_n 3, 1, 0, 0, 0, 0, 0) := rfl
set_option maxRecDepth 20000 in
theorem ja_law_1051 : jv_at jm_law.2.2.2.2.2.2 1051 = some (.iconst 3, 1, 0, 0, 0, 0, 3) := rfl
set_option maxRecDepth 20000 in
theorem ja_law_1052 : jv_at jm_law.2.2.2.2.2.2 1052 = some (.iadd, 1, 0, 0, 0, 0, 0) := rfl
set_option maxRecDepth 20000 in
theorem ja_law_1053 : jv_at jm_law.2.2.2.2.2.2 1053 = some (.iaload, 1, 0, 0, 0, 0, 0) := rfl
set_option maxRecDepth 20000 in
theorem ja_law_1054 : jv_at jm_law.2.2.2.2.2.2 1054 = some (.invokevirtual 131, 3, 205, 0, 1406, 12, 3) := rfl
set_option maxRecDepth 20000 in
theorem ja_law_1057 : jv_at jm_law.2.2.2.2.2.2 1057 = some (.pop, 1, 0, 0, 0, 0, 0) := rfl
set_option maxRecDepth 20000 in
theorem ja_law_1058 : jv_at jm_law.2.2.2.2.2.2 1058 = some (.goto 300, 3, 1358, 0, 0, 0, 0) := rfl
set_option maxRecDepth 20000 in
theorem ja_law_1061 : jv_at jm_law.2.2.2.2.2.2 1061 = some (.aload_n 1, 1, 0, 0, 0, 0, 0) := rfl
set_option maxRecDepth 20000 in
theorem ja_law_1062 : jv_at jm_law.2.2.2.2.2.2 1062 = some (.aload_n 0, 1, 0, 0, 0, 0, 0) := rfl
set_option maxRecDepth 20000 in
theorem ja_law_1063 : jv_at jm_law.2.2.2.2.2.2 1063 = some (.iload_n 3, 1, 0, 0, 0, 0, 0) := rfl
set_option maxRecDepth 20000 in
theorem ja_law_1064 : jv_at jm_law.2.2.2.2.2.2 1064 = some (.iconst 1, 1, 0, 0, 0, 0, 1) := rfl
set_option maxRecDepth 20000 in
theorem ja_law_1065 : jv_at jm_law.2.2.2.2.2.2 1065 = some (.iadd, 1, 0, 0, 0, 0, 0) := rfl
set_option maxRecDepth 20000 in
theorem ja_law_1066 : jv_at jm_law.2.2.2.2.2.2 1066 = some (.iaload, 1, 0, 0, 0, 0, 0) := rfl
set_option maxRecDepth 20000 in
theorem ja_law_1067 : jv_at jm_law.2.2.2.2.2.2 1067 = some (.aload_n 0, 1, 0, 0, 0, 0, 0) := rfl
set_option maxRecDepth 20000 in
theorem ja_law_1068 : jv_at jm_law.2.2.2.2.2.2 1068 = some (.iload_n 3, 1, 0, 0, 0, 0, 0) := rfl
set_option maxRecDepth 20000 in
theorem ja_law_1069 : jv_at jm_law.2.2.2.2.2.2 1069 = some (.iconst 2, 1, 0, 0, 0, 0, 2) := rfl
set_option maxRecDepth 20000 in
theorem ja_law_1070 : jv_at jm_law.2.2.2.2.2.2 1070 = some (.iadd, 1, 0, 0, 0, 0, 0) := rfl
set_option maxRecDepth 20000 in
theorem ja_law_1071 : jv_at jm_law.2.2.2.2.2.2 1071 = some (.iaload, 1, 0, 0, 0, 0, 0) := rfl
set_option maxRecDepth 20000 in
theorem ja_law_1072 : jv_at jm_law.2.2.2.2.2.2 1072 = some (.invokevirtual 132, 3, 107, 0, 832, 11, 2) := rfl
set_option maxRecDepth 20000 in
theorem ja_law_1075 : jv_at jm_law.2.2.2.2.2.2 1075 = some (.pop2, 1, 0, 0, 0, 0, 0) := rfl
set_option maxRecDepth 20000 in
theorem ja_law_1076 : jv_at jm_law.2.2.2.2.2.2 1076 = some (.aload_n 2, 1, 0, 0, 0, 0, 0) := rfl
set_option maxRecDepth 20000 in
theorem ja_law_1077 : jv_at jm_law.2.2.2.2.2.2 1077 = some (.aload_n 0, 1, 0, 0, 0, 0, 0) := rfl
set_option maxRecDepth 20000 in
theorem ja_law_1078 : jv_at jm_law.2.2.2.2.2.2 1078 = some (.iload_n 3, 1, 0, 0, 0, 0, 0) := rfl
set_option maxRecDepth 20000 in
theorem ja_law_1079 : jv_at jm_law.2.2.2.2.2.2 1079 = some (.iconst 1, 1, 0, 0, 0, 0, 1) := rfl
set_option maxRecDepth 20000 in
theorem ja_law_1080 : jv_at jm_law.2.2.2.2.2.2 1080 = some (.iadd, 1, 0, 0, 0, 0, 0) := rfl
set_option maxRecDepth 20000 in
theorem ja_law_1081 : jv_at jm_law.2.2.2.2.2.2 1081 = some (.iaload, 1, 0, 0, 0, 0, 0) := rfl
set_option maxRecDepth 20000 in
theorem ja_law_1082 : jv_at jm_law.2.2.2.2.2.2 1082 = some (.aload_n 0, 1, 0, 0, 0, 0, 0) := rfl
set_option maxRecDepth 20000 in
theorem ja_law_1083 : jv_at jm_law.2.2.2.2.2.2 1083 = some (.iload_n 3, 1, 0, 0, 0, 0, 0) := rfl
set_option maxRecDepth 20000 in
theorem ja_law_1084 : jv_at jm_law.2.2.2.2.2.2 1084 = some (.iconst 2, 1, 0, 0, 0, 0, 2) := rfl
set_option maxRecDepth 20000 in
theorem ja_law_1085 : jv_at jm_law.2.2.2.2.2.2 1085 = some (.iadd, 1, 0, 0, 0, 0, 0) := rfl
set_option maxRecDepth 20000 in
theorem ja_law_1086 : jv_at jm_law.2.2.2.2.2.2 1086 = some (.iaload, 1, 0, 0, 0, 0, 0) := rfl
set_option maxRecDepth 20000 in
theorem ja_law_1087 : jv_at jm_law.2.2.2.2.2.2 1087 = some (.invokevirtual 135, 3, 206, 0, 1410, 12, 2) := rfl
set_option maxRecDepth 20000 in
theorem ja_law_1090 : jv_at jm_law.2.2.2.2.2.2 1090 = some (.pop2, 1, 0, 0, 0, 0, 0) := rfl
set_option maxRecDepth 20000 in
theorem ja_law_1091 : jv_at jm_law.2.2.2.2.2.2 1091 = some (.goto 267, 3, 1358, 0, 0, 0, 0) := rfl
set_option maxRecDepth 20000 in
theorem ja_law_1094 : jv_at jm_law.2.2.2.2.2.2 1094 = some (.aload_n 1, 1, 0, 0, 0, 0, 0) := rfl
set_option maxRecDepth 20000 in
theorem ja_law_1095 : jv_at jm_law.2.2.2.2.2.2 1095 = some (.aload_n 0, 1, 0, 0, 0, 0, 0) := rfl
set_option maxRecDepth 20000 in
theorem ja_law_1096 : jv_at jm_law.2.2.2.2.2.2 1096 = some (.iload_n 3, 1, 0, 0, 0, 0, 0) := rfl
set_option maxRecDepth 20000 in
theorem ja_law_1097 : jv_at jm_law.2.2.2.2.2.2 1097 = some (.iconst 1, 1, 0, 0, 0, 0, 1) := rfl
set_option maxRecDepth 20000 in
theorem ja_law_1098 : jv_at jm_law.2.2.2.2.2.2 1098 = some (.iadd, 1, 0, 0, 0, 0, 0) := rfl
set_option maxRecDepth 20000 in
theorem ja_law_1099 : jv_at jm_law.2.2.2.2.2.2 1099 = some (.iaload, 1, 0, 0, 0, 0, 0) := rfl
set_option maxRecDepth 20000 in
theorem ja_law_1100 : jv_at jm_law.2.2.2.2.2.2 1100 = some (.invokevirtual 136, 3, 114, 0, 863, 11, 1) := rfl
set_option maxRecDepth 20000 in
theorem ja_law_1103 : jv_at jm_law.2.2.2.2.2.2 1103 = some (.pop, 1, 0, 0, 0, 0, 0) := rfl
set_option maxRecDepth 20000 in
theorem ja_law_1104 : jv_at jm_law.2.2.2.2.2.2 1104 = some (.aload_n 2, 1, 0, 0, 0, 0, 0) := rfl
set_option maxRecDepth 20000 in
theorem ja_law_1105 : jv_at jm_law.2.2.2.2.2.2 1105 = some (.aload_n 0, 1, 0, 0, 0, 0, 0) := rfl
set_option maxRecDepth 20000 in
theorem ja_law_1106 : jv_at jm_law.2.2.2.2.2.2 1106 = some (.iload_n 3, 1, 0, 0, 0, 0, 0) := rfl
set_option maxRecDepth 20000 in
theorem ja_law_1107 : jv_at jm_law.2.2.2.2.2.2 1107 = some (.iconst 1, 1, 0, 0, 0, 0, 1) := rfl
set_option maxRecDepth 20000 in
theorem ja_law_1108 : jv_at jm_law.2.2.2.2.2.2 1108 = some (.iadd, 1, 0, 0, 0, 0, 0) := rfl
set_option maxRecDepth 20000 in
theorem ja_law_1109 : jv_at jm_law.2.2.2.2.2.2 1109 = some (.iaload, 1, 0, 0, 0, 0, 0) := rfl
set_option maxRecDepth 20000 in
theorem ja_law_1110 : jv_at jm_law.2.2.2.2.2.2 1110 = some (.invokevirtual 139, 3, 209, 0, 1422, 12, 1) := rfl
set_option maxRecDepth 20000 in
theorem ja_law_1113 : jv_at jm_law.2.2.2.2.2.2 1113 = some (.pop, 1, 0, 0, 0, 0, 0) := rfl
set_option maxRecDepth 20000 in
theorem ja_law_1114 : jv_at jm_law.2.2.2.2.2.2 1114 = some (.goto 244, 3, 1358, 0, 0, 0, 0) := rfl
set_option maxRecDepth 20000 in
theorem ja_law_1117 : jv_at jm_law.2.2.2.2.2.2 1117 = some (.aload_n 1, 1, 0, 0, 0, 0, 0) := rfl
set_option maxRecDepth 20000 in
theorem ja_law_1118 : jv_at jm_law.2.2.2.2.2.2 1118 = some (.aload_n 0, 1, 0, 0, 0, 0, 0) := rfl
set_option maxRecDepth 20000 in
theorem ja_law_1119 : jv_at jm_law.2.2.2.2.2.2 1119 = some (.iload_n 3, 1, 0, 0, 0, 0, 0) := rfl
set_option maxRecDepth 20000 in
theorem ja_law_1120 : jv_at jm_law.2.2.2.2.2.2 1120 = some (.iconst 1, 1, 0, 0, 0, 0, 1) := rfl
set_option maxRecDepth 20000 in
theorem ja_law_1121 : jv_at jm_law.2.2.2.2.2.2 1121 = some (.iadd, 1, 0, 0, 0, 0, 0) := rfl
set_option maxRecDepth 20000 in
theorem ja_law_1122 : jv_at jm_law.2.2.2.2.2.2 1122 = some (.iaload, 1, 0, 0, 0, 0, 0) := rfl
set_option maxRecDepth 20000 in
theorem ja_law_1123 : jv_at jm_law.2.2.2.2.2.2 1123 = some (.aload_n 0, 1, 0, 0, 0, 0, 0) := rfl
set_option maxRecDepth 20000 in
theorem ja_law_1124 : jv_at jm_law.2.2.2.2.2.2 1124 = some (.iload_n 3, 1, 0, 0, 0, 0, 0) := rfl
set_option maxRecDepth 20000 in
theorem ja_law_1125 : jv_at jm_law.2.2.2.2.2.2 1125 = some (.iconst 2, 1, 0, 0, 0, 0, 2) := rfl
set_option maxRecDepth 20000 in
theorem ja_law_1126 : jv_at jm_law.2.2.2.2.2.2 1126 = some (.iadd, 1, 0, 0, 0, 0, 0) := rfl
set_option maxRecDepth 20000 in
theorem ja_law_1127 : jv_at jm_law.2.2.2.2.2.2 1127 = some (.iaload, 1, 0, 0, 0, 0, 0) := rfl
set_option maxRecDepth 20000 in
theorem ja_law_1128 : jv_at jm_law.2.2.2.2.2.2 1128 = some (.invokevirtual 140, 3, 117, 0, 874, 11, 2) := rfl
set_option maxRecDepth 20000 in
theorem ja_law_1131 : jv_at jm_law.2.2.2.2.2.2 1131 = some (.pop, 1, 0, 0, 0, 0, 0) := rfl
set_option maxRecDepth 20000 in
theorem ja_law_1132 : jv_at jm_law.2.2.2.2.2.2 1132 = some (.aload_n 2, 1, 0, 0, 0, 0, 0) := rfl
set_option maxRecDepth 20000 in
theorem ja_law_1133 : jv_at jm_law.2.2.2.2.2.2 1133 = some (.aload_n 0, 1, 0, 0, 0, 0, 0) := rfl
set_option maxRecDepth 20000 in
theorem ja_law_1134 : jv_at jm_law.2.2.2.2.2.2 1134 = some (.iload_n 3, 1, 0, 0, 0, 0, 0) := rfl
set_option maxRecDepth 20000 in
theorem ja_law_1135 : jv_at jm_law.2.2.2.2.2.2 1135 = some (.iconst 1, 1, 0, 0, 0, 0, 1) := rfl
set_option maxRecDepth 20000 in
theorem ja_law_1136 : jv_at jm_law.2.2.2.2.2.2 1136 = some (.iadd, 1, 0, 0, 0, 0, 0) := rfl
set_option maxRecDepth 20000 in
theorem ja_law_1137 : jv_at jm_law.2.2.2.2.2.2 1137 = some (.iaload, 1, 0, 0, 0, 0, 0) := rfl
set_option maxRecDepth 20000 in
theorem ja_law_1138 : jv_at jm_law.2.2.2.2.2.2 1138 = some (.aload_n 0, 1, 0, 0, 0, 0, 0) := rfl
set_option maxRecDepth 20000 in
theorem ja_law_1139 : jv_at jm_law.2.2.2.2.2.2 1139 = some (.iload_n 3, 1, 0, 0, 0, 0, 0) := rfl
set_option maxRecDepth 20000 in
theorem ja_law_1140 : jv_at jm_law.2.2.2.2.2.2 1140 = some (.iconst 2, 1, 0, 0, 0, 0, 2) := rfl
set_option maxRecDepth 20000 in
theorem ja_law_1141 : jv_at jm_law.2.2.2.2.2.2 1141 = some (.iadd, 1, 0, 0, 0, 0, 0) := rfl
set_option maxRecDepth 20000 in
theorem ja_law_1142 : jv_at jm_law.2.2.2.2.2.2 1142 = some (.iaload, 1, 0, 0, 0, 0, 0) := rfl
set_option maxRecDepth 20000 in
theorem ja_law_1143 : jv_at jm_law.2.2.2.2.2.2 1143 = some (.invokevirtual 143, 3, 210, 0, 1426, 12, 2) := rfl
set_option maxRecDepth 20000 in
theorem ja_law_1146 : jv_at jm_law.2.2.2.2.2.2 1146 = some (.pop, 1, 0, 0, 0, 0, 0) := rfl
set_option maxRecDepth 20000 in
theorem ja_law_1147 : jv_at jm_law.2.2.2.2.2.2 1147 = some (.goto 211, 3, 1358, 0, 0, 0, 0) := rfl
set_option maxRecDepth 20000 in
theorem ja_law_1150 : jv_at jm_law.2.2.2.2.2.2 1150 = some (.aload_n 1, 1, 0, 0, 0, 0, 0) := rfl
set_option maxRecDepth 20000 in
theorem ja_law_1151 : jv_at jm_law.2.2.2.2.2.2 1151 = some (.aload_n 0, 1, 0, 0, 0, 0, 0) := rfl
set_option maxRecDepth 20000 in
theorem ja_law_1152 : jv_at jm_law.2.2.2.2.2.2 1152 = some (.iload_n 3, 1, 0, 0, 0, 0, 0) := rfl
set_option maxRecDepth 20000 in
theorem ja_law_1153 : jv_at jm_law.2.2.2.2.2.2 1153 = some (.iconst 1, 1, 0, 0, 0, 0, 1) := rfl
set_option maxRecDepth 20000 in
theorem ja_law_1154 : jv_at jm_law.2.2.2.2.2.2 1154 = some (.iadd, 1, 0, 0, 0, 0, 0) := rfl
set_option maxRecDepth 20000 in
theorem ja_law_1155 : jv_at jm_law.2.2.2.2.2.2 1155 = some (.iaload, 1, 0, 0, 0, 0, 0) := rfl
set_option maxRecDepth 20000 in
theorem ja_law_1156 : jv_at jm_law.2.2.2.2.2.2 1156 = some (.aload_n 0, 1, 0, 0, 0, 0, 0) := rfl
set_option maxRecDepth 20000 in
theorem ja_law_1157 : jv_at jm_law.2.2.2.2.2.2 1157 = some (.iload_n 3, 1, 0, 0, 0, 0, 0) := rfl
set_option maxRecDepth 20000 in
theorem ja_law_1158 : jv_at jm_law.2.2.2.2.2.2 1158 = some (.iconst 2, 1, 0, 0, 0, 0, 2) := rfl
set_option maxRecDepth 20000 in
theorem ja_law_1159 : jv_at jm_law.2.2.2.2.2.2 1159 = some (.iadd, 1, 0, 0, 0, 0, 0) := rfl
set_option maxRecDepth 20000 in
theorem ja_law_1160 : jv_at jm_law.2.2.2.2.2.2 1160 = some (.iaload, 1, 0, 0, 0, 0, 0) := rfl
set_option maxRecDepth 20000 in
theorem ja_law_1161 : jv_at jm_law.2.2.2.2.2.2 1161 = some (.aload_n 0, 1, 0, 0, 0, 0, 0) := rfl
set_option maxRecDepth 20000 in
theorem ja_law_1162 : jv_at jm_law.2.2.2.2.2.2 1162 = some (.iload_n 3, 1, 0, 0, 0, 0, 0) := rfl
set_option maxRecDepth 20000 in
theorem ja_law_1163 : jv_at jm_law.2.2.2.2.2.2 1163 = some (.iconst 3, 1, 0, 0, 0, 0, 3) := rfl
set_option maxRecDepth 20000 in
theorem ja_law_1164 : jv_at jm_law.2.2.2.2.2.2 1164 = some (.iadd, 1, 0, 0, 0, 0, 0) := rfl
set_option maxRecDepth 20000 in
theorem ja_law_1165 : jv_at jm_law.2.2.2.2.2.2 1165 = some (.iaload, 1, 0, 0, 0, 0, 0) := rfl
set_option maxRecDepth 20000 in
theorem ja_law_1166 : jv_at jm_law.2.2.2.2.2.2 1166 = some (.invokevirtual 144, 3, 122, 0, 897, 11, 3) := rfl
set_option maxRecDepth 20000 in
theorem ja_law_1169 : jv_at jm_law.2.2.2.2.2.2 1169 = some (.pop, 1, 0, 0, 0, 0, 0) := rfl
set_option maxRecDepth 20000 in
theorem ja_law_1170 : jv_at jm_law.2.2.2.2.2.2 1170 = some (.aload_n 2, 1, 0, 0, 0, 0, 0) := rfl
set_option maxRecDepth 20000 in
theorem ja_law_1171 : jv_at jm_law.2.2.2.2.2.2 1171 = some (.aload_n 0, 1, 0, 0, 0, 0, 0) := rfl
set_option maxRecDepth 20000 in
theorem ja_law_1172 : jv_at jm_law.2.2.2.2.2.2 1172 = some (.iload_n 3, 1, 0, 0, 0, 0, 0) := rfl
set_option maxRecDepth 20000 in
theorem ja_law_1173 : jv_at jm_law.2.2.2.2.2.2 1173 = some (.iconst 1, 1, 0, 0, 0, 0, 1) := rfl
set_option maxRecDepth 20000 in
theorem ja_law_1174 : jv_at jm_law.2.2.2.2.2.2 1174 = some (.iadd, 1, 0, 0, 0, 0, 0) := rfl
set_option maxRecDepth 20000 in
theorem ja_law_1175 : jv_at jm_law.2.2.2.2.2.2 1175 = some (.iaload, 1, 0, 0, 0, 0, 0) := rfl
set_option maxRecDepth 20000 in
theorem ja_law_1176 : jv_at jm_law.2.2.2.2.2.2 1176 = some (.aload_n 0, 1, 0, 0, 0, 0, 0) := rfl
set_option maxRecDepth 20000 in
theorem ja_law_1177 : jv_at jm_law.2.2.2.2.2.2 1177 = some (.iload_n 3, 1, 0, 0, 0, 0, 0) := rfl
set_option maxRecDepth 20000 in
theorem ja_law_1178 : jv_at jm_law.2.2.2.2.2.2 1178 = some (.iconst 2, 1, 0, 0, 0, 0, 2) := rfl
set_option maxRecDepth 20000 in
theorem ja_law_1179 : jv_at jm_law.2.2.2.2.2.2 1179 = some (.iadd, 1, 0, 0, 0, 0, 0) := rfl
set_option maxRecDepth 20000 in
theorem ja_law_1180 : jv_at jm_law.2.2.2.2.2.2 1180 = some (.iaload, 1, 0, 0, 0, 0, 0) := rfl
set_option maxRecDepth 20000 in
theorem ja_law_1181 : jv_at jm_law.2.2.2.2.2.2 1181 = some (.aload_n 0, 1, 0, 0, 0, 0, 0) := rfl
set_option maxRecDepth 20000 in
theorem ja_law_1182 : jv_at jm_law.2.2.2.2.2.2 1182 = some (.iload_n 3, 1, 0, 0, 0, 0, 0) := rfl
set_option maxRecDepth 20000 in
theorem ja_law_1183 : jv_at jm_law.2.2.2.2.2.2 1183 = some (.iconst 3, 1, 0, 0, 0, 0, 3) := rfl
set_option maxRecDepth 20000 in
theorem ja_law_1184 : jv_at jm_law.2.2.2.2.2.2 1184 = some (.iadd, 1, 0, 0, 0, 0, 0) := rfl
set_option maxRecDepth 20000 in
theorem ja_law_1185 : jv_at jm_law.2.2.2.2.2.2 1185 = some (.iaload, 1, 0, 0, 0, 0, 0) := rfl
set_option maxRecDepth 20000 in
theorem ja_law_1186 : jv_at jm_law.2.2.2.2.2.2 1186 = some (.invokevirtual 147, 3, 212, 0, 1434, 12, 3) := rfl
set_option maxRecDepth 20000 in
theorem ja_law_1189 : jv_at jm_law.2.2.2.2.2.2 1189 = some (.pop, 1, 0, 0, 0, 0, 0) := rfl
set_option maxRecDepth 20000 in
theorem ja_law_1190 : jv_at jm_law.2.2.2.2.2.2 1190 = some (.goto 168, 3, 1358, 0, 0, 0, 0) := rfl
set_option maxRecDepth 20000 in
theorem ja_law_1193 : jv_at jm_law.2.2.2.2.2.2 1193 = some (.aload_n 1, 1, 0, 0, 0, 0, 0) := rfl
set_option maxRecDepth 20000 in
theorem ja_law_1194 : jv_at jm_law.2.2.2.2.2.2 1194 = some (.aload_n 0, 1, 0, 0, 0, 0, 0) := rfl
set_option maxRecDepth 20000 in
theorem ja_law_1195 : jv_at jm_law.2.2.2.2.2.2 1195 = some (.iload_n 3, 1, 0, 0, 0, 0, 0) := rfl
set_option maxRecDepth 20000 in
theorem ja_law_1196 : jv_at jm_law.2.2.2.2.2.2 1196 = some (.iconst 1, 1, 0, 0, 0, 0, 1) := rfl
set_option maxRecDepth 20000 in
theorem ja_law_1197 : jv_at jm_law.2.2.2.2.2.2 1197 = some (.iadd, 1, 0, 0, 0, 0, 0) := rfl
set_option maxRecDepth 20000 in
theorem ja_law_1198 : jv_at jm_law.2.2.2.2.2.2 1198 = some (.iaload, 1, 0, 0, 0, 0, 0) := rfl
set_option maxRecDepth 20000 in
theorem ja_law_1199 : jv_at jm_law.2.2.2.2.2.2 1199 = some (.invokevirtual 148, 3, 123, 0, 901, 11, 1) := rfl
set_option maxRecDepth 20000 in
theorem ja_law_1202 : jv_at jm_law.2.2.2.2.2.2 1202 = some (.pop, 1, 0, 0, 0, 0, 0) := rfl
set_option maxRecDepth 20000 in
theorem ja_law_1203 : jv_at jm_law.2.2.2.2.2.2 1203 = some (.aload_n 2, 1, 0, 0, 0, 0, 0) := rfl
set_option maxRecDepth 20000 in
theorem ja_law_1204 : jv_at jm_law.2.2.2.2.2.2 1204 = some (.aload_n 0, 1, 0, 0, 0, 0, 0) := rfl
set_option maxRecDepth 20000 in
theorem ja_law_1205 : jv_at jm_law.2.2.2.2.2.2 1205 = some (.iload_n 3, 1, 0, 0, 0, 0, 0) := rfl
set_option maxRecDepth 20000 in
theorem ja_law_1206 : jv_at jm_law.2.2.2.2.2.2 1206 = some (.iconst 1, 1, 0, 0, 0, 0, 1) := rfl
set_option maxRecDepth 20000 in
theorem ja_law_1207 : jv_at jm_law.2.2.2.2.2.2 1207 = some (.iadd, 1, 0, 0, 0, 0, 0) := rfl
set_option maxRecDepth 20000 in
theorem ja_law_1208 : jv_at jm_law.2.2.2.2.2.2 1208 = some (.iaload, 1, 0, 0, 0, 0, 0) := rfl
set_option maxRecDepth 20000 in
theorem ja_law_1209 : jv_at jm_law.2.2.2.2.2.2 1209 = some (.invokevirtual 151, 3, 214, 0, 1442, 12, 1) := rfl
set_option maxRecDepth 20000 in
theorem ja_law_1212 : jv_at jm_law.2.2.2.2.2.2 1212 = some (.pop, 1, 0, 0, 0, 0, 0) := rfl
set_option maxRecDepth 20000 in
theorem ja_law_1213 : jv_at jm_law.2.2.2.2.2.2 1213 = some (.goto 145, 3, 1358, 0, 0, 0, 0) := rfl
set_option maxRecDepth 20000 in
theorem ja_law_1216 : jv_at jm_law.2.2.2.2.2.2 1216 = some (.aload_n 1, 1, 0, 0, 0, 0, 0) := rfl
set_option maxRecDepth 20000 in
theorem ja_law_1217 : jv_at jm_law.2.2.2.2.2.2 1217 = some (.aload_n 0, 1, 0, 0, 0, 0, 0) := rfl
set_option maxRecDepth 20000 in
theorem ja_law_1218 : jv_at jm_law.2.2.2.2.2.2 1218 = some (.iload_n 3, 1, 0, 0, 0, 0, 0) := rfl
set_option maxRecDepth 20000 in
theorem ja_law_1219 : jv_at jm_law.2.2.2.2.2.2 1219 = some (.iconst 1, 1, 0, 0, 0, 0, 1) := rfl
set_option maxRecDepth 20000 in
theorem ja_law_1220 : jv_at jm_law.2.2.2.2.2.2 1220 = some (.iadd, 1, 0, 0, 0, 0, 0) := rfl
set_option maxRecDepth 20000 in
theorem ja_law_1221 : jv_at jm_law.2.2.2.2.2.2 1221 = some (.iaload, 1, 0, 0, 0, 0, 0) := rfl
set_option maxRecDepth 20000 in
theorem ja_law_1222 : jv_at jm_law.2.2.2.2.2.2 1222 = some (.aload_n 0, 1, 0, 0, 0, 0, 0) := rfl
set_option maxRecDepth 20000 in
theorem ja_law_1223 : jv_at jm_law.2.2.2.2.2.2 1223 = some (.iload_n 3, 1, 0, 0, 0, 0, 0) := rfl
set_option maxRecDepth 20000 in
theorem ja_law_1224 : jv_at jm_law.2.2.2.2.2.2 1224 = some (.iconst 2, 1, 0, 0, 0, 0, 2) := rfl
set_option maxRecDepth 20000 in
theorem ja_law_1225 : jv_at jm_law.2.2.2.2.2.2 1225 = some (.iadd, 1, 0, 0, 0, 0, 0) := rfl
set_option maxRecDepth 20000 in
theorem ja_law_1226 : jv_at jm_law.2.2.2.2.2.2 1226 = some (.iaload, 1, 0, 0, 0, 0, 0) := rfl
set_option maxRecDepth 20000 in
theorem ja_law_1227 : jv_at jm_law.2.2.2.2.2.2 1227 = some (.invokevirtual 152, 3, 124, 0, 905, 11, 2) := rfl
set_option maxRecDepth 20000 in
theorem ja_law_1230 : jv_at jm_law.2.2.2.2.2.2 1230 = some (.pop, 1, 0, 0, 0, 0, 0) := rfl
set_option maxRecDepth 20000 in
theorem ja_law_1231 : jv_at jm_law.2.2.2.2.2.2 1231 = some (.aload_n 2, 1, 0, 0, 0, 0, 0) := rfl
set_option maxRecDepth 20000 in
theorem ja_law_1232 : jv_at jm_law.2.2.2.2.2.2 1232 = some (.aload_n 0, 1, 0, 0, 0, 0, 0) := rfl
set_option maxRecDepth 20000 in
theorem ja_law_1233 : jv_at jm_law.2.2.2.2.2.2 1233 = some (.iload_n 3, 1, 0, 0, 0, 0, 0) := rfl
set_option maxRecDepth 20000 in
theorem ja_law_1234 : jv_at jm_law.2.2.2.2.2.2 1234 = some (.iconst 1, 1, 0, 0, 0, 0, 1) := rfl
set_option maxRecDepth 20000 in
theorem ja_law_1235 : jv_at jm_law.2.2.2.2.2.2 1235 = some (.iadd, 1, 0, 0, 0, 0, 0) := rfl
set_option maxRecDepth 20000 in
theorem ja_law_1236 : jv_at jm_law.2.2.2.2.2.2 1236 = some (.iaload, 1, 0, 0, 0, 0, 0) := rfl
set_option maxRecDepth 20000 in
theorem ja_law_1237 : jv_at jm_law.2.2.2.2.2.2 1237 = some (.aload_n 0, 1, 0, 0, 0, 0, 0) := rfl
set_option maxRecDepth 20000 in
theorem ja_law_1238 : jv_at jm_law.2.2.2.2.2.2 1238 = some (.iload_n 3, 1, 0, 0, 0, 0, 0) := rfl
set_option maxRecDepth 20000 in
theorem ja_law_1239 : jv_at jm_law.2.2.2.2.2.2 1239 = some (.iconst 2, 1, 0, 0, 0, 0, 2) := rfl
set_option maxRecDepth 20000 in
theorem ja_law_1240 : jv_at jm_law.2.2.2.2.2.2 1240 = some (.iadd, 1, 0, 0, 0, 0, 0) := rfl
set_option maxRecDepth 20000 in
theorem ja_law_1241 : jv_at jm_law.2.2.2.2.2.2 1241 = some (.iaload, 1, 0, 0, 0, 0, 0) := rfl
set_option maxRecDepth 20000 in
theorem ja_law_1242 : jv_at jm_law.2.2.2.2.2.2 1242 = some (.invokevirtual 155, 3, 215, 0, 1446, 12, 2) := rfl
set_option maxRecDepth 20000 in
theorem ja_law_1245 : jv_at jm_law.2.2.2.2.2.2 1245 = some (.pop, 1, 0, 0, 0, 0, 0) := rfl
set_option maxRecDepth 20000 in
theorem ja_law_1246 : jv_at jm_law.2.2.2.2.2.2 1246 = some (.goto 112, 3, 1358, 0, 0, 0, 0) := rfl
set_option maxRecDepth 20000 in
theorem ja_law_1249 : jv_at jm_law.2.2.2.2.2.2 1249 = some (.aload_n 1, 1, 0, 0, 0, 0, 0) := rfl
set_option maxRecDepth 20000 in
theorem ja_law_1250 : jv_at jm_law.2.2.2.2.2.2 1250 = some (.aload_n 0, 1, 0, 0, 0, 0, 0) := rfl
set_option maxRecDepth 20000 in
theorem ja_law_1251 : jv_at jm_law.2.2.2.2.2.2 1251 = some (.iload_n 3, 1, 0, 0, 0, 0, 0) := rfl
set_option maxRecDepth 20000 in
theorem ja_law_1252 : jv_at jm_law.2.2.2.2.2.2 1252 = some (.iconst 1, 1, 0, 0, 0, 0, 1) := rfl
set_option maxRecDepth 20000 in
theorem ja_law_1253 : jv_at jm_law.2.2.2.2.2.2 1253 = some (.iadd, 1, 0, 0, 0, 0, 0) := rfl
set_option maxRecDepth 20000 in
theorem ja_law_1254 : jv_at jm_law.2.2.2.2.2.2 1254 = some (.iaload, 1, 0, 0, 0, 0, 0) := rfl
set_option maxRecDepth 20000 in
theorem ja_law_1255 : jv_at jm_law.2.2.2.2.2.2 1255 = some (.aload_n 0, 1, 0, 0, 0, 0, 0) := rfl
set_option maxRecDepth 20000 in
theorem ja_law_1256 : jv_at jm_law.2.2.2.2.2.2 1256 = some (.iload_n 3, 1, 0, 0, 0, 0, 0) := rfl
set_option maxRecDepth 20000 in
theorem ja_law_1257 : jv_at jm_law.2.2.2.2.2.2 1257 = some (.iconst 2, 1, 0, 0, 0, 0, 2) := rfl
set_option maxRecDepth 20000 in
theorem ja_law_1258 : jv_at jm_law.2.2.2.2.2.2 1258 = some (.iadd, 1, 0, 0, 0, 0, 0) := rfl
set_option maxRecDepth 20000 in
theorem ja_law_1259 : jv_at jm_law.2.2.2.2.2.2 1259 = some (.iaload, 1, 0, 0, 0, 0, 0) := rfl
set_option maxRecDepth 20000 in
theorem ja_law_1260 : jv_at jm_law.2.2.2.2.2.2 1260 = some (.aload_n 0, 1, 0, 0, 0, 0, 0) := rfl
set_option maxRecDepth 20000 in
theorem ja_law_1261 : jv_at jm_law.2.2.2.2.2.2 1261 = some (.iload_n 3, 1, 0, 0, 0, 0, 0) := rfl
set_option maxRecDepth 20000 in
theorem ja_law_1262 : jv_at jm_law.2.2.2.2.2.2 1262 = some (.iconst 3, 1, 0, 0, 0, 0, 3) := rfl
set_option maxRecDepth 20000 in
theorem ja_law_1263 : jv_at jm_law.2.2.2.2.2.2 1263 = some (.iadd, 1, 0, 0, 0, 0, 0) := rfl
set_option maxRecDepth 20000 in
theorem ja_law_1264 : jv_at jm_law.2.2.2.2.2.2 1264 = some (.iaload, 1, 0, 0, 0, 0, 0) := rfl
set_option maxRecDepth 20000 in
theorem ja_law_1265 : jv_at jm_law.2.2.2.2.2.2 1265 = some (.invokevirtual 156, 3, 127, 0, 916, 11, 3) := rfl
set_option maxRecDepth 20000 in
theorem ja_law_1268 : jv_at jm_law.2.2.2.2.2.2 1268 = some (.aload_n 2, 1, 0, 0, 0, 0, 0) := rfl
set_option maxRecDepth 20000 in
theorem ja_law_1269 : jv_at jm_law.2.2.2.2.2.2 1269 = some (.aload_n 0, 1, 0, 0, 0, 0, 0) := rfl
set_option maxRecDepth 20000 in
theorem ja_law_1270 : jv_at jm_law.2.2.2.2.2.2 1270 = some (.iload_n 3, 1, 0, 0, 0, 0, 0) := rfl
set_option maxRecDepth 20000 in
theorem ja_law_1271 : jv_at jm_law.2.2.2.2.2.2 1271 = some (.iconst 1, 1, 0, 0, 0, 0, 1) := rfl
set_option maxRecDepth 20000 in
theorem ja_law_1272 : jv_at jm_law.2.2.2.2.2.2 1272 = some (.iadd, 1, 0, 0, 0, 0, 0) := rfl
set_option maxRecDepth 20000 in
theorem ja_law_1273 : jv_at jm_law.2.2.2.2.2.2 1273 = some (.iaload, 1, 0, 0, 0, 0, 0) := rfl
set_option maxRecDepth 20000 in
theorem ja_law_1274 : jv_at jm_law.2.2.2.2.2.2 1274 = some (.aload_n 0, 1, 0, 0, 0, 0, 0) := rfl
set_option maxRecDepth 20000 in
theorem ja_law_1275 : jv_at jm_law.2.2.2.2.2.2 1275 = some (.iload_n 3, 1, 0, 0, 0, 0, 0) := rfl
set_option maxRecDepth 20000 in
theorem ja_law_1276 : jv_at jm_law.2.2.2.2.2.2 1276 = some (.iconst 2, 1, 0, 0, 0, 0, 2) := rfl
set_option maxRecDepth 20000 in
theorem ja_law_1277 : jv_at jm_law.2.2.2.2.2.2 1277 = some (.iadd, 1, 0, 0, 0, 0, 0) := rfl
set_option maxRecDepth 20000 in
theorem ja_law_1278 : jv_at jm_law.2.2.2.2.2.2 1278 = some (.iaload, 1, 0, 0, 0, 0, 0) := rfl
set_option maxRecDepth 20000 in
theorem ja_law_1279 : jv_at jm_law.2.2.2.2.2.2 1279 = some (.aload_n 0, 1, 0, 0, 0, 0, 0) := rfl
set_option maxRecDepth 20000 in
theorem ja_law_1280 : jv_at jm_law.2.2.2.2.2.2 1280 = some (.iload_n 3, 1, 0, 0, 0, 0, 0) := rfl
set_option maxRecDepth 20000 in
theorem ja_law_1281 : jv_at jm_law.2.2.2.2.2.2 1281 = some (.iconst 3, 1, 0, 0, 0, 0, 3) := rfl
set_option maxRecDepth 20000 in
theorem ja_law_1282 : jv_at jm_law.2.2.2.2.2.2 1282 = some (.iadd, 1, 0, 0, 0, 0, 0) := rfl
set_option maxRecDepth 20000 in
theorem ja_law_1283 : jv_at jm_law.2.2.2.2.2.2 1283 = some (.iaload, 1, 0, 0, 0, 0, 0) := rfl
set_option maxRecDepth 20000 in
theorem ja_law_1284 : jv_at jm_law.2.2.2.2.2.2 1284 = some (.invokevirtual 159, 3, 217, 0, 1453, 12, 3) := rfl
set_option maxRecDepth 20000 in
theorem ja_law_1287 : jv_at jm_law.2.2.2.2.2.2 1287 = some (.if_icmp .eq 71, 3, 1358, 0, 0, 0, 0) := rfl
set_option maxRecDepth 20000 in
theorem ja_law_1290 : jv_at jm_law.2.2.2.2.2.2 1290 = some (.iconst 0, 1, 0, 0, 0, 0, 0) := rfl
set_option maxRecDepth 20000 in
theorem ja_law_1291 : jv_at jm_law.2.2.2.2.2.2 1291 = some (.ireturn, 1, 0, 0, 0, 0, 0) := rfl
set_option maxRecDepth 20000 in
theorem ja_law_1292 : jv_at jm_law.2.2.2.2.2.2 1292 = some (.aload_n 1, 1, 0, 0, 0, 0, 0) := rfl
set_option maxRecDepth 20000 in
theorem ja_law_1293 : jv_at jm_law.2.2.2.2.2.2 1293 = some (.aload_n 0, 1, 0, 0, 0, 0, 0) := rfl
set_option maxRecDepth 20000 in
theorem ja_law_1294 : jv_at jm_law.2.2.2.2.2.2 1294 = some (.iload_n 3, 1, 0, 0, 0, 0, 0) := rfl
set_option maxRecDepth 20000 in
theorem ja_law_1295 : jv_at jm_law.2.2.2.2.2.2 1295 = some (.iconst 1, 1, 0, 0, 0, 0, 1) := rfl
set_option maxRecDepth 20000 in
theorem ja_law_1296 : jv_at jm_law.2.2.2.2.2.2 1296 = some (.iadd, 1, 0, 0, 0, 0, 0) := rfl
set_option maxRecDepth 20000 in
theorem ja_law_1297 : jv_at jm_law.2.2.2.2.2.2 1297 = some (.iaload, 1, 0, 0, 0, 0, 0) := rfl
set_option maxRecDepth 20000 in
theorem ja_law_1298 : jv_at jm_law.2.2.2.2.2.2 1298 = some (.aload_n 0, 1, 0, 0, 0, 0, 0) := rfl
set_option maxRecDepth 20000 in
theorem ja_law_1299 : jv_at jm_law.2.2.2.2.2.2 1299 = some (.iload_n 3, 1, 0, 0, 0, 0, 0) := rfl
set_option maxRecDepth 20000 in
theorem ja_law_1300 : jv_at jm_law.2.2.2.2.2.2 1300 = some (.iconst 2, 1, 0, 0, 0, 0, 2) := rfl
set_option maxRecDepth 20000 in
theorem ja_law_1301 : jv_at jm_law.2.2.2.2.2.2 1301 = some (.iadd, 1, 0, 0, 0, 0, 0) := rfl
set_option maxRecDepth 20000 in
theorem ja_law_1302 : jv_at jm_law.2.2.2.2.2.2 1302 = some (.iaload, 1, 0, 0, 0, 0, 0) := rfl
set_option maxRecDepth 20000 in
theorem ja_law_1303 : jv_at jm_law.2.2.2.2.2.2 1303 = some (.invokevirtual 160, 3, 129, 0, 924, 11, 2) := rfl
set_option maxRecDepth 20000 in
theorem ja_law_1306 : jv_at jm_law.2.2.2.2.2.2 1306 = some (.pop, 1, 0, 0, 0, 0, 0) := rfl
set_option maxRecDepth 20000 in
theorem ja_law_1307 : jv_at jm_law.2.2.2.2.2.2 1307 = some (.aload_n 2, 1, 0, 0, 0, 0, 0) := rfl
set_option maxRecDepth 20000 in
theorem ja_law_1308 : jv_at jm_law.2.2.2.2.2.2 1308 = some (.aload_n 0, 1, 0, 0, 0, 0, 0) := rfl
set_option maxRecDepth 20000 in
theorem ja_law_1309 : jv_at jm_law.2.2.2.2.2.2 1309 = some (.iload_n 3, 1, 0, 0, 0, 0, 0) := rfl
set_option maxRecDepth 20000 in
theorem ja_law_1310 : jv_at jm_law.2.2.2.2.2.2 1310 = some (.iconst 1, 1, 0, 0, 0, 0, 1) := rfl
set_option maxRecDepth 20000 in
theorem ja_law_1311 : jv_at jm_law.2.2.2.2.2.2 1311 = some (.iadd, 1, 0, 0, 0, 0, 0) := rfl
set_option maxRecDepth 20000 in
theorem ja_law_1312 : jv_at jm_law.2.2.2.2.2.2 1312 = some (.iaload, 1, 0, 0, 0, 0, 0) := rfl
set_option maxRecDepth 20000 in
theorem ja_law_1313 : jv_at jm_law.2.2.2.2.2.2 1313 = some (.aload_n 0, 1, 0, 0, 0, 0, 0) := rfl
set_option maxRecDepth 20000 in
theorem ja_law_1314 : jv_at jm_law.2.2.2.2.2.2 1314 = some (.iload_n 3, 1, 0, 0, 0, 0, 0) := rfl
set_option maxRecDepth 20000 in
theorem ja_law_1315 : jv_at jm_law.2.2.2.2.2.2 1315 = some (.iconst 2, 1, 0, 0, 0, 0, 2) := rfl
set_option maxRecDepth 20000 in
theorem ja_law_1316 : jv_at jm_law.2.2.2.2.2.2 1316 = some (.iadd, 1, 0, 0, 0, 0, 0) := rfl
set_option maxRecDepth 20000 in
theorem ja_law_1317 : jv_at jm_law.2.2.2.2.2.2 1317 = some (.iaload, 1, 0, 0, 0, 0, 0) := rfl
set_option maxRecDepth 20000 in
theorem ja_law_1318 : jv_at jm_law.2.2.2.2.2.2 1318 = some (.invokevirtual 163, 3, 218, 0, 1457, 12, 2) := rfl
set_option maxRecDepth 20000 in
theorem ja_law_1321 : jv_at jm_law.2.2.2.2.2.2 1321 = some (.pop, 1, 0, 0, 0, 0, 0) := rfl
set_option maxRecDepth 20000 in
theorem ja_law_1322 : jv_at jm_law.2.2.2.2.2.2 1322 = some (.goto 36, 3, 1358, 0, 0, 0, 0) := rfl
set_option maxRecDepth 20000 in
theorem ja_law_1325 : jv_at jm_law.2.2.2.2.2.2 1325 = some (.aload_n 1, 1, 0, 0, 0, 0, 0) := rfl
set_option maxRecDepth 20000 in
theorem ja_law_1326 : jv_at jm_law.2.2.2.2.2.2 1326 = some (.aload_n 0, 1, 0, 0, 0, 0, 0) := rfl
set_option maxRecDepth 20000 in
theorem ja_law_1327 : jv_at jm_law.2.2.2.2.2.2 1327 = some (.iload_n 3, 1, 0, 0, 0, 0, 0) := rfl
set_option maxRecDepth 20000 in
theorem ja_law_1328 : jv_at jm_law.2.2.2.2.2.2 1328 = some (.iconst 1, 1, 0, 0, 0, 0, 1) := rfl
set_option maxRecDepth 20000 in
theorem ja_law_1329 : jv_at jm_law.2.2.2.2.2.2 1329 = some (.iadd, 1, 0, 0, 0, 0, 0) := rfl
set_option maxRecDepth 20000 in
theorem ja_law_1330 : jv_at jm_law.2.2.2.2.2.2 1330 = some (.iaload, 1, 0, 0, 0, 0, 0) := rfl
set_option maxRecDepth 20000 in
theorem ja_law_1331 : jv_at jm_law.2.2.2.2.2.2 1331 = some (.aload_n 0, 1, 0, 0, 0, 0, 0) := rfl
set_option maxRecDepth 20000 in
theorem ja_law_1332 : jv_at jm_law.2.2.2.2.2.2 1332 = some (.iload_n 3, 1, 0, 0, 0, 0, 0) := rfl
set_option maxRecDepth 20000 in
theorem ja_law_1333 : jv_at jm_law.2.2.2.2.2.2 1333 = some (.iconst 2, 1, 0, 0, 0, 0, 2) := rfl
set_option maxRecDepth 20000 in
theorem ja_law_1334 : jv_at jm_law.2.2.2.2.2.2 1334 = some (.iadd, 1, 0, 0, 0, 0, 0) := rfl
set_option maxRecDepth 20000 in
theorem ja_law_1335 : jv_at jm_law.2.2.2.2.2.2 1335 = some (.iaload, 1, 0, 0, 0, 0, 0) := rfl
set_option maxRecDepth 20000 in
theorem ja_law_1336 : jv_at jm_law.2.2.2.2.2.2 1336 = some (.invokevirtual 164, 3, 130, 0, 929, 11, 2) := rfl
set_option maxRecDepth 20000 in
theorem ja_law_1339 : jv_at jm_law.2.2.2.2.2.2 1339 = some (.pop, 1, 0, 0, 0, 0, 0) := rfl
set_option maxRecDepth 20000 in
theorem ja_law_1340 : jv_at jm_law.2.2.2.2.2.2 1340 = some (.aload_n 2, 1, 0, 0, 0, 0, 0) := rfl
set_option maxRecDepth 20000 in
theorem ja_law_1341 : jv_at jm_law.2.2.2.2.2.2 1341 = some (.aload_n 0, 1, 0, 0, 0, 0, 0) := rfl
set_option maxRecDepth 20000 in
theorem ja_law_1342 : jv_at jm_law.2.2.2.2.2.2 1342 = some (.iload_n 3, 1, 0, 0, 0, 0, 0) := rfl
set_option maxRecDepth 20000 in
theorem ja_law_1343 : jv_at jm_law.2.2.2.2.2.2 1343 = some (.iconst 1, 1, 0, 0, 0, 0, 1) := rfl
set_option maxRecDepth 20000 in
theorem ja_law_1344 : jv_at jm_law.2.2.2.2.2.2 1344 = some (.iadd, 1, 0, 0, 0, 0, 0) := rfl
set_option maxRecDepth 20000 in
theorem ja_law_1345 : jv_at jm_law.2.2.2.2.2.2 1345 = some (.iaload, 1, 0, 0, 0, 0, 0) := rfl
set_option maxRecDepth 20000 in
theorem ja_law_1346 : jv_at jm_law.2.2.2.2.2.2 1346 = some (.aload_n 0, 1, 0, 0, 0, 0, 0) := rfl
set_option maxRecDepth 20000 in
theorem ja_law_1347 : jv_at jm_law.2.2.2.2.2.2 1347 = some (.iload_n 3, 1, 0, 0, 0, 0, 0) := rfl
set_option maxRecDepth 20000 in
theorem ja_law_1348 : jv_at jm_law.2.2.2.2.2.2 1348 = some (.iconst 2, 1, 0, 0, 0, 0, 2) := rfl
set_option maxRecDepth 20000 in
theorem ja_law_1349 : jv_at jm_law.2.2.2.2.2.2 1349 = some (.iadd, 1, 0, 0, 0, 0, 0) := rfl
set_option maxRecDepth 20000 in
theorem ja_law_1350 : jv_at jm_law.2.2.2.2.2.2 1350 = some (.iaload, 1, 0, 0, 0, 0, 0) := rfl
set_option maxRecDepth 20000 in
theorem ja_law_1351 : jv_at jm_law.2.2.2.2.2.2 1351 = some (.invokevirtual 167, 3, 219, 0, 1461, 12, 2) := rfl
set_option maxRecDepth 20000 in
theorem ja_law_1354 : jv_at jm_law.2.2.2.2.2.2 1354 = some (.pop, 1, 0, 0, 0, 0, 0) := rfl
set_option maxRecDepth 20000 in
theorem ja_law_1355 : jv_at jm_law.2.2.2.2.2.2 1355 = some (.goto 3, 3, 1358, 0, 0, 0, 0) := rfl
set_option maxRecDepth 20000 in
theorem ja_law_1358 : jv_at jm_law.2.2.2.2.2.2 1358 = some (.iinc 3 7, 3, 0, 0, 0, 0, 0) := rfl
set_option maxRecDepth 20000 in
theorem ja_law_1361 : jv_at jm_law.2.2.2.2.2.2 1361 = some (.goto (-1343), 3, 18, 0, 0, 0, 0) := rfl
set_option maxRecDepth 20000 in
theorem ja_law_1364 : jv_at jm_law.2.2.2.2.2.2 1364 = some (.iconst 1, 1, 0, 0, 0, 0, 1) := rfl
set_option maxRecDepth 20000 in
theorem ja_law_1365 : jv_at jm_law.2.2.2.2.2.2 1365 = some (.ireturn, 1, 0, 0, 0, 0, 0) := rfl
