theorem ws_op0 {G : jv_X} {B : Option Value → jg_H → Prop} {s : jg_H} {i : Int32} (hI : Inv s) (h1 : jv_in (i + 1) G.1.1 = true) (h2 : jv_in (i + 2) G.1.1 = true) (h3 : jv_in (i + 3) G.1.1 = true) (h4 : jv_in (i + 4) G.1.1 = true) (h5 : jv_in (i + 5) G.1.1 = true) (h6 : jv_in (i + 6) G.1.1 = true) (kk : ∀ s', Inv s' → q_W G 91 jm_law B 1361 (ws_ls i) [] s') : q_W G 91 jm_law B 192 (ws_ls i) [] s := by
  refine q_aload_n (pc' := 193) (x := 0) ja_law_192 rfl rfl ?_
  refine q_aload_n (pc' := 194) (x := 1000000) ja_law_193 rfl rfl ?_
  refine q_iload_n (pc' := 195) (x := i) ja_law_194 rfl rfl ?_
  refine q_iconst (pc' := 196) ja_law_195 rfl 1 (by decide) ?_
  refine q_iadd (pc' := 197) (x := i) (y := 1) ja_law_196 rfl ?_
  refine q_sald (pc' := 198) ja_law_197 rfl h1 ?_
  refine q_virt (pc' := 201) (c := 0) (as := [.int (G.1.2 (i + 1).toNatClampNeg)]) (r := []) ja_law_198 rfl rfl rfl (by decide) ⟨rfl, by decide⟩ ?_
  refine q_mono (fun v s' h' => ?_) (q_typ_int (k := 39) rfl rfl (st_member (G := G) (d := 89) hI _))
  obtain ⟨h', x, rfl⟩ := h'
  show q_W G 91 jm_law B 201 (ws_ls i) [.int x] s'
  refine q_aload_n (pc' := 202) (x := 146) ja_law_201 rfl rfl ?_
  refine q_aload_n (pc' := 203) (x := 1000000) ja_law_202 rfl rfl ?_
  refine q_iload_n (pc' := 204) (x := i) ja_law_203 rfl rfl ?_
  refine q_iconst (pc' := 205) ja_law_204 rfl 1 (by decide) ?_
  refine q_iadd (pc' := 206) (x := i) (y := 1) ja_law_205 rfl ?_
  refine q_sald (pc' := 207) ja_law_206 rfl h1 ?_
  refine q_virt (pc' := 210) (c := 146) (as := [.int (G.1.2 (i + 1).toNatClampNeg)]) (r := [.int x]) ja_law_207 rfl rfl rfl (by decide) ⟨rfl, by decide⟩ ?_
  refine q_mono (fun v s'' h'' => ?_) h'
  obtain ⟨rfl, hI'⟩ := h''
  show q_W G 91 jm_law B 210 (ws_ls i) [.int x, .int x] s''
  refine q_ic_eq (pc' := 213) ja_law_210 rfl (fun _ => kk s'' hI') (fun hx => absurd rfl hx)
theorem ws_op1 {G : jv_X} {B : Option Value → jg_H → Prop} {s : jg_H} {i : Int32} (hI : Inv s) (h1 : jv_in (i + 1) G.1.1 = true) (h2 : jv_in (i + 2) G.1.1 = true) (h3 : jv_in (i + 3) G.1.1 = true) (h4 : jv_in (i + 4) G.1.1 = true) (h5 : jv_in (i + 5) G.1.1 = true) (h6 : jv_in (i + 6) G.1.1 = true) (kk : ∀ s', Inv s' → q_W G 91 jm_law B 1361 (ws_ls i) [] s') : q_W G 91 jm_law B 215 (ws_ls i) [] s := by
  refine q_aload_n (pc' := 216) (x := 0) ja_law_215 rfl rfl ?_
  refine q_aload_n (pc' := 217) (x := 1000000) ja_law_216 rfl rfl ?_
  refine q_iload_n (pc' := 218) (x := i) ja_law_217 rfl rfl ?_
  refine q_iconst (pc' := 219) ja_law_218 rfl 1 (by decide) ?_
  refine q_iadd (pc' := 220) (x := i) (y := 1) ja_law_219 rfl ?_
  refine q_sald (pc' := 221) ja_law_220 rfl h1 ?_
  refine q_aload_n (pc' := 222) (x := 1000000) ja_law_221 rfl rfl ?_
  refine q_iload_n (pc' := 223) (x := i) ja_law_222 rfl rfl ?_
  refine q_iconst (pc' := 224) ja_law_223 rfl 2 (by decide) ?_
  refine q_iadd (pc' := 225) (x := i) (y := 2) ja_law_224 rfl ?_
  refine q_sald (pc' := 226) ja_law_225 rfl h2 ?_
  refine q_aload_n (pc' := 227) (x := 1000000) ja_law_226 rfl rfl ?_
  refine q_iload_n (pc' := 228) (x := i) ja_law_227 rfl rfl ?_
  refine q_iconst (pc' := 229) ja_law_228 rfl 3 (by decide) ?_
  refine q_iadd (pc' := 230) (x := i) (y := 3) ja_law_229 rfl ?_
  refine q_sald (pc' := 231) ja_law_230 rfl h3 ?_
  refine q_virt (pc' := 234) (c := 0) (as := [.int (G.1.2 (i + 1).toNatClampNeg), .int (G.1.2 (i + 2).toNatClampNeg), .int (G.1.2 (i + 3).toNatClampNeg)]) (r := []) ja_law_231 rfl rfl rfl (by decide) ⟨rfl, by decide⟩ ?_
  refine q_mono (fun v s' h' => ?_) (q_typ_int (k := 40) rfl rfl (st_like (G := G) (d := 88) hI _ _ _))
  obtain ⟨h', x, rfl⟩ := h'
  show q_W G 91 jm_law B 234 (ws_ls i) [.int x] s'
  refine q_aload_n (pc' := 235) (x := 146) ja_law_234 rfl rfl ?_
  refine q_aload_n (pc' := 236) (x := 1000000) ja_law_235 rfl rfl ?_
  refine q_iload_n (pc' := 237) (x := i) ja_law_236 rfl rfl ?_
  refine q_iconst (pc' := 238) ja_law_237 rfl 1 (by decide) ?_
  refine q_iadd (pc' := 239) (x := i) (y := 1) ja_law_238 rfl ?_
  refine q_sald (pc' := 240) ja_law_239 rfl h1 ?_
  refine q_aload_n (pc' := 241) (x := 1000000) ja_law_240 rfl rfl ?_
  refine q_iload_n (pc' := 242) (x := i) ja_law_241 rfl rfl ?_
  refine q_iconst (pc' := 243) ja_law_242 rfl 2 (by decide) ?_
  refine q_iadd (pc' := 244) (x := i) (y := 2) ja_law_243 rfl ?_
  refine q_sald (pc' := 245) ja_law_244 rfl h2 ?_
  refine q_aload_n (pc' := 246) (x := 1000000) ja_law_245 rfl rfl ?_
  refine q_iload_n (pc' := 247) (x := i) ja_law_246 rfl rfl ?_
  refine q_iconst (pc' := 248) ja_law_247 rfl 3 (by decide) ?_
  refine q_iadd (pc' := 249) (x := i) (y := 3) ja_law_248 rfl ?_
  refine q_sald (pc' := 250) ja_law_249 rfl h3 ?_
  refine q_virt (pc' := 253) (c := 146) (as := [.int (G.1.2 (i + 1).toNatClampNeg), .int (G.1.2 (i + 2).toNatClampNeg), .int (G.1.2 (i + 3).toNatClampNeg)]) (r := [.int x]) ja_law_250 rfl rfl rfl (by decide) ⟨rfl, by decide⟩ ?_
  refine q_mono (fun v s'' h'' => ?_) h'
  obtain ⟨rfl, hI'⟩ := h''
  show q_W G 91 jm_law B 253 (ws_ls i) [.int x, .int x] s''
  refine q_ic_eq (pc' := 256) ja_law_253 rfl (fun _ => kk s'' hI') (fun hx => absurd rfl hx)
theorem ws_op2a {G : jv_X} {B : Option Value → jg_H → Prop} {s : jg_H} {i : Int32} (hI : Inv s) (h1 : jv_in (i + 1) G.1.1 = true) (h2 : jv_in (i + 2) G.1.1 = true) (h3 : jv_in (i + 3) G.1.1 = true) (h4 : jv_in (i + 4) G.1.1 = true) (h5 : jv_in (i + 5) G.1.1 = true) (h6 : jv_in (i + 6) G.1.1 = true) (kk : ∀ s', Inv s' → q_W G 91 jm_law B 1361 (ws_ls i) [] s') (hz : G.1.2 (i + 2).toNatClampNeg = 0) : q_W G 91 jm_law B 258 (ws_ls i) [] s := by
  refine q_aload_n (pc' := 259) (x := 0) ja_law_258 rfl rfl ?_
  refine q_aload_n (pc' := 260) (x := 1000000) ja_law_259 rfl rfl ?_
  refine q_iload_n (pc' := 261) (x := i) ja_law_260 rfl rfl ?_
  refine q_iconst (pc' := 262) ja_law_261 rfl 1 (by decide) ?_
  refine q_iadd (pc' := 263) (x := i) (y := 1) ja_law_262 rfl ?_
  refine q_sald (pc' := 264) ja_law_263 rfl h1 ?_
  refine q_aload_n (pc' := 265) (x := 1000000) ja_law_264 rfl rfl ?_
  refine q_iload_n (pc' := 266) (x := i) ja_law_265 rfl rfl ?_
  refine q_iconst (pc' := 267) ja_law_266 rfl 2 (by decide) ?_
  refine q_iadd (pc' := 268) (x := i) (y := 2) ja_law_267 rfl ?_
  refine q_sald (pc' := 269) ja_law_268 rfl h2 ?_
  refine q_if_eq (pc' := 272) ja_law_269 rfl (fun _ => ?_) (fun hx => absurd hz hx)
  refine q_iconst (pc' := 277) ja_law_276 rfl 0 (by decide) ?_
  refine q_virt (pc' := 280) (c := 0) (as := [.int (G.1.2 (i + 1).toNatClampNeg), .int (0)]) (r := []) ja_law_277 rfl rfl rfl (by decide) ⟨rfl, by decide⟩ ?_
  refine q_mono (fun v s' h' => ?_) (q_typ_int (k := 45) rfl rfl (st_comes (G := G) (d := 88) hI _ _ (Or.inl rfl)))
  obtain ⟨h', x, rfl⟩ := h'
  show q_W G 91 jm_law B 280 (ws_ls i) [.int x] s'
  refine q_aload_n (pc' := 281) (x := 146) ja_law_280 rfl rfl ?_
  refine q_aload_n (pc' := 282) (x := 1000000) ja_law_281 rfl rfl ?_
  refine q_iload_n (pc' := 283) (x := i) ja_law_282 rfl rfl ?_
  refine q_iconst (pc' := 284) ja_law_283 rfl 1 (by decide) ?_
  refine q_iadd (pc' := 285) (x := i) (y := 1) ja_law_284 rfl ?_
  refine q_sald (pc' := 286) ja_law_285 rfl h1 ?_
  refine q_aload_n (pc' := 287) (x := 1000000) ja_law_286 rfl rfl ?_
  refine q_iload_n (pc' := 288) (x := i) ja_law_287 rfl rfl ?_
  refine q_iconst (pc' := 289) ja_law_288 rfl 2 (by decide) ?_
  refine q_iadd (pc' := 290) (x := i) (y := 2) ja_law_289 rfl ?_
  refine q_sald (pc' := 291) ja_law_290 rfl h2 ?_
  refine q_if_eq (pc' := 294) ja_law_291 rfl (fun _ => ?_) (fun hx => absurd hz hx)
  refine q_iconst (pc' := 299) ja_law_298 rfl 0 (by decide) ?_
  refine q_virt (pc' := 302) (c := 146) (as := [.int (G.1.2 (i + 1).toNatClampNeg), .int (0)]) (r := [.int x]) ja_law_299 rfl rfl rfl (by decide) ⟨rfl, by decide⟩ ?_
  refine q_mono (fun v s'' h'' => ?_) h'
  obtain ⟨rfl, hI'⟩ := h''
  show q_W G 91 jm_law B 302 (ws_ls i) [.int x, .int x] s''
  refine q_ic_eq (pc' := 305) ja_law_302 rfl (fun _ => kk s'' hI') (fun hx => absurd rfl hx)
theorem ws_op2b {G : jv_X} {B : Option Value → jg_H → Prop} {s : jg_H} {i : Int32} (hI : Inv s) (h1 : jv_in (i + 1) G.1.1 = true) (h2 : jv_in (i + 2) G.1.1 = true) (h3 : jv_in (i + 3) G.1.1 = true) (h4 : jv_in (i + 4) G.1.1 = true) (h5 : jv_in (i + 5) G.1.1 = true) (h6 : jv_in (i + 6) G.1.1 = true) (kk : ∀ s', Inv s' → q_W G 91 jm_law B 1361 (ws_ls i) [] s') (hz : ¬ G.1.2 (i + 2).toNatClampNeg = 0) : q_W G 91 jm_law B 258 (ws_ls i) [] s := by
  refine q_aload_n (pc' := 259) (x := 0) ja_law_258 rfl rfl ?_
  refine q_aload_n (pc' := 260) (x := 1000000) ja_law_259 rfl rfl ?_
  refine q_iload_n (pc' := 261) (x := i) ja_law_260 rfl rfl ?_
  refine q_iconst (pc' := 262) ja_law_261 rfl 1 (by decide) ?_
  refine q_iadd (pc' := 263) (x := i) (y := 1) ja_law_262 rfl ?_
  refine q_sald (pc' := 264) ja_law_263 rfl h1 ?_
  refine q_aload_n (pc' := 265) (x := 1000000) ja_law_264 rfl rfl ?_
  refine q_iload_n (pc' := 266) (x := i) ja_law_265 rfl rfl ?_
  refine q_iconst (pc' := 267) ja_law_266 rfl 2 (by decide) ?_
  refine q_iadd (pc' := 268) (x := i) (y := 2) ja_law_267 rfl ?_
  refine q_sald (pc' := 269) ja_law_268 rfl h2 ?_
  refine q_if_eq (pc' := 272) ja_law_269 rfl (fun hx => absurd hx hz) (fun _ => ?_)
  refine q_iconst (pc' := 273) ja_law_272 rfl 1 (by decide) ?_
  refine q_goto ja_law_273 ?_
  refine q_virt (pc' := 280) (c := 0) (as := [.int (G.1.2 (i + 1).toNatClampNeg), .int (1)]) (r := []) ja_law_277 rfl rfl rfl (by decide) ⟨rfl, by decide⟩ ?_
  refine q_mono (fun v s' h' => ?_) (q_typ_int (k := 45) rfl rfl (st_comes (G := G) (d := 88) hI _ _ (Or.inr rfl)))
  obtain ⟨h', x, rfl⟩ := h'
  show q_W G 91 jm_law B 280 (ws_ls i) [.int x] s'
  refine q_aload_n (pc' := 281) (x := 146) ja_law_280 rfl rfl ?_
  refine q_aload_n (pc' := 282) (x := 1000000) ja_law_281 rfl rfl ?_
  refine q_iload_n (pc' := 283) (x := i) ja_law_282 rfl rfl ?_
  refine q_iconst (pc' := 284) ja_law_283 rfl 1 (by decide) ?_
  refine q_iadd (pc' := 285) (x := i) (y := 1) ja_law_284 rfl ?_
  refine q_sald (pc' := 286) ja_law_285 rfl h1 ?_
  refine q_aload_n (pc' := 287) (x := 1000000) ja_law_286 rfl rfl ?_
  refine q_iload_n (pc' := 288) (x := i) ja_law_287 rfl rfl ?_
  refine q_iconst (pc' := 289) ja_law_288 rfl 2 (by decide) ?_
  refine q_iadd (pc' := 290) (x := i) (y := 2) ja_law_289 rfl ?_
  refine q_sald (pc' := 291) ja_law_290 rfl h2 ?_
  refine q_if_eq (pc' := 294) ja_law_291 rfl (fun hx => absurd hx hz) (fun _ => ?_)
  refine q_iconst (pc' := 295) ja_law_294 rfl 1 (by decide) ?_
  refine q_goto ja_law_295 ?_
  refine q_virt (pc' := 302) (c := 146) (as := [.int (G.1.2 (i + 1).toNatClampNeg), .int (1)]) (r := [.int x]) ja_law_299 rfl rfl rfl (by decide) ⟨rfl, by decide⟩ ?_
  refine q_mono (fun v s'' h'' => ?_) h'
  obtain ⟨rfl, hI'⟩ := h''
  show q_W G 91 jm_law B 302 (ws_ls i) [.int x, .int x] s''
  refine q_ic_eq (pc' := 305) ja_law_302 rfl (fun _ => kk s'' hI') (fun hx => absurd rfl hx)
theorem ws_op2 {G : jv_X} {B : Option Value → jg_H → Prop} {s : jg_H} {i : Int32} (hI : Inv s) (h1 : jv_in (i + 1) G.1.1 = true) (h2 : jv_in (i + 2) G.1.1 = true) (h3 : jv_in (i + 3) G.1.1 = true) (h4 : jv_in (i + 4) G.1.1 = true) (h5 : jv_in (i + 5) G.1.1 = true) (h6 : jv_in (i + 6) G.1.1 = true) (kk : ∀ s', Inv s' → q_W G 91 jm_law B 1361 (ws_ls i) [] s') : q_W G 91 jm_law B 258 (ws_ls i) [] s := by
  by_cases hz : G.1.2 (i + 2).toNatClampNeg = 0
  · exact ws_op2a hI h1 h2 h3 h4 h5 h6 kk hz
  · exact ws_op2b hI h1 h2 h3 h4 h5 h6 kk hz
theorem ws_op3 {G : jv_X} {B : Option Value → jg_H → Prop} {s : jg_H} {i : Int32} (hI : Inv s) (h1 : jv_in (i + 1) G.1.1 = true) (h2 : jv_in (i + 2) G.1.1 = true) (h3 : jv_in (i + 3) G.1.1 = true) (h4 : jv_in (i + 4) G.1.1 = true) (h5 : jv_in (i + 5) G.1.1 = true) (h6 : jv_in (i + 6) G.1.1 = true) (kk : ∀ s', Inv s' → q_W G 91 jm_law B 1361 (ws_ls i) [] s') : q_W G 91 jm_law B 307 (ws_ls i) [] s := by
  refine q_aload_n (pc' := 308) (x := 0) ja_law_307 rfl rfl ?_
  refine q_aload_n (pc' := 309) (x := 1000000) ja_law_308 rfl rfl ?_
  refine q_iload_n (pc' := 310) (x := i) ja_law_309 rfl rfl ?_
  refine q_iconst (pc' := 311) ja_law_310 rfl 1 (by decide) ?_
  refine q_iadd (pc' := 312) (x := i) (y := 1) ja_law_311 rfl ?_
  refine q_sald (pc' := 313) ja_law_312 rfl h1 ?_
  refine q_aload_n (pc' := 314) (x := 1000000) ja_law_313 rfl rfl ?_
  refine q_iload_n (pc' := 315) (x := i) ja_law_314 rfl rfl ?_
  refine q_iconst (pc' := 316) ja_law_315 rfl 2 (by decide) ?_
  refine q_iadd (pc' := 317) (x := i) (y := 2) ja_law_316 rfl ?_
  refine q_sald (pc' := 318) ja_law_317 rfl h2 ?_
  refine q_virt (pc' := 321) (c := 0) (as := [.int (G.1.2 (i + 1).toNatClampNeg), .int (G.1.2 (i + 2).toNatClampNeg)]) (r := []) ja_law_318 rfl rfl rfl (by decide) ⟨rfl, by decide⟩ ?_
  refine q_mono (fun v s' h' => ?_) (q_typ_int (k := 46) rfl rfl (st_pair (G := G) (d := 88) hI _ _))
  obtain ⟨h', x, rfl⟩ := h'
  show q_W G 91 jm_law B 321 (ws_ls i) [.int x] s'
  refine q_aload_n (pc' := 322) (x := 146) ja_law_321 rfl rfl ?_
  refine q_aload_n (pc' := 323) (x := 1000000) ja_law_322 rfl rfl ?_
  refine q_iload_n (pc' := 324) (x := i) ja_law_323 rfl rfl ?_
  refine q_iconst (pc' := 325) ja_law_324 rfl 1 (by decide) ?_
  refine q_iadd (pc' := 326) (x := i) (y := 1) ja_law_325 rfl ?_
  refine q_sald (pc' := 327) ja_law_326 rfl h1 ?_
  refine q_aload_n (pc' := 328) (x := 1000000) ja_law_327 rfl rfl ?_
  refine q_iload_n (pc' := 329) (x := i) ja_law_328 rfl rfl ?_
  refine q_iconst (pc' := 330) ja_law_329 rfl 2 (by decide) ?_
  refine q_iadd (pc' := 331) (x := i) (y := 2) ja_law_330 rfl ?_
  refine q_sald (pc' := 332) ja_law_331 rfl h2 ?_
  refine q_virt (pc' := 335) (c := 146) (as := [.int (G.1.2 (i + 1).toNatClampNeg), .int (G.1.2 (i + 2).toNatClampNeg)]) (r := [.int x]) ja_law_332 rfl rfl rfl (by decide) ⟨rfl, by decide⟩ ?_
  refine q_mono (fun v s'' h'' => ?_) h'
  obtain ⟨rfl, hI'⟩ := h''
  show q_W G 91 jm_law B 335 (ws_ls i) [.int x, .int x] s''
  refine q_ic_eq (pc' := 338) ja_law_335 rfl (fun _ => kk s'' hI') (fun hx => absurd rfl hx)
theorem ws_op4 {G : jv_X} {B : Option Value → jg_H → Prop} {s : jg_H} {i : Int32} (hI : Inv s) (h1 : jv_in (i + 1) G.1.1 = true) (h2 : jv_in (i + 2) G.1.1 = true) (h3 : jv_in (i + 3) G.1.1 = true) (h4 : jv_in (i + 4) G.1.1 = true) (h5 : jv_in (i + 5) G.1.1 = true) (h6 : jv_in (i + 6) G.1.1 = true) (kk : ∀ s', Inv s' → q_W G 91 jm_law B 1361 (ws_ls i) [] s') : q_W G 91 jm_law B 340 (ws_ls i) [] s := by
  refine q_aload_n (pc' := 341) (x := 0) ja_law_340 rfl rfl ?_
  refine q_aload_n (pc' := 342) (x := 1000000) ja_law_341 rfl rfl ?_
  refine q_iload_n (pc' := 343) (x := i) ja_law_342 rfl rfl ?_
  refine q_iconst (pc' := 344) ja_law_343 rfl 1 (by decide) ?_
  refine q_iadd (pc' := 345) (x := i) (y := 1) ja_law_344 rfl ?_
  refine q_sald (pc' := 346) ja_law_345 rfl h1 ?_
  refine q_virt (pc' := 349) (c := 0) (as := [.int (G.1.2 (i + 1).toNatClampNeg)]) (r := []) ja_law_346 rfl rfl rfl (by decide) ⟨rfl, by decide⟩ ?_
  refine q_mono (fun v s' h' => ?_) (q_typ_int (k := 47) rfl rfl (st_part (G := G) (d := 88) hI _))
  obtain ⟨h', x, rfl⟩ := h'
  show q_W G 91 jm_law B 349 (ws_ls i) [.int x] s'
  refine q_aload_n (pc' := 350) (x := 146) ja_law_349 rfl rfl ?_
  refine q_aload_n (pc' := 351) (x := 1000000) ja_law_350 rfl rfl ?_
  refine q_iload_n (pc' := 352) (x := i) ja_law_351 rfl rfl ?_
  refine q_iconst (pc' := 353) ja_law_352 rfl 1 (by decide) ?_
  refine q_iadd (pc' := 354) (x := i) (y := 1) ja_law_353 rfl ?_
  refine q_sald (pc' := 355) ja_law_354 rfl h1 ?_
  refine q_virt (pc' := 358) (c := 146) (as := [.int (G.1.2 (i + 1).toNatClampNeg)]) (r := [.int x]) ja_law_355 rfl rfl rfl (by decide) ⟨rfl, by decide⟩ ?_
  refine q_mono (fun v s'' h'' => ?_) h'
  obtain ⟨rfl, hI'⟩ := h''
  show q_W G 91 jm_law B 358 (ws_ls i) [.int x, .int x] s''
  refine q_ic_eq (pc' := 361) ja_law_358 rfl (fun _ => kk s'' hI') (fun hx => absurd rfl hx)
theorem ws_op5 {G : jv_X} {B : Option Value → jg_H → Prop} {s : jg_H} {i : Int32} (hI : Inv s) (h1 : jv_in (i + 1) G.1.1 = true) (h2 : jv_in (i + 2) G.1.1 = true) (h3 : jv_in (i + 3) G.1.1 = true) (h4 : jv_in (i + 4) G.1.1 = true) (h5 : jv_in (i + 5) G.1.1 = true) (h6 : jv_in (i + 6) G.1.1 = true) (kk : ∀ s', Inv s' → q_W G 91 jm_law B 1361 (ws_ls i) [] s') : q_W G 91 jm_law B 363 (ws_ls i) [] s := by
  refine q_aload_n (pc' := 364) (x := 0) ja_law_363 rfl rfl ?_
  refine q_aload_n (pc' := 365) (x := 1000000) ja_law_364 rfl rfl ?_
  refine q_iload_n (pc' := 366) (x := i) ja_law_365 rfl rfl ?_
  refine q_iconst (pc' := 367) ja_law_366 rfl 1 (by decide) ?_
  refine q_iadd (pc' := 368) (x := i) (y := 1) ja_law_367 rfl ?_
  refine q_sald (pc' := 369) ja_law_368 rfl h1 ?_
  refine q_aload_n (pc' := 370) (x := 1000000) ja_law_369 rfl rfl ?_
  refine q_iload_n (pc' := 371) (x := i) ja_law_370 rfl rfl ?_
  refine q_iconst (pc' := 372) ja_law_371 rfl 2 (by decide) ?_
  refine q_iadd (pc' := 373) (x := i) (y := 2) ja_law_372 rfl ?_
  refine q_sald (pc' := 374) ja_law_373 rfl h2 ?_
  refine q_virt (pc' := 377) (c := 0) (as := [.int (G.1.2 (i + 1).toNatClampNeg), .int (G.1.2 (i + 2).toNatClampNeg)]) (r := []) ja_law_374 rfl rfl rfl (by decide) ⟨rfl, by decide⟩ ?_
  refine q_mono (fun v s' h' => ?_) (q_typ_int (k := 48) rfl rfl (st_ask (G := G) (d := 88) hI _ _))
  obtain ⟨h', x, rfl⟩ := h'
  show q_W G 91 jm_law B 377 (ws_ls i) [.int x] s'
  refine q_aload_n (pc' := 378) (x := 146) ja_law_377 rfl rfl ?_
  refine q_aload_n (pc' := 379) (x := 1000000) ja_law_378 rfl rfl ?_
  refine q_iload_n (pc' := 380) (x := i) ja_law_379 rfl rfl ?_
  refine q_iconst (pc' := 381) ja_law_380 rfl 1 (by decide) ?_
  refine q_iadd (pc' := 382) (x := i) (y := 1) ja_law_381 rfl ?_
  refine q_sald (pc' := 383) ja_law_382 rfl h1 ?_
  refine q_aload_n (pc' := 384) (x := 1000000) ja_law_383 rfl rfl ?_
  refine q_iload_n (pc' := 385) (x := i) ja_law_384 rfl rfl ?_
  refine q_iconst (pc' := 386) ja_law_385 rfl 2 (by decide) ?_
  refine q_iadd (pc' := 387) (x := i) (y := 2) ja_law_386 rfl ?_
  refine q_sald (pc' := 388) ja_law_387 rfl h2 ?_
  refine q_virt (pc' := 391) (c := 146) (as := [.int (G.1.2 (i + 1).toNatClampNeg), .int (G.1.2 (i + 2).toNatClampNeg)]) (r := [.int x]) ja_law_388 rfl rfl rfl (by decide) ⟨rfl, by decide⟩ ?_
  refine q_mono (fun v s'' h'' => ?_) h'
  obtain ⟨rfl, hI'⟩ := h''
  show q_W G 91 jm_law B 391 (ws_ls i) [.int x, .int x] s''
  refine q_ic_eq (pc' := 394) ja_law_391 rfl (fun _ => kk s'' hI') (fun hx => absurd rfl hx)
theorem ws_op6 {G : jv_X} {B : Option Value → jg_H → Prop} {s : jg_H} {i : Int32} (hI : Inv s) (h1 : jv_in (i + 1) G.1.1 = true) (h2 : jv_in (i + 2) G.1.1 = true) (h3 : jv_in (i + 3) G.1.1 = true) (h4 : jv_in (i + 4) G.1.1 = true) (h5 : jv_in (i + 5) G.1.1 = true) (h6 : jv_in (i + 6) G.1.1 = true) (kk : ∀ s', Inv s' → q_W G 91 jm_law B 1361 (ws_ls i) [] s') : q_W G 91 jm_law B 396 (ws_ls i) [] s := by
  refine q_aload_n (pc' := 397) (x := 0) ja_law_396 rfl rfl ?_
  refine q_aload_n (pc' := 398) (x := 1000000) ja_law_397 rfl rfl ?_
  refine q_iload_n (pc' := 399) (x := i) ja_law_398 rfl rfl ?_
  refine q_iconst (pc' := 400) ja_law_399 rfl 1 (by decide) ?_
  refine q_iadd (pc' := 401) (x := i) (y := 1) ja_law_400 rfl ?_
  refine q_sald (pc' := 402) ja_law_401 rfl h1 ?_
  refine q_aload_n (pc' := 403) (x := 1000000) ja_law_402 rfl rfl ?_
  refine q_iload_n (pc' := 404) (x := i) ja_law_403 rfl rfl ?_
  refine q_iconst (pc' := 405) ja_law_404 rfl 2 (by decide) ?_
  refine q_iadd (pc' := 406) (x := i) (y := 2) ja_law_405 rfl ?_
  refine q_sald (pc' := 407) ja_law_406 rfl h2 ?_
  refine q_virt (pc' := 410) (c := 0) (as := [.int (G.1.2 (i + 1).toNatClampNeg), .int (G.1.2 (i + 2).toNatClampNeg)]) (r := []) ja_law_407 rfl rfl rfl (by decide) ⟨rfl, by decide⟩ ?_
  refine q_mono (fun v s' h' => ?_) (q_typ_int (k := 49) rfl rfl (st_memberTold (G := G) (d := 88) hI _ _))
  obtain ⟨h', x, rfl⟩ := h'
  show q_W G 91 jm_law B 410 (ws_ls i) [.int x] s'
  refine q_aload_n (pc' := 411) (x := 146) ja_law_410 rfl rfl ?_
  refine q_aload_n (pc' := 412) (x := 1000000) ja_law_411 rfl rfl ?_
  refine q_iload_n (pc' := 413) (x := i) ja_law_412 rfl rfl ?_
  refine q_iconst (pc' := 414) ja_law_413 rfl 1 (by decide) ?_
  refine q_iadd (pc' := 415) (x := i) (y := 1) ja_law_414 rfl ?_
  refine q_sald (pc' := 416) ja_law_415 rfl h1 ?_
  refine q_aload_n (pc' := 417) (x := 1000000) ja_law_416 rfl rfl ?_
  refine q_iload_n (pc' := 418) (x := i) ja_law_417 rfl rfl ?_
  refine q_iconst (pc' := 419) ja_law_418 rfl 2 (by decide) ?_
  refine q_iadd (pc' := 420) (x := i) (y := 2) ja_law_419 rfl ?_
  refine q_sald (pc' := 421) ja_law_420 rfl h2 ?_
  refine q_virt (pc' := 424) (c := 146) (as := [.int (G.1.2 (i + 1).toNatClampNeg), .int (G.1.2 (i + 2).toNatClampNeg)]) (r := [.int x]) ja_law_421 rfl rfl rfl (by decide) ⟨rfl, by decide⟩ ?_
  refine q_mono (fun v s'' h'' => ?_) h'
  obtain ⟨rfl, hI'⟩ := h''
  show q_W G 91 jm_law B 424 (ws_ls i) [.int x, .int x] s''
  refine q_ic_eq (pc' := 427) ja_law_424 rfl (fun _ => kk s'' hI') (fun hx => absurd rfl hx)
theorem ws_op7 {G : jv_X} {B : Option Value → jg_H → Prop} {s : jg_H} {i : Int32} (hI : Inv s) (h1 : jv_in (i + 1) G.1.1 = true) (h2 : jv_in (i + 2) G.1.1 = true) (h3 : jv_in (i + 3) G.1.1 = true) (h4 : jv_in (i + 4) G.1.1 = true) (h5 : jv_in (i + 5) G.1.1 = true) (h6 : jv_in (i + 6) G.1.1 = true) (kk : ∀ s', Inv s' → q_W G 91 jm_law B 1361 (ws_ls i) [] s') : q_W G 91 jm_law B 429 (ws_ls i) [] s := by
  refine q_aload_n (pc' := 430) (x := 0) ja_law_429 rfl rfl ?_
  refine q_virt (pc' := 433) (c := 0) (as := []) (r := []) ja_law_430 rfl rfl rfl (by decide) ⟨rfl, by decide⟩ ?_
  refine q_mono (fun v s' h' => ?_) (q_typ_int (k := 50) rfl rfl (st_bill (G := G) (d := 90) hI))
  obtain ⟨h', x, rfl⟩ := h'
  show q_W G 91 jm_law B 433 (ws_ls i) [.int x] s'
  refine q_aload_n (pc' := 434) (x := 146) ja_law_433 rfl rfl ?_
  refine q_virt (pc' := 437) (c := 146) (as := []) (r := [.int x]) ja_law_434 rfl rfl rfl (by decide) ⟨rfl, by decide⟩ ?_
  refine q_mono (fun v s'' h'' => ?_) h'
  obtain ⟨rfl, hI'⟩ := h''
  show q_W G 91 jm_law B 437 (ws_ls i) [.int x, .int x] s''
  refine q_ic_eq (pc' := 440) ja_law_437 rfl (fun _ => kk s'' hI') (fun hx => absurd rfl hx)
theorem ws_op8 {G : jv_X} {B : Option Value → jg_H → Prop} {s : jg_H} {i : Int32} (hI : Inv s) (h1 : jv_in (i + 1) G.1.1 = true) (h2 : jv_in (i + 2) G.1.1 = true) (h3 : jv_in (i + 3) G.1.1 = true) (h4 : jv_in (i + 4) G.1.1 = true) (h5 : jv_in (i + 5) G.1.1 = true) (h6 : jv_in (i + 6) G.1.1 = true) (kk : ∀ s', Inv s' → q_W G 91 jm_law B 1361 (ws_ls i) [] s') : q_W G 91 jm_law B 442 (ws_ls i) [] s := by
  refine q_aload_n (pc' := 443) (x := 0) ja_law_442 rfl rfl ?_
  refine q_aload_n (pc' := 444) (x := 1000000) ja_law_443 rfl rfl ?_
  refine q_iload_n (pc' := 445) (x := i) ja_law_444 rfl rfl ?_
  refine q_iconst (pc' := 446) ja_law_445 rfl 1 (by decide) ?_
  refine q_iadd (pc' := 447) (x := i) (y := 1) ja_law_446 rfl ?_
  refine q_sald (pc' := 448) ja_law_447 rfl h1 ?_
  refine q_aload_n (pc' := 449) (x := 1000000) ja_law_448 rfl rfl ?_
  refine q_iload_n (pc' := 450) (x := i) ja_law_449 rfl rfl ?_
  refine q_iconst (pc' := 451) ja_law_450 rfl 2 (by decide) ?_
  refine q_iadd (pc' := 452) (x := i) (y := 2) ja_law_451 rfl ?_
  refine q_sald (pc' := 453) ja_law_452 rfl h2 ?_
  refine q_virt (pc' := 456) (c := 0) (as := [.int (G.1.2 (i + 1).toNatClampNeg), .int (G.1.2 (i + 2).toNatClampNeg)]) (r := []) ja_law_453 rfl rfl rfl (by decide) ⟨rfl, by decide⟩ ?_
  refine q_mono (fun v s' h' => ?_) (q_typ_int (k := 51) rfl rfl (st_section (G := G) (d := 88) hI _ _))
  obtain ⟨h', x, rfl⟩ := h'
  show q_W G 91 jm_law B 456 (ws_ls i) [.int x] s'
  refine q_aload_n (pc' := 457) (x := 146) ja_law_456 rfl rfl ?_
  refine q_aload_n (pc' := 458) (x := 1000000) ja_law_457 rfl rfl ?_
  refine q_iload_n (pc' := 459) (x := i) ja_law_458 rfl rfl ?_
  refine q_iconst (pc' := 460) ja_law_459 rfl 1 (by decide) ?_
  refine q_iadd (pc' := 461) (x := i) (y := 1) ja_law_460 rfl ?_
  refine q_sald (pc' := 462) ja_law_461 rfl h1 ?_
  refine q_aload_n (pc' := 463) (x := 1000000) ja_law_462 rfl rfl ?_
  refine q_iload_n (pc' := 464) (x := i) ja_law_463 rfl rfl ?_
  refine q_iconst (pc' := 465) ja_law_464 rfl 2 (by decide) ?_
  refine q_iadd (pc' := 466) (x := i) (y := 2) ja_law_465 rfl ?_
  refine q_sald (pc' := 467) ja_law_466 rfl h2 ?_
  refine q_virt (pc' := 470) (c := 146) (as := [.int (G.1.2 (i + 1).toNatClampNeg), .int (G.1.2 (i + 2).toNatClampNeg)]) (r := [.int x]) ja_law_467 rfl rfl rfl (by decide) ⟨rfl, by decide⟩ ?_
  refine q_mono (fun v s'' h'' => ?_) h'
  obtain ⟨rfl, hI'⟩ := h''
  show q_W G 91 jm_law B 470 (ws_ls i) [.int x, .int x] s''
  refine q_ic_eq (pc' := 473) ja_law_470 rfl (fun _ => kk s'' hI') (fun hx => absurd rfl hx)
theorem ws_op9 {G : jv_X} {B : Option Value → jg_H → Prop} {s : jg_H} {i : Int32} (hI : Inv s) (h1 : jv_in (i + 1) G.1.1 = true) (h2 : jv_in (i + 2) G.1.1 = true) (h3 : jv_in (i + 3) G.1.1 = true) (h4 : jv_in (i + 4) G.1.1 = true) (h5 : jv_in (i + 5) G.1.1 = true) (h6 : jv_in (i + 6) G.1.1 = true) (kk : ∀ s', Inv s' → q_W G 91 jm_law B 1361 (ws_ls i) [] s') : q_W G 91 jm_law B 475 (ws_ls i) [] s := by
  refine q_aload_n (pc' := 476) (x := 0) ja_law_475 rfl rfl ?_
  refine q_aload_n (pc' := 477) (x := 1000000) ja_law_476 rfl rfl ?_
  refine q_iload_n (pc' := 478) (x := i) ja_law_477 rfl rfl ?_
  refine q_iconst (pc' := 479) ja_law_478 rfl 1 (by decide) ?_
  refine q_iadd (pc' := 480) (x := i) (y := 1) ja_law_479 rfl ?_
  refine q_sald (pc' := 481) ja_law_480 rfl h1 ?_
  refine q_aload_n (pc' := 482) (x := 1000000) ja_law_481 rfl rfl ?_
  refine q_iload_n (pc' := 483) (x := i) ja_law_482 rfl rfl ?_
  refine q_iconst (pc' := 484) ja_law_483 rfl 2 (by decide) ?_
  refine q_iadd (pc' := 485) (x := i) (y := 2) ja_law_484 rfl ?_
  refine q_sald (pc' := 486) ja_law_485 rfl h2 ?_
  refine q_virt (pc' := 489) (c := 0) (as := [.int (G.1.2 (i + 1).toNatClampNeg), .int (G.1.2 (i + 2).toNatClampNeg)]) (r := []) ja_law_486 rfl rfl rfl (by decide) ⟨rfl, by decide⟩ ?_
  refine q_mono (fun v s' h' => ?_) (q_typ_int (k := 58) rfl rfl (st_billTold (G := G) (d := 88) hI _ _))
  obtain ⟨h', x, rfl⟩ := h'
  show q_W G 91 jm_law B 489 (ws_ls i) [.int x] s'
  refine q_aload_n (pc' := 490) (x := 146) ja_law_489 rfl rfl ?_
  refine q_aload_n (pc' := 491) (x := 1000000) ja_law_490 rfl rfl ?_
  refine q_iload_n (pc' := 492) (x := i) ja_law_491 rfl rfl ?_
  refine q_iconst (pc' := 493) ja_law_492 rfl 1 (by decide) ?_
  refine q_iadd (pc' := 494) (x := i) (y := 1) ja_law_493 rfl ?_
  refine q_sald (pc' := 495) ja_law_494 rfl h1 ?_
  refine q_aload_n (pc' := 496) (x := 1000000) ja_law_495 rfl rfl ?_
  refine q_iload_n (pc' := 497) (x := i) ja_law_496 rfl rfl ?_
  refine q_iconst (pc' := 498) ja_law_497 rfl 2 (by decide) ?_
  refine q_iadd (pc' := 499) (x := i) (y := 2) ja_law_498 rfl ?_
  refine q_sald (pc' := 500) ja_law_499 rfl h2 ?_
  refine q_virt (pc' := 503) (c := 146) (as := [.int (G.1.2 (i + 1).toNatClampNeg), .int (G.1.2 (i + 2).toNatClampNeg)]) (r := [.int x]) ja_law_500 rfl rfl rfl (by decide) ⟨rfl, by decide⟩ ?_
  refine q_mono (fun v s'' h'' => ?_) h'
  obtain ⟨rfl, hI'⟩ := h''
  show q_W G 91 jm_law B 503 (ws_ls i) [.int x, .int x] s''
  refine q_ic_eq (pc' := 506) ja_law_503 rfl (fun _ => kk s'' hI') (fun hx => absurd rfl hx)
theorem ws_op10 {G : jv_X} {B : Option Value → jg_H → Prop} {s : jg_H} {i : Int32} (hI : Inv s) (h1 : jv_in (i + 1) G.1.1 = true) (h2 : jv_in (i + 2) G.1.1 = true) (h3 : jv_in (i + 3) G.1.1 = true) (h4 : jv_in (i + 4) G.1.1 = true) (h5 : jv_in (i + 5) G.1.1 = true) (h6 : jv_in (i + 6) G.1.1 = true) (kk : ∀ s', Inv s' → q_W G 91 jm_law B 1361 (ws_ls i) [] s') : q_W G 91 jm_law B 508 (ws_ls i) [] s := by
  refine q_aload_n (pc' := 509) (x := 0) ja_law_508 rfl rfl ?_
  refine q_aload_n (pc' := 510) (x := 1000000) ja_law_509 rfl rfl ?_
  refine q_iload_n (pc' := 511) (x := i) ja_law_510 rfl rfl ?_
  refine q_iconst (pc' := 512) ja_law_511 rfl 1 (by decide) ?_
  refine q_iadd (pc' := 513) (x := i) (y := 1) ja_law_512 rfl ?_
  refine q_sald (pc' := 514) ja_law_513 rfl h1 ?_
  refine q_aload_n (pc' := 515) (x := 1000000) ja_law_514 rfl rfl ?_
  refine q_iload_n (pc' := 516) (x := i) ja_law_515 rfl rfl ?_
  refine q_iconst (pc' := 517) ja_law_516 rfl 2 (by decide) ?_
  refine q_iadd (pc' := 518) (x := i) (y := 2) ja_law_517 rfl ?_
  refine q_sald (pc' := 519) ja_law_518 rfl h2 ?_
  refine q_virt (pc' := 522) (c := 0) (as := [.int (G.1.2 (i + 1).toNatClampNeg), .int (G.1.2 (i + 2).toNatClampNeg)]) (r := []) ja_law_519 rfl rfl rfl (by decide) ⟨rfl, by decide⟩ ?_
  refine q_mono (fun v s' h' => ?_) (q_typ_int (k := 61) rfl rfl (st_word (G := G) (d := 88) hI _ _))
  obtain ⟨h', x, rfl⟩ := h'
  show q_W G 91 jm_law B 522 (ws_ls i) [.int x] s'
  refine q_aload_n (pc' := 523) (x := 146) ja_law_522 rfl rfl ?_
  refine q_aload_n (pc' := 524) (x := 1000000) ja_law_523 rfl rfl ?_
  refine q_iload_n (pc' := 525) (x := i) ja_law_524 rfl rfl ?_
  refine q_iconst (pc' := 526) ja_law_525 rfl 1 (by decide) ?_
  refine q_iadd (pc' := 527) (x := i) (y := 1) ja_law_526 rfl ?_
  refine q_sald (pc' := 528) ja_law_527 rfl h1 ?_
  refine q_aload_n (pc' := 529) (x := 1000000) ja_law_528 rfl rfl ?_
  refine q_iload_n (pc' := 530) (x := i) ja_law_529 rfl rfl ?_
  refine q_iconst (pc' := 531) ja_law_530 rfl 2 (by decide) ?_
  refine q_iadd (pc' := 532) (x := i) (y := 2) ja_law_531 rfl ?_
  refine q_sald (pc' := 533) ja_law_532 rfl h2 ?_
  refine q_virt (pc' := 536) (c := 146) (as := [.int (G.1.2 (i + 1).toNatClampNeg), .int (G.1.2 (i + 2).toNatClampNeg)]) (r := [.int x]) ja_law_533 rfl rfl rfl (by decide) ⟨rfl, by decide⟩ ?_
  refine q_mono (fun v s'' h'' => ?_) h'
  obtain ⟨rfl, hI'⟩ := h''
  show q_W G 91 jm_law B 536 (ws_ls i) [.int x, .int x] s''
  refine q_ic_eq (pc' := 539) ja_law_536 rfl (fun _ => kk s'' hI') (fun hx => absurd rfl hx)
theorem ws_op11 {G : jv_X} {B : Option Value → jg_H → Prop} {s : jg_H} {i : Int32} (hI : Inv s) (h1 : jv_in (i + 1) G.1.1 = true) (h2 : jv_in (i + 2) G.1.1 = true) (h3 : jv_in (i + 3) G.1.1 = true) (h4 : jv_in (i + 4) G.1.1 = true) (h5 : jv_in (i + 5) G.1.1 = true) (h6 : jv_in (i + 6) G.1.1 = true) (kk : ∀ s', Inv s' → q_W G 91 jm_law B 1361 (ws_ls i) [] s') : q_W G 91 jm_law B 541 (ws_ls i) [] s := by
  refine q_aload_n (pc' := 542) (x := 0) ja_law_541 rfl rfl ?_
  refine q_aload_n (pc' := 543) (x := 1000000) ja_law_542 rfl rfl ?_
  refine q_iload_n (pc' := 544) (x := i) ja_law_543 rfl rfl ?_
  refine q_iconst (pc' := 545) ja_law_544 rfl 1 (by decide) ?_
  refine q_iadd (pc' := 546) (x := i) (y := 1) ja_law_545 rfl ?_
  refine q_sald (pc' := 547) ja_law_546 rfl h1 ?_
  refine q_aload_n (pc' := 548) (x := 1000000) ja_law_547 rfl rfl ?_
  refine q_iload_n (pc' := 549) (x := i) ja_law_548 rfl rfl ?_
  refine q_iconst (pc' := 550) ja_law_549 rfl 2 (by decide) ?_
  refine q_iadd (pc' := 551) (x := i) (y := 2) ja_law_550 rfl ?_
  refine q_sald (pc' := 552) ja_law_551 rfl h2 ?_
  refine q_virt (pc' := 555) (c := 0) (as := [.int (G.1.2 (i + 1).toNatClampNeg), .int (G.1.2 (i + 2).toNatClampNeg)]) (r := []) ja_law_552 rfl rfl rfl (by decide) ⟨rfl, by decide⟩ ?_
  refine q_mono (fun v s' h' => ?_) (q_typ_long (k := 63) rfl rfl (st_worth (G := G) (d := 88) hI _ _))
  obtain ⟨h', x, rfl⟩ := h'
  show q_W G 91 jm_law B 555 (ws_ls i) [.long x] s'
  refine q_aload_n (pc' := 556) (x := 146) ja_law_555 rfl rfl ?_
  refine q_aload_n (pc' := 557) (x := 1000000) ja_law_556 rfl rfl ?_
  refine q_iload_n (pc' := 558) (x := i) ja_law_557 rfl rfl ?_
  refine q_iconst (pc' := 559) ja_law_558 rfl 1 (by decide) ?_
  refine q_iadd (pc' := 560) (x := i) (y := 1) ja_law_559 rfl ?_
  refine q_sald (pc' := 561) ja_law_560 rfl h1 ?_
  refine q_aload_n (pc' := 562) (x := 1000000) ja_law_561 rfl rfl ?_
  refine q_iload_n (pc' := 563) (x := i) ja_law_562 rfl rfl ?_
  refine q_iconst (pc' := 564) ja_law_563 rfl 2 (by decide) ?_
  refine q_iadd (pc' := 565) (x := i) (y := 2) ja_law_564 rfl ?_
  refine q_sald (pc' := 566) ja_law_565 rfl h2 ?_
  refine q_virt (pc' := 569) (c := 146) (as := [.int (G.1.2 (i + 1).toNatClampNeg), .int (G.1.2 (i + 2).toNatClampNeg)]) (r := [.long x]) ja_law_566 rfl rfl rfl (by decide) ⟨rfl, by decide⟩ ?_
  refine q_mono (fun v s'' h'' => ?_) h'
  obtain ⟨rfl, hI'⟩ := h''
  show q_W G 91 jm_law B 569 (ws_ls i) [.long x, .long x] s''
  refine q_lcmp (pc' := 570) ja_law_569 rfl ?_
  refine q_if_eq (pc' := 573) ja_law_570 rfl (fun _ => kk s'' hI') (fun hx => absurd (ws_cmp x) hx)
theorem ws_op12 {G : jv_X} {B : Option Value → jg_H → Prop} {s : jg_H} {i : Int32} (hI : Inv s) (h1 : jv_in (i + 1) G.1.1 = true) (h2 : jv_in (i + 2) G.1.1 = true) (h3 : jv_in (i + 3) G.1.1 = true) (h4 : jv_in (i + 4) G.1.1 = true) (h5 : jv_in (i + 5) G.1.1 = true) (h6 : jv_in (i + 6) G.1.1 = true) (kk : ∀ s', Inv s' → q_W G 91 jm_law B 1361 (ws_ls i) [] s') : q_W G 91 jm_law B 575 (ws_ls i) [] s := by
  refine q_aload_n (pc' := 576) (x := 0) ja_law_575 rfl rfl ?_
  refine q_aload_n (pc' := 577) (x := 1000000) ja_law_576 rfl rfl ?_
  refine q_iload_n (pc' := 578) (x := i) ja_law_577 rfl rfl ?_
  refine q_iconst (pc' := 579) ja_law_578 rfl 1 (by decide) ?_
  refine q_iadd (pc' := 580) (x := i) (y := 1) ja_law_579 rfl ?_
  refine q_sald (pc' := 581) ja_law_580 rfl h1 ?_
  refine q_virt (pc' := 584) (c := 0) (as := [.int (G.1.2 (i + 1).toNatClampNeg)]) (r := []) ja_law_581 rfl rfl rfl (by decide) ⟨rfl, by decide⟩ ?_
  refine q_mono (fun v s' h' => ?_) (q_typ_int (k := 65) rfl rfl (st_report (G := G) (d := 88) hI _))
  obtain ⟨h', x, rfl⟩ := h'
  show q_W G 91 jm_law B 584 (ws_ls i) [.int x] s'
  refine q_aload_n (pc' := 585) (x := 146) ja_law_584 rfl rfl ?_
  refine q_aload_n (pc' := 586) (x := 1000000) ja_law_585 rfl rfl ?_
  refine q_iload_n (pc' := 587) (x := i) ja_law_586 rfl rfl ?_
  refine q_iconst (pc' := 588) ja_law_587 rfl 1 (by decide) ?_
  refine q_iadd (pc' := 589) (x := i) (y := 1) ja_law_588 rfl ?_
  refine q_sald (pc' := 590) ja_law_589 rfl h1 ?_
  refine q_virt (pc' := 593) (c := 146) (as := [.int (G.1.2 (i + 1).toNatClampNeg)]) (r := [.int x]) ja_law_590 rfl rfl rfl (by decide) ⟨rfl, by decide⟩ ?_
  refine q_mono (fun v s'' h'' => ?_) h'
  obtain ⟨rfl, hI'⟩ := h''
  show q_W G 91 jm_law B 593 (ws_ls i) [.int x, .int x] s''
  refine q_ic_eq (pc' := 596) ja_law_593 rfl (fun _ => kk s'' hI') (fun hx => absurd rfl hx)
theorem ws_op13 {G : jv_X} {B : Option Value → jg_H → Prop} {s : jg_H} {i : Int32} (hI : Inv s) (h1 : jv_in (i + 1) G.1.1 = true) (h2 : jv_in (i + 2) G.1.1 = true) (h3 : jv_in (i + 3) G.1.1 = true) (h4 : jv_in (i + 4) G.1.1 = true) (h5 : jv_in (i + 5) G.1.1 = true) (h6 : jv_in (i + 6) G.1.1 = true) (kk : ∀ s', Inv s' → q_W G 91 jm_law B 1361 (ws_ls i) [] s') : q_W G 91 jm_law B 598 (ws_ls i) [] s := by
  refine q_aload_n (pc' := 599) (x := 0) ja_law_598 rfl rfl ?_
  refine q_aload_n (pc' := 600) (x := 1000000) ja_law_599 rfl rfl ?_
  refine q_iload_n (pc' := 601) (x := i) ja_law_600 rfl rfl ?_
  refine q_iconst (pc' := 602) ja_law_601 rfl 1 (by decide) ?_
  refine q_iadd (pc' := 603) (x := i) (y := 1) ja_law_602 rfl ?_
  refine q_sald (pc' := 604) ja_law_603 rfl h1 ?_
  refine q_aload_n (pc' := 605) (x := 1000000) ja_law_604 rfl rfl ?_
  refine q_iload_n (pc' := 606) (x := i) ja_law_605 rfl rfl ?_
  refine q_iconst (pc' := 607) ja_law_606 rfl 2 (by decide) ?_
  refine q_iadd (pc' := 608) (x := i) (y := 2) ja_law_607 rfl ?_
  refine q_sald (pc' := 609) ja_law_608 rfl h2 ?_
  refine q_virt (pc' := 612) (c := 0) (as := [.int (G.1.2 (i + 1).toNatClampNeg), .int (G.1.2 (i + 2).toNatClampNeg)]) (r := []) ja_law_609 rfl rfl rfl (by decide) ⟨rfl, by decide⟩ ?_
  refine q_mono (fun v s' h' => ?_) (q_typ_int (k := 67) rfl rfl (st_sign (G := G) (d := 88) hI _ _))
  obtain ⟨h', x, rfl⟩ := h'
  show q_W G 91 jm_law B 612 (ws_ls i) [.int x] s'
  refine q_aload_n (pc' := 613) (x := 146) ja_law_612 rfl rfl ?_
  refine q_aload_n (pc' := 614) (x := 1000000) ja_law_613 rfl rfl ?_
  refine q_iload_n (pc' := 615) (x := i) ja_law_614 rfl rfl ?_
  refine q_iconst (pc' := 616) ja_law_615 rfl 1 (by decide) ?_
  refine q_iadd (pc' := 617) (x := i) (y := 1) ja_law_616 rfl ?_
  refine q_sald (pc' := 618) ja_law_617 rfl h1 ?_
  refine q_aload_n (pc' := 619) (x := 1000000) ja_law_618 rfl rfl ?_
  refine q_iload_n (pc' := 620) (x := i) ja_law_619 rfl rfl ?_
  refine q_iconst (pc' := 621) ja_law_620 rfl 2 (by decide) ?_
  refine q_iadd (pc' := 622) (x := i) (y := 2) ja_law_621 rfl ?_
  refine q_sald (pc' := 623) ja_law_622 rfl h2 ?_
  refine q_virt (pc' := 626) (c := 146) (as := [.int (G.1.2 (i + 1).toNatClampNeg), .int (G.1.2 (i + 2).toNatClampNeg)]) (r := [.int x]) ja_law_623 rfl rfl rfl (by decide) ⟨rfl, by decide⟩ ?_
  refine q_mono (fun v s'' h'' => ?_) h'
  obtain ⟨rfl, hI'⟩ := h''
  show q_W G 91 jm_law B 626 (ws_ls i) [.int x, .int x] s''
  refine q_ic_eq (pc' := 629) ja_law_626 rfl (fun _ => kk s'' hI') (fun hx => absurd rfl hx)
theorem ws_op14 {G : jv_X} {B : Option Value → jg_H → Prop} {s : jg_H} {i : Int32} (hI : Inv s) (h1 : jv_in (i + 1) G.1.1 = true) (h2 : jv_in (i + 2) G.1.1 = true) (h3 : jv_in (i + 3) G.1.1 = true) (h4 : jv_in (i + 4) G.1.1 = true) (h5 : jv_in (i + 5) G.1.1 = true) (h6 : jv_in (i + 6) G.1.1 = true) (kk : ∀ s', Inv s' → q_W G 91 jm_law B 1361 (ws_ls i) [] s') : q_W G 91 jm_law B 631 (ws_ls i) [] s := by
  refine q_aload_n (pc' := 632) (x := 0) ja_law_631 rfl rfl ?_
  refine q_virt (pc' := 635) (c := 0) (as := []) (r := []) ja_law_632 rfl rfl rfl (by decide) ⟨rfl, by decide⟩ ?_
  refine q_mono (fun v s' h' => ?_) (q_typ_int (k := 68) rfl rfl (st_call (G := G) (d := 89) hI))
  obtain ⟨h', x, rfl⟩ := h'
  show q_W G 91 jm_law B 635 (ws_ls i) [.int x] s'
  refine q_aload_n (pc' := 636) (x := 146) ja_law_635 rfl rfl ?_
  refine q_virt (pc' := 639) (c := 146) (as := []) (r := [.int x]) ja_law_636 rfl rfl rfl (by decide) ⟨rfl, by decide⟩ ?_
  refine q_mono (fun v s'' h'' => ?_) h'
  obtain ⟨rfl, hI'⟩ := h''
  show q_W G 91 jm_law B 639 (ws_ls i) [.int x, .int x] s''
  refine q_ic_eq (pc' := 642) ja_law_639 rfl (fun _ => kk s'' hI') (fun hx => absurd rfl hx)
theorem ws_op15 {G : jv_X} {B : Option Value → jg_H → Prop} {s : jg_H} {i : Int32} (hI : Inv s) (h1 : jv_in (i + 1) G.1.1 = true) (h2 : jv_in (i + 2) G.1.1 = true) (h3 : jv_in (i + 3) G.1.1 = true) (h4 : jv_in (i + 4) G.1.1 = true) (h5 : jv_in (i + 5) G.1.1 = true) (h6 : jv_in (i + 6) G.1.1 = true) (kk : ∀ s', Inv s' → q_W G 91 jm_law B 1361 (ws_ls i) [] s') : q_W G 91 jm_law B 644 (ws_ls i) [] s := by
  refine q_aload_n (pc' := 645) (x := 0) ja_law_644 rfl rfl ?_
  refine q_aload_n (pc' := 646) (x := 1000000) ja_law_645 rfl rfl ?_
  refine q_iload_n (pc' := 647) (x := i) ja_law_646 rfl rfl ?_
  refine q_iconst (pc' := 648) ja_law_647 rfl 1 (by decide) ?_
  refine q_iadd (pc' := 649) (x := i) (y := 1) ja_law_648 rfl ?_
  refine q_sald (pc' := 650) ja_law_649 rfl h1 ?_
  refine q_aload_n (pc' := 651) (x := 1000000) ja_law_650 rfl rfl ?_
  refine q_iload_n (pc' := 652) (x := i) ja_law_651 rfl rfl ?_
  refine q_iconst (pc' := 653) ja_law_652 rfl 2 (by decide) ?_
  refine q_iadd (pc' := 654) (x := i) (y := 2) ja_law_653 rfl ?_
  refine q_sald (pc' := 655) ja_law_654 rfl h2 ?_
  refine q_i2l (pc' := 656) ja_law_655 rfl ?_
  refine q_bipush (pc' := 658) ja_law_656 rfl 32 (by decide) ?_
  refine q_lshl (pc' := 659) ja_law_658 rfl ?_
  refine q_aload_n (pc' := 660) (x := 1000000) ja_law_659 rfl rfl ?_
  refine q_iload_n (pc' := 661) (x := i) ja_law_660 rfl rfl ?_
  refine q_iconst (pc' := 662) ja_law_661 rfl 3 (by decide) ?_
  refine q_iadd (pc' := 663) (x := i) (y := 3) ja_law_662 rfl ?_
  refine q_sald (pc' := 664) ja_law_663 rfl h3 ?_
  refine q_i2l (pc' := 665) ja_law_664 rfl ?_
  refine q_ldc2 (pc' := 668) ja_law_665 rfl 4294967295 (by decide) ?_
  refine q_land (pc' := 669) ja_law_668 rfl ?_
  refine q_lor (pc' := 670) ja_law_669 rfl ?_
  refine q_virt (pc' := 673) (c := 0) (as := [.int (G.1.2 (i + 1).toNatClampNeg), .long ((((G.1.2 (i + 2).toNatClampNeg).toInt64 <<< ((32 : Int32).toInt64 &&& 63)) ||| ((G.1.2 (i + 3).toNatClampNeg).toInt64 &&& (4294967295 : Int64))))]) (r := []) ja_law_670 rfl rfl rfl (by decide) ⟨rfl, by decide⟩ ?_
  refine q_mono (fun v s' h' => ?_) (q_typ_int (k := 69) rfl rfl (st_feed (G := G) (d := 89) hI _ _))
  obtain ⟨h', x, rfl⟩ := h'
  show q_W G 91 jm_law B 673 (ws_ls i) [.int x] s'
  refine q_aload_n (pc' := 674) (x := 146) ja_law_673 rfl rfl ?_
  refine q_aload_n (pc' := 675) (x := 1000000) ja_law_674 rfl rfl ?_
  refine q_iload_n (pc' := 676) (x := i) ja_law_675 rfl rfl ?_
  refine q_iconst (pc' := 677) ja_law_676 rfl 1 (by decide) ?_
  refine q_iadd (pc' := 678) (x := i) (y := 1) ja_law_677 rfl ?_
  refine q_sald (pc' := 679) ja_law_678 rfl h1 ?_
  refine q_aload_n (pc' := 680) (x := 1000000) ja_law_679 rfl rfl ?_
  refine q_iload_n (pc' := 681) (x := i) ja_law_680 rfl rfl ?_
  refine q_iconst (pc' := 682) ja_law_681 rfl 2 (by decide) ?_
  refine q_iadd (pc' := 683) (x := i) (y := 2) ja_law_682 rfl ?_
  refine q_sald (pc' := 684) ja_law_683 rfl h2 ?_
  refine q_i2l (pc' := 685) ja_law_684 rfl ?_
  refine q_bipush (pc' := 687) ja_law_685 rfl 32 (by decide) ?_
  refine q_lshl (pc' := 688) ja_law_687 rfl ?_
  refine q_aload_n (pc' := 689) (x := 1000000) ja_law_688 rfl rfl ?_
  refine q_iload_n (pc' := 690) (x := i) ja_law_689 rfl rfl ?_
  refine q_iconst (pc' := 691) ja_law_690 rfl 3 (by decide) ?_
  refine q_iadd (pc' := 692) (x := i) (y := 3) ja_law_691 rfl ?_
  refine q_sald (pc' := 693) ja_law_692 rfl h3 ?_
  refine q_i2l (pc' := 694) ja_law_693 rfl ?_
  refine q_ldc2 (pc' := 697) ja_law_694 rfl 4294967295 (by decide) ?_
  refine q_land (pc' := 698) ja_law_697 rfl ?_
  refine q_lor (pc' := 699) ja_law_698 rfl ?_
  refine q_virt (pc' := 702) (c := 146) (as := [.int (G.1.2 (i + 1).toNatClampNeg), .long ((((G.1.2 (i + 2).toNatClampNeg).toInt64 <<< ((32 : Int32).toInt64 &&& 63)) ||| ((G.1.2 (i + 3).toNatClampNeg).toInt64 &&& (4294967295 : Int64))))]) (r := [.int x]) ja_law_699 rfl rfl rfl (by decide) ⟨rfl, by decide⟩ ?_
  refine q_mono (fun v s'' h'' => ?_) h'
  obtain ⟨rfl, hI'⟩ := h''
  show q_W G 91 jm_law B 702 (ws_ls i) [.int x, .int x] s''
  refine q_ic_eq (pc' := 705) ja_law_702 rfl (fun _ => kk s'' hI') (fun hx => absurd rfl hx)
theorem ws_op16 {G : jv_X} {B : Option Value → jg_H → Prop} {s : jg_H} {i : Int32} {R : jg_H → Prop} (h1 : jv_in (i + 1) G.1.1 = true) (h2 : jv_in (i + 2) G.1.1 = true) (h3 : jv_in (i + 3) G.1.1 = true) (h4 : jv_in (i + 4) G.1.1 = true) (h5 : jv_in (i + 5) G.1.1 = true) (h6 : jv_in (i + 6) G.1.1 = true) (kk : ∀ s', R s' → q_W G 91 jm_law B 1361 (ws_ls i) [] s') (htext : q_P G 91 70 [.ref 0] s (fun r s' => q_P G 91 176 [.ref 146] s' (fun r' s'' => r = r' ∧ R s''))) : q_W G 91 jm_law B 707 (ws_ls i) [] s := by
  refine q_aload_n (pc' := 708) (x := 0) ja_law_707 rfl rfl ?_
  refine q_virt (pc' := 711) (c := 0) (as := []) (r := []) ja_law_708 rfl rfl rfl (by decide) ⟨rfl, by decide⟩ ?_
  refine q_mono (fun v s' h' => ?_) (q_typ_int (k := 70) rfl rfl htext)
  obtain ⟨h', x, rfl⟩ := h'
  show q_W G 91 jm_law B 711 (ws_ls i) [.int x] s'
  refine q_aload_n (pc' := 712) (x := 146) ja_law_711 rfl rfl ?_
  refine q_virt (pc' := 715) (c := 146) (as := []) (r := [.int x]) ja_law_712 rfl rfl rfl (by decide) ⟨rfl, by decide⟩ ?_
  refine q_mono (fun v s'' h'' => ?_) h'
  obtain ⟨rfl, hI'⟩ := h''
  show q_W G 91 jm_law B 715 (ws_ls i) [.int x, .int x] s''
  refine q_ic_eq (pc' := 718) ja_law_715 rfl (fun _ => kk s'' hI') (fun hx => absurd rfl hx)
theorem ws_op17 {G : jv_X} {B : Option Value → jg_H → Prop} {s : jg_H} {i : Int32} (hI : Inv s) (h1 : jv_in (i + 1) G.1.1 = true) (h2 : jv_in (i + 2) G.1.1 = true) (h3 : jv_in (i + 3) G.1.1 = true) (h4 : jv_in (i + 4) G.1.1 = true) (h5 : jv_in (i + 5) G.1.1 = true) (h6 : jv_in (i + 6) G.1.1 = true) (kk : ∀ s', Inv s' → q_W G 91 jm_law B 1361 (ws_ls i) [] s') : q_W G 91 jm_law B 720 (ws_ls i) [] s := by
  refine q_aload_n (pc' := 721) (x := 0) ja_law_720 rfl rfl ?_
  refine q_aload_n (pc' := 722) (x := 1000000) ja_law_721 rfl rfl ?_
  refine q_iload_n (pc' := 723) (x := i) ja_law_722 rfl rfl ?_
  refine q_iconst (pc' := 724) ja_law_723 rfl 1 (by decide) ?_
  refine q_iadd (pc' := 725) (x := i) (y := 1) ja_law_724 rfl ?_
  refine q_sald (pc' := 726) ja_law_725 rfl h1 ?_
  refine q_aload_n (pc' := 727) (x := 1000000) ja_law_726 rfl rfl ?_
  refine q_iload_n (pc' := 728) (x := i) ja_law_727 rfl rfl ?_
  refine q_iconst (pc' := 729) ja_law_728 rfl 2 (by decide) ?_
  refine q_iadd (pc' := 730) (x := i) (y := 2) ja_law_729 rfl ?_
  refine q_sald (pc' := 731) ja_law_730 rfl h2 ?_
  refine q_aload_n (pc' := 732) (x := 1000000) ja_law_731 rfl rfl ?_
  refine q_iload_n (pc' := 733) (x := i) ja_law_732 rfl rfl ?_
  refine q_iconst (pc' := 734) ja_law_733 rfl 3 (by decide) ?_
  refine q_iadd (pc' := 735) (x := i) (y := 3) ja_law_734 rfl ?_
  refine q_sald (pc' := 736) ja_law_735 rfl h3 ?_
  refine q_aload_n (pc' := 737) (x := 1000000) ja_law_736 rfl rfl ?_
  refine q_iload_n (pc' := 738) (x := i) ja_law_737 rfl rfl ?_
  refine q_iconst (pc' := 739) ja_law_738 rfl 4 (by decide) ?_
  refine q_iadd (pc' := 740) (x := i) (y := 4) ja_law_739 rfl ?_
  refine q_sald (pc' := 741) ja_law_740 rfl h4 ?_
  refine q_aload_n (pc' := 742) (x := 1000000) ja_law_741 rfl rfl ?_
  refine q_iload_n (pc' := 743) (x := i) ja_law_742 rfl rfl ?_
  refine q_iconst (pc' := 744) ja_law_743 rfl 5 (by decide) ?_
  refine q_iadd (pc' := 745) (x := i) (y := 5) ja_law_744 rfl ?_
  refine q_sald (pc' := 746) ja_law_745 rfl h5 ?_
  refine q_aload_n (pc' := 747) (x := 1000000) ja_law_746 rfl rfl ?_
  refine q_iload_n (pc' := 748) (x := i) ja_law_747 rfl rfl ?_
  refine q_bipush (pc' := 750) ja_law_748 rfl 6 (by decide) ?_
  refine q_iadd (pc' := 751) (x := i) (y := 6) ja_law_750 rfl ?_
  refine q_sald (pc' := 752) ja_law_751 rfl h6 ?_
  refine q_virt (pc' := 755) (c := 0) (as := [.int (G.1.2 (i + 1).toNatClampNeg), .int (G.1.2 (i + 2).toNatClampNeg), .int (G.1.2 (i + 3).toNatClampNeg), .int (G.1.2 (i + 4).toNatClampNeg), .int (G.1.2 (i + 5).toNatClampNeg), .int (G.1.2 (i + 6).toNatClampNeg)]) (r := []) ja_law_752 rfl rfl rfl (by decide) ⟨rfl, by decide⟩ ?_
  refine q_mono (fun v s' h' => ?_) (q_typ_long (k := 71) rfl rfl (st_says (G := G) (d := 87) hI _ _ _ _ _ _))
  obtain ⟨h', x, rfl⟩ := h'
  show q_W G 91 jm_law B 755 (ws_ls i) [.long x] s'
  refine q_aload_n (pc' := 756) (x := 146) ja_law_755 rfl rfl ?_
  refine q_aload_n (pc' := 757) (x := 1000000) ja_law_756 rfl rfl ?_
  refine q_iload_n (pc' := 758) (x := i) ja_law_757 rfl rfl ?_
  refine q_iconst (pc' := 759) ja_law_758 rfl 1 (by decide) ?_
  refine q_iadd (pc' := 760) (x := i) (y := 1) ja_law_759 rfl ?_
  refine q_sald (pc' := 761) ja_law_760 rfl h1 ?_
  refine q_aload_n (pc' := 762) (x := 1000000) ja_law_761 rfl rfl ?_
  refine q_iload_n (pc' := 763) (x := i) ja_law_762 rfl rfl ?_
  refine q_iconst (pc' := 764) ja_law_763 rfl 2 (by decide) ?_
  refine q_iadd (pc' := 765) (x := i) (y := 2) ja_law_764 rfl ?_
  refine q_sald (pc' := 766) ja_law_765 rfl h2 ?_
  refine q_aload_n (pc' := 767) (x := 1000000) ja_law_766 rfl rfl ?_
  refine q_iload_n (pc' := 768) (x := i) ja_law_767 rfl rfl ?_
  refine q_iconst (pc' := 769) ja_law_768 rfl 3 (by decide) ?_
  refine q_iadd (pc' := 770) (x := i) (y := 3) ja_law_769 rfl ?_
  refine q_sald (pc' := 771) ja_law_770 rfl h3 ?_
  refine q_aload_n (pc' := 772) (x := 1000000) ja_law_771 rfl rfl ?_
  refine q_iload_n (pc' := 773) (x := i) ja_law_772 rfl rfl ?_
  refine q_iconst (pc' := 774) ja_law_773 rfl 4 (by decide) ?_
  refine q_iadd (pc' := 775) (x := i) (y := 4) ja_law_774 rfl ?_
  refine q_sald (pc' := 776) ja_law_775 rfl h4 ?_
  refine q_aload_n (pc' := 777) (x := 1000000) ja_law_776 rfl rfl ?_
  refine q_iload_n (pc' := 778) (x := i) ja_law_777 rfl rfl ?_
  refine q_iconst (pc' := 779) ja_law_778 rfl 5 (by decide) ?_
  refine q_iadd (pc' := 780) (x := i) (y := 5) ja_law_779 rfl ?_
  refine q_sald (pc' := 781) ja_law_780 rfl h5 ?_
  refine q_aload_n (pc' := 782) (x := 1000000) ja_law_781 rfl rfl ?_
  refine q_iload_n (pc' := 783) (x := i) ja_law_782 rfl rfl ?_
  refine q_bipush (pc' := 785) ja_law_783 rfl 6 (by decide) ?_
  refine q_iadd (pc' := 786) (x := i) (y := 6) ja_law_785 rfl ?_
  refine q_sald (pc' := 787) ja_law_786 rfl h6 ?_
  refine q_virt (pc' := 790) (c := 146) (as := [.int (G.1.2 (i + 1).toNatClampNeg), .int (G.1.2 (i + 2).toNatClampNeg), .int (G.1.2 (i + 3).toNatClampNeg), .int (G.1.2 (i + 4).toNatClampNeg), .int (G.1.2 (i + 5).toNatClampNeg), .int (G.1.2 (i + 6).toNatClampNeg)]) (r := [.long x]) ja_law_787 rfl rfl rfl (by decide) ⟨rfl, by decide⟩ ?_
  refine q_mono (fun v s'' h'' => ?_) h'
  obtain ⟨rfl, hI'⟩ := h''
  show q_W G 91 jm_law B 790 (ws_ls i) [.long x, .long x] s''
  refine q_lcmp (pc' := 791) ja_law_790 rfl ?_
  refine q_if_eq (pc' := 794) ja_law_791 rfl (fun _ => kk s'' hI') (fun hx => absurd (ws_cmp x) hx)
theorem ws_op18 {G : jv_X} {B : Option Value → jg_H → Prop} {s : jg_H} {i : Int32} (hI : Inv s) (h1 : jv_in (i + 1) G.1.1 = true) (h2 : jv_in (i + 2) G.1.1 = true) (h3 : jv_in (i + 3) G.1.1 = true) (h4 : jv_in (i + 4) G.1.1 = true) (h5 : jv_in (i + 5) G.1.1 = true) (h6 : jv_in (i + 6) G.1.1 = true) (kk : ∀ s', Inv s' → q_W G 91 jm_law B 1361 (ws_ls i) [] s') : q_W G 91 jm_law B 796 (ws_ls i) [] s := by
  refine q_aload_n (pc' := 797) (x := 0) ja_law_796 rfl rfl ?_
  refine q_aload_n (pc' := 798) (x := 1000000) ja_law_797 rfl rfl ?_
  refine q_iload_n (pc' := 799) (x := i) ja_law_798 rfl rfl ?_
  refine q_iconst (pc' := 800) ja_law_799 rfl 1 (by decide) ?_
  refine q_iadd (pc' := 801) (x := i) (y := 1) ja_law_800 rfl ?_
  refine q_sald (pc' := 802) ja_law_801 rfl h1 ?_
  refine q_aload_n (pc' := 803) (x := 1000000) ja_law_802 rfl rfl ?_
  refine q_iload_n (pc' := 804) (x := i) ja_law_803 rfl rfl ?_
  refine q_iconst (pc' := 805) ja_law_804 rfl 2 (by decide) ?_
  refine q_iadd (pc' := 806) (x := i) (y := 2) ja_law_805 rfl ?_
  refine q_sald (pc' := 807) ja_law_806 rfl h2 ?_
  refine q_aload_n (pc' := 808) (x := 1000000) ja_law_807 rfl rfl ?_
  refine q_iload_n (pc' := 809) (x := i) ja_law_808 rfl rfl ?_
  refine q_iconst (pc' := 810) ja_law_809 rfl 3 (by decide) ?_
  refine q_iadd (pc' := 811) (x := i) (y := 3) ja_law_810 rfl ?_
  refine q_sald (pc' := 812) ja_law_811 rfl h3 ?_
  refine q_aload_n (pc' := 813) (x := 1000000) ja_law_812 rfl rfl ?_
  refine q_iload_n (pc' := 814) (x := i) ja_law_813 rfl rfl ?_
  refine q_iconst (pc' := 815) ja_law_814 rfl 4 (by decide) ?_
  refine q_iadd (pc' := 816) (x := i) (y := 4) ja_law_815 rfl ?_
  refine q_sald (pc' := 817) ja_law_816 rfl h4 ?_
  refine q_virt (pc' := 820) (c := 0) (as := [.int (G.1.2 (i + 1).toNatClampNeg), .int (G.1.2 (i + 2).toNatClampNeg), .int (G.1.2 (i + 3).toNatClampNeg), .int (G.1.2 (i + 4).toNatClampNeg)]) (r := []) ja_law_817 rfl rfl rfl (by decide) ⟨rfl, by decide⟩ ?_
  refine q_mono (fun v s' h' => ?_) (q_typ_int (k := 80) rfl rfl (st_act (G := G) (d := 84) hI _ _ _ _))
  obtain ⟨h', x, rfl⟩ := h'
  show q_W G 91 jm_law B 820 (ws_ls i) [.int x] s'
  refine q_aload_n (pc' := 821) (x := 146) ja_law_820 rfl rfl ?_
  refine q_aload_n (pc' := 822) (x := 1000000) ja_law_821 rfl rfl ?_
  refine q_iload_n (pc' := 823) (x := i) ja_law_822 rfl rfl ?_
  refine q_iconst (pc' := 824) ja_law_823 rfl 1 (by decide) ?_
  refine q_iadd (pc' := 825) (x := i) (y := 1) ja_law_824 rfl ?_
  refine q_sald (pc' := 826) ja_law_825 rfl h1 ?_
  refine q_aload_n (pc' := 827) (x := 1000000) ja_law_826 rfl rfl ?_
  refine q_iload_n (pc' := 828) (x := i) ja_law_827 rfl rfl ?_
  refine q_iconst (pc' := 829) ja_law_828 rfl 2 (by decide) ?_
  refine q_iadd (pc' := 830) (x := i) (y := 2) ja_law_829 rfl ?_
  refine q_sald (pc' := 831) ja_law_830 rfl h2 ?_
  refine q_aload_n (pc' := 832) (x := 1000000) ja_law_831 rfl rfl ?_
  refine q_iload_n (pc' := 833) (x := i) ja_law_832 rfl rfl ?_
  refine q_iconst (pc' := 834) ja_law_833 rfl 3 (by decide) ?_
  refine q_iadd (pc' := 835) (x := i) (y := 3) ja_law_834 rfl ?_
  refine q_sald (pc' := 836) ja_law_835 rfl h3 ?_
  refine q_aload_n (pc' := 837) (x := 1000000) ja_law_836 rfl rfl ?_
  refine q_iload_n (pc' := 838) (x := i) ja_law_837 rfl rfl ?_
  refine q_iconst (pc' := 839) ja_law_838 rfl 4 (by decide) ?_
  refine q_iadd (pc' := 840) (x := i) (y := 4) ja_law_839 rfl ?_
  refine q_sald (pc' := 841) ja_law_840 rfl h4 ?_
  refine q_virt (pc' := 844) (c := 146) (as := [.int (G.1.2 (i + 1).toNatClampNeg), .int (G.1.2 (i + 2).toNatClampNeg), .int (G.1.2 (i + 3).toNatClampNeg), .int (G.1.2 (i + 4).toNatClampNeg)]) (r := [.int x]) ja_law_841 rfl rfl rfl (by decide) ⟨rfl, by decide⟩ ?_
  refine q_mono (fun v s'' h'' => ?_) h'
  obtain ⟨rfl, hI'⟩ := h''
  show q_W G 91 jm_law B 844 (ws_ls i) [.int x, .int x] s''
  refine q_ic_eq (pc' := 847) ja_law_844 rfl (fun _ => kk s'' hI') (fun hx => absurd rfl hx)
theorem ws_op19 {G : jv_X} {B : Option Value → jg_H → Prop} {s : jg_H} {i : Int32} (hI : Inv s) (h1 : jv_in (i + 1) G.1.1 = true) (h2 : jv_in (i + 2) G.1.1 = true) (h3 : jv_in (i + 3) G.1.1 = true) (h4 : jv_in (i + 4) G.1.1 = true) (h5 : jv_in (i + 5) G.1.1 = true) (h6 : jv_in (i + 6) G.1.1 = true) (kk : ∀ s', Inv s' → q_W G 91 jm_law B 1361 (ws_ls i) [] s') : q_W G 91 jm_law B 849 (ws_ls i) [] s := by
  refine q_aload_n (pc' := 850) (x := 0) ja_law_849 rfl rfl ?_
  refine q_aload_n (pc' := 851) (x := 1000000) ja_law_850 rfl rfl ?_
  refine q_iload_n (pc' := 852) (x := i) ja_law_851 rfl rfl ?_
  refine q_iconst (pc' := 853) ja_law_852 rfl 1 (by decide) ?_
  refine q_iadd (pc' := 854) (x := i) (y := 1) ja_law_853 rfl ?_
  refine q_sald (pc' := 855) ja_law_854 rfl h1 ?_
  refine q_aload_n (pc' := 856) (x := 1000000) ja_law_855 rfl rfl ?_
  refine q_iload_n (pc' := 857) (x := i) ja_law_856 rfl rfl ?_
  refine q_iconst (pc' := 858) ja_law_857 rfl 2 (by decide) ?_
  refine q_iadd (pc' := 859) (x := i) (y := 2) ja_law_858 rfl ?_
  refine q_sald (pc' := 860) ja_law_859 rfl h2 ?_
  refine q_aload_n (pc' := 861) (x := 1000000) ja_law_860 rfl rfl ?_
  refine q_iload_n (pc' := 862) (x := i) ja_law_861 rfl rfl ?_
  refine q_iconst (pc' := 863) ja_law_862 rfl 3 (by decide) ?_
  refine q_iadd (pc' := 864) (x := i) (y := 3) ja_law_863 rfl ?_
  refine q_sald (pc' := 865) ja_law_864 rfl h3 ?_
  refine q_aload_n (pc' := 866) (x := 1000000) ja_law_865 rfl rfl ?_
  refine q_iload_n (pc' := 867) (x := i) ja_law_866 rfl rfl ?_
  refine q_iconst (pc' := 868) ja_law_867 rfl 4 (by decide) ?_
  refine q_iadd (pc' := 869) (x := i) (y := 4) ja_law_868 rfl ?_
  refine q_sald (pc' := 870) ja_law_869 rfl h4 ?_
  refine q_virt (pc' := 873) (c := 0) (as := [.int (G.1.2 (i + 1).toNatClampNeg), .int (G.1.2 (i + 2).toNatClampNeg), .int (G.1.2 (i + 3).toNatClampNeg), .int (G.1.2 (i + 4).toNatClampNeg)]) (r := []) ja_law_870 rfl rfl rfl (by decide) ⟨rfl, by decide⟩ ?_
  refine q_mono (fun v s' h' => ?_) (q_typ_int (k := 91) rfl rfl (st_why (G := G) (d := 85) hI _ _ _ _))
  obtain ⟨h', x, rfl⟩ := h'
  show q_W G 91 jm_law B 873 (ws_ls i) [.int x] s'
  refine q_aload_n (pc' := 874) (x := 146) ja_law_873 rfl rfl ?_
  refine q_aload_n (pc' := 875) (x := 1000000) ja_law_874 rfl rfl ?_
  refine q_iload_n (pc' := 876) (x := i) ja_law_875 rfl rfl ?_
  refine q_iconst (pc' := 877) ja_law_876 rfl 1 (by decide) ?_
  refine q_iadd (pc' := 878) (x := i) (y := 1) ja_law_877 rfl ?_
  refine q_sald (pc' := 879) ja_law_878 rfl h1 ?_
  refine q_aload_n (pc' := 880) (x := 1000000) ja_law_879 rfl rfl ?_
  refine q_iload_n (pc' := 881) (x := i) ja_law_880 rfl rfl ?_
  refine q_iconst (pc' := 882) ja_law_881 rfl 2 (by decide) ?_
  refine q_iadd (pc' := 883) (x := i) (y := 2) ja_law_882 rfl ?_
  refine q_sald (pc' := 884) ja_law_883 rfl h2 ?_
  refine q_aload_n (pc' := 885) (x := 1000000) ja_law_884 rfl rfl ?_
  refine q_iload_n (pc' := 886) (x := i) ja_law_885 rfl rfl ?_
  refine q_iconst (pc' := 887) ja_law_886 rfl 3 (by decide) ?_
  refine q_iadd (pc' := 888) (x := i) (y := 3) ja_law_887 rfl ?_
  refine q_sald (pc' := 889) ja_law_888 rfl h3 ?_
  refine q_aload_n (pc' := 890) (x := 1000000) ja_law_889 rfl rfl ?_
  refine q_iload_n (pc' := 891) (x := i) ja_law_890 rfl rfl ?_
  refine q_iconst (pc' := 892) ja_law_891 rfl 4 (by decide) ?_
  refine q_iadd (pc' := 893) (x := i) (y := 4) ja_law_892 rfl ?_
  refine q_sald (pc' := 894) ja_law_893 rfl h4 ?_
  refine q_virt (pc' := 897) (c := 146) (as := [.int (G.1.2 (i + 1).toNatClampNeg), .int (G.1.2 (i + 2).toNatClampNeg), .int (G.1.2 (i + 3).toNatClampNeg), .int (G.1.2 (i + 4).toNatClampNeg)]) (r := [.int x]) ja_law_894 rfl rfl rfl (by decide) ⟨rfl, by decide⟩ ?_
  refine q_mono (fun v s'' h'' => ?_) h'
  obtain ⟨rfl, hI'⟩ := h''
  show q_W G 91 jm_law B 897 (ws_ls i) [.int x, .int x] s''
  refine q_ic_eq (pc' := 900) ja_law_897 rfl (fun _ => kk s'' hI') (fun hx => absurd rfl hx)
theorem ws_op20 {G : jv_X} {B : Option Value → jg_H → Prop} {s : jg_H} {i : Int32} (hI : Inv s) (h1 : jv_in (i + 1) G.1.1 = true) (h2 : jv_in (i + 2) G.1.1 = true) (h3 : jv_in (i + 3) G.1.1 = true) (h4 : jv_in (i + 4) G.1.1 = true) (h5 : jv_in (i + 5) G.1.1 = true) (h6 : jv_in (i + 6) G.1.1 = true) (kk : ∀ s', Inv s' → q_W G 91 jm_law B 1361 (ws_ls i) [] s') : q_W G 91 jm_law B 902 (ws_ls i) [] s := by
  refine q_aload_n (pc' := 903) (x := 0) ja_law_902 rfl rfl ?_
  refine q_virt (pc' := 906) (c := 0) (as := []) (r := []) ja_law_903 rfl rfl rfl (by decide) ⟨rfl, by decide⟩ ?_
  refine q_mono (fun v s' h' => ?_) (q_typ_int (k := 92) rfl rfl (st_vote (G := G) (d := 85) hI))
  obtain ⟨h', x, rfl⟩ := h'
  show q_W G 91 jm_law B 906 (ws_ls i) [.int x] s'
  refine q_aload_n (pc' := 907) (x := 146) ja_law_906 rfl rfl ?_
  refine q_virt (pc' := 910) (c := 146) (as := []) (r := [.int x]) ja_law_907 rfl rfl rfl (by decide) ⟨rfl, by decide⟩ ?_
  refine q_mono (fun v s'' h'' => ?_) h'
  obtain ⟨rfl, hI'⟩ := h''
  show q_W G 91 jm_law B 910 (ws_ls i) [.int x, .int x] s''
  refine q_ic_eq (pc' := 913) ja_law_910 rfl (fun _ => kk s'' hI') (fun hx => absurd rfl hx)
theorem ws_op21 {G : jv_X} {B : Option Value → jg_H → Prop} {s : jg_H} {i : Int32} (hI : Inv s) (h1 : jv_in (i + 1) G.1.1 = true) (h2 : jv_in (i + 2) G.1.1 = true) (h3 : jv_in (i + 3) G.1.1 = true) (h4 : jv_in (i + 4) G.1.1 = true) (h5 : jv_in (i + 5) G.1.1 = true) (h6 : jv_in (i + 6) G.1.1 = true) (kk : ∀ s', Inv s' → q_W G 91 jm_law B 1361 (ws_ls i) [] s') : q_W G 91 jm_law B 915 (ws_ls i) [] s := by
  refine q_aload_n (pc' := 916) (x := 0) ja_law_915 rfl rfl ?_
  refine q_aload_n (pc' := 917) (x := 1000000) ja_law_916 rfl rfl ?_
  refine q_iload_n (pc' := 918) (x := i) ja_law_917 rfl rfl ?_
  refine q_iconst (pc' := 919) ja_law_918 rfl 1 (by decide) ?_
  refine q_iadd (pc' := 920) (x := i) (y := 1) ja_law_919 rfl ?_
  refine q_sald (pc' := 921) ja_law_920 rfl h1 ?_
  refine q_virt (pc' := 924) (c := 0) (as := [.int (G.1.2 (i + 1).toNatClampNeg)]) (r := []) ja_law_921 rfl rfl rfl (by decide) ⟨rfl, by decide⟩ ?_
  refine q_mono (fun v s' h' => ?_) (q_typ_int (k := 101) rfl rfl (st_voted (G := G) (d := 90) hI _))
  obtain ⟨h', x, rfl⟩ := h'
  show q_W G 91 jm_law B 924 (ws_ls i) [.int x] s'
  refine q_aload_n (pc' := 925) (x := 146) ja_law_924 rfl rfl ?_
  refine q_aload_n (pc' := 926) (x := 1000000) ja_law_925 rfl rfl ?_
  refine q_iload_n (pc' := 927) (x := i) ja_law_926 rfl rfl ?_
  refine q_iconst (pc' := 928) ja_law_927 rfl 1 (by decide) ?_
  refine q_iadd (pc' := 929) (x := i) (y := 1) ja_law_928 rfl ?_
  refine q_sald (pc' := 930) ja_law_929 rfl h1 ?_
  refine q_virt (pc' := 933) (c := 146) (as := [.int (G.1.2 (i + 1).toNatClampNeg)]) (r := [.int x]) ja_law_930 rfl rfl rfl (by decide) ⟨rfl, by decide⟩ ?_
  refine q_mono (fun v s'' h'' => ?_) h'
  obtain ⟨rfl, hI'⟩ := h''
  show q_W G 91 jm_law B 933 (ws_ls i) [.int x, .int x] s''
  refine q_ic_eq (pc' := 936) ja_law_933 rfl (fun _ => kk s'' hI') (fun hx => absurd rfl hx)
theorem ws_op22 {G : jv_X} {B : Option Value → jg_H → Prop} {s : jg_H} {i : Int32} (hI : Inv s) (h1 : jv_in (i + 1) G.1.1 = true) (h2 : jv_in (i + 2) G.1.1 = true) (h3 : jv_in (i + 3) G.1.1 = true) (h4 : jv_in (i + 4) G.1.1 = true) (h5 : jv_in (i + 5) G.1.1 = true) (h6 : jv_in (i + 6) G.1.1 = true) (kk : ∀ s', Inv s' → q_W G 91 jm_law B 1361 (ws_ls i) [] s') : q_W G 91 jm_law B 938 (ws_ls i) [] s := by
  refine q_aload_n (pc' := 939) (x := 0) ja_law_938 rfl rfl ?_
  refine q_aload_n (pc' := 940) (x := 1000000) ja_law_939 rfl rfl ?_
  refine q_iload_n (pc' := 941) (x := i) ja_law_940 rfl rfl ?_
  refine q_iconst (pc' := 942) ja_law_941 rfl 1 (by decide) ?_
  refine q_iadd (pc' := 943) (x := i) (y := 1) ja_law_942 rfl ?_
  refine q_sald (pc' := 944) ja_law_943 rfl h1 ?_
  refine q_virt (pc' := 947) (c := 0) (as := [.int (G.1.2 (i + 1).toNatClampNeg)]) (r := []) ja_law_944 rfl rfl rfl (by decide) ⟨rfl, by decide⟩ ?_
  refine q_mono (fun v s' h' => ?_) (q_typ_int (k := 102) rfl rfl (st_would (G := G) (d := 85) hI _))
  obtain ⟨h', x, rfl⟩ := h'
  show q_W G 91 jm_law B 947 (ws_ls i) [.int x] s'
  refine q_aload_n (pc' := 948) (x := 146) ja_law_947 rfl rfl ?_
  refine q_aload_n (pc' := 949) (x := 1000000) ja_law_948 rfl rfl ?_
  refine q_iload_n (pc' := 950) (x := i) ja_law_949 rfl rfl ?_
  refine q_iconst (pc' := 951) ja_law_950 rfl 1 (by decide) ?_
  refine q_iadd (pc' := 952) (x := i) (y := 1) ja_law_951 rfl ?_
  refine q_sald (pc' := 953) ja_law_952 rfl h1 ?_
  refine q_virt (pc' := 956) (c := 146) (as := [.int (G.1.2 (i + 1).toNatClampNeg)]) (r := [.int x]) ja_law_953 rfl rfl rfl (by decide) ⟨rfl, by decide⟩ ?_
  refine q_mono (fun v s'' h'' => ?_) h'
  obtain ⟨rfl, hI'⟩ := h''
  show q_W G 91 jm_law B 956 (ws_ls i) [.int x, .int x] s''
  refine q_ic_eq (pc' := 959) ja_law_956 rfl (fun _ => kk s'' hI') (fun hx => absurd rfl hx)
theorem ws_op23 {G : jv_X} {B : Option Value → jg_H → Prop} {s : jg_H} {i : Int32} (hI : Inv s) (h1 : jv_in (i + 1) G.1.1 = true) (h2 : jv_in (i + 2) G.1.1 = true) (h3 : jv_in (i + 3) G.1.1 = true) (h4 : jv_in (i + 4) G.1.1 = true) (h5 : jv_in (i + 5) G.1.1 = true) (h6 : jv_in (i + 6) G.1.1 = true) (kk : ∀ s', Inv s' → q_W G 91 jm_law B 1361 (ws_ls i) [] s') : q_W G 91 jm_law B 961 (ws_ls i) [] s := by
  refine q_aload_n (pc' := 962) (x := 0) ja_law_961 rfl rfl ?_
  refine q_aload_n (pc' := 963) (x := 1000000) ja_law_962 rfl rfl ?_
  refine q_iload_n (pc' := 964) (x := i) ja_law_963 rfl rfl ?_
  refine q_iconst (pc' := 965) ja_law_964 rfl 1 (by decide) ?_
  refine q_iadd (pc' := 966) (x := i) (y := 1) ja_law_965 rfl ?_
  refine q_sald (pc' := 967) ja_law_966 rfl h1 ?_
  refine q_aload_n (pc' := 968) (x := 1000000) ja_law_967 rfl rfl ?_
  refine q_iload_n (pc' := 969) (x := i) ja_law_968 rfl rfl ?_
  refine q_iconst (pc' := 970) ja_law_969 rfl 2 (by decide) ?_
  refine q_iadd (pc' := 971) (x := i) (y := 2) ja_law_970 rfl ?_
  refine q_sald (pc' := 972) ja_law_971 rfl h2 ?_
  refine q_virt (pc' := 975) (c := 0) (as := [.int (G.1.2 (i + 1).toNatClampNeg), .int (G.1.2 (i + 2).toNatClampNeg)]) (r := []) ja_law_972 rfl rfl rfl (by decide) ⟨rfl, by decide⟩ ?_
  refine q_mono (fun v s' h' => ?_) (q_typ_int (k := 103) rfl rfl (st_motion (G := G) (d := 85) hI _ _))
  obtain ⟨h', x, rfl⟩ := h'
  show q_W G 91 jm_law B 975 (ws_ls i) [.int x] s'
  refine q_aload_n (pc' := 976) (x := 146) ja_law_975 rfl rfl ?_
  refine q_aload_n (pc' := 977) (x := 1000000) ja_law_976 rfl rfl ?_
  refine q_iload_n (pc' := 978) (x := i) ja_law_977 rfl rfl ?_
  refine q_iconst (pc' := 979) ja_law_978 rfl 1 (by decide) ?_
  refine q_iadd (pc' := 980) (x := i) (y := 1) ja_law_979 rfl ?_
  refine q_sald (pc' := 981) ja_law_980 rfl h1 ?_
  refine q_aload_n (pc' := 982) (x := 1000000) ja_law_981 rfl rfl ?_
  refine q_iload_n (pc' := 983) (x := i) ja_law_982 rfl rfl ?_
  refine q_iconst (pc' := 984) ja_law_983 rfl 2 (by decide) ?_
  refine q_iadd (pc' := 985) (x := i) (y := 2) ja_law_984 rfl ?_
  refine q_sald (pc' := 986) ja_law_985 rfl h2 ?_
  refine q_virt (pc' := 989) (c := 146) (as := [.int (G.1.2 (i + 1).toNatClampNeg), .int (G.1.2 (i + 2).toNatClampNeg)]) (r := [.int x]) ja_law_986 rfl rfl rfl (by decide) ⟨rfl, by decide⟩ ?_
  refine q_mono (fun v s'' h'' => ?_) h'
  obtain ⟨rfl, hI'⟩ := h''
  show q_W G 91 jm_law B 989 (ws_ls i) [.int x, .int x] s''
  refine q_ic_eq (pc' := 992) ja_law_989 rfl (fun _ => kk s'' hI') (fun hx => absurd rfl hx)
theorem ws_op24 {G : jv_X} {B : Option Value → jg_H → Prop} {s : jg_H} {i : Int32} (hI : Inv s) (h1 : jv_in (i + 1) G.1.1 = true) (h2 : jv_in (i + 2) G.1.1 = true) (h3 : jv_in (i + 3) G.1.1 = true) (h4 : jv_in (i + 4) G.1.1 = true) (h5 : jv_in (i + 5) G.1.1 = true) (h6 : jv_in (i + 6) G.1.1 = true) (kk : ∀ s', Inv s' → q_W G 91 jm_law B 1361 (ws_ls i) [] s') : q_W G 91 jm_law B 994 (ws_ls i) [] s := by
  refine q_aload_n (pc' := 995) (x := 0) ja_law_994 rfl rfl ?_
  refine q_virt (pc' := 998) (c := 0) (as := []) (r := []) ja_law_995 rfl rfl rfl (by decide) ⟨rfl, by decide⟩ ?_
  refine q_mono (fun v s' h' => ?_) (q_typ_int (k := 104) rfl rfl (st_yield (G := G) (d := 90) hI))
  obtain ⟨h', x, rfl⟩ := h'
  show q_W G 91 jm_law B 998 (ws_ls i) [.int x] s'
  refine q_aload_n (pc' := 999) (x := 146) ja_law_998 rfl rfl ?_
  refine q_virt (pc' := 1002) (c := 146) (as := []) (r := [.int x]) ja_law_999 rfl rfl rfl (by decide) ⟨rfl, by decide⟩ ?_
  refine q_mono (fun v s'' h'' => ?_) h'
  obtain ⟨rfl, hI'⟩ := h''
  show q_W G 91 jm_law B 1002 (ws_ls i) [.int x, .int x] s''
  refine q_ic_eq (pc' := 1005) ja_law_1002 rfl (fun _ => kk s'' hI') (fun hx => absurd rfl hx)
theorem ws_op25 {G : jv_X} {B : Option Value → jg_H → Prop} {s : jg_H} {i : Int32} (hI : Inv s) (h1 : jv_in (i + 1) G.1.1 = true) (h2 : jv_in (i + 2) G.1.1 = true) (h3 : jv_in (i + 3) G.1.1 = true) (h4 : jv_in (i + 4) G.1.1 = true) (h5 : jv_in (i + 5) G.1.1 = true) (h6 : jv_in (i + 6) G.1.1 = true) (kk : ∀ s', Inv s' → q_W G 91 jm_law B 1361 (ws_ls i) [] s') : q_W G 91 jm_law B 1007 (ws_ls i) [] s := by
  refine q_aload_n (pc' := 1008) (x := 0) ja_law_1007 rfl rfl ?_
  refine q_virt (pc' := 1011) (c := 0) (as := []) (r := []) ja_law_1008 rfl rfl rfl (by decide) ⟨rfl, by decide⟩ ?_
  refine q_mono (fun v s' h' => ?_) (q_typ_int (k := 105) rfl rfl (st_day (G := G) (d := 90) hI))
  obtain ⟨h', x, rfl⟩ := h'
  show q_W G 91 jm_law B 1011 (ws_ls i) [.int x] s'
  refine q_aload_n (pc' := 1012) (x := 146) ja_law_1011 rfl rfl ?_
  refine q_virt (pc' := 1015) (c := 146) (as := []) (r := [.int x]) ja_law_1012 rfl rfl rfl (by decide) ⟨rfl, by decide⟩ ?_
  refine q_mono (fun v s'' h'' => ?_) h'
  obtain ⟨rfl, hI'⟩ := h''
  show q_W G 91 jm_law B 1015 (ws_ls i) [.int x, .int x] s''
  refine q_ic_eq (pc' := 1018) ja_law_1015 rfl (fun _ => kk s'' hI') (fun hx => absurd rfl hx)
theorem ws_op26 {G : jv_X} {B : Option Value → jg_H → Prop} {s : jg_H} {i : Int32} (hI : Inv s) (h1 : jv_in (i + 1) G.1.1 = true) (h2 : jv_in (i + 2) G.1.1 = true) (h3 : jv_in (i + 3) G.1.1 = true) (h4 : jv_in (i + 4) G.1.1 = true) (h5 : jv_in (i + 5) G.1.1 = true) (h6 : jv_in (i + 6) G.1.1 = true) (kk : ∀ s', Inv s' → q_W G 91 jm_law B 1361 (ws_ls i) [] s') : q_W G 91 jm_law B 1020 (ws_ls i) [] s := by
  refine q_aload_n (pc' := 1021) (x := 0) ja_law_1020 rfl rfl ?_
  refine q_aload_n (pc' := 1022) (x := 1000000) ja_law_1021 rfl rfl ?_
  refine q_iload_n (pc' := 1023) (x := i) ja_law_1022 rfl rfl ?_
  refine q_iconst (pc' := 1024) ja_law_1023 rfl 1 (by decide) ?_
  refine q_iadd (pc' := 1025) (x := i) (y := 1) ja_law_1024 rfl ?_
  refine q_sald (pc' := 1026) ja_law_1025 rfl h1 ?_
  refine q_aload_n (pc' := 1027) (x := 1000000) ja_law_1026 rfl rfl ?_
  refine q_iload_n (pc' := 1028) (x := i) ja_law_1027 rfl rfl ?_
  refine q_iconst (pc' := 1029) ja_law_1028 rfl 2 (by decide) ?_
  refine q_iadd (pc' := 1030) (x := i) (y := 2) ja_law_1029 rfl ?_
  refine q_sald (pc' := 1031) ja_law_1030 rfl h2 ?_
  refine q_aload_n (pc' := 1032) (x := 1000000) ja_law_1031 rfl rfl ?_
  refine q_iload_n (pc' := 1033) (x := i) ja_law_1032 rfl rfl ?_
  refine q_iconst (pc' := 1034) ja_law_1033 rfl 3 (by decide) ?_
  refine q_iadd (pc' := 1035) (x := i) (y := 3) ja_law_1034 rfl ?_
  refine q_sald (pc' := 1036) ja_law_1035 rfl h3 ?_
  refine q_virt (pc' := 1039) (c := 0) (as := [.int (G.1.2 (i + 1).toNatClampNeg), .int (G.1.2 (i + 2).toNatClampNeg), .int (G.1.2 (i + 3).toNatClampNeg)]) (r := []) ja_law_1036 rfl rfl rfl (by decide) ⟨rfl, by decide⟩ ?_
  refine q_mono (fun v s' h' => ?_) (q_typ_int (k := 106) rfl rfl (st_tell (G := G) (d := 88) hI _ _ _))
  obtain ⟨h', x, rfl⟩ := h'
  show q_W G 91 jm_law B 1039 (ws_ls i) [.int x] s'
  refine q_aload_n (pc' := 1040) (x := 146) ja_law_1039 rfl rfl ?_
  refine q_aload_n (pc' := 1041) (x := 1000000) ja_law_1040 rfl rfl ?_
  refine q_iload_n (pc' := 1042) (x := i) ja_law_1041 rfl rfl ?_
  refine q_iconst (pc' := 1043) ja_law_1042 rfl 1 (by decide) ?_
  refine q_iadd (pc' := 1044) (x := i) (y := 1) ja_law_1043 rfl ?_
  refine q_sald (pc' := 1045) ja_law_1044 rfl h1 ?_
  refine q_aload_n (pc' := 1046) (x := 1000000) ja_law_1045 rfl rfl ?_
  refine q_iload_n (pc' := 1047) (x := i) ja_law_1046 rfl rfl ?_
  refine q_iconst (pc' := 1048) ja_law_1047 rfl 2 (by decide) ?_
  refine q_iadd (pc' := 1049) (x := i) (y := 2) ja_law_1048 rfl ?_
  refine q_sald (pc' := 1050) ja_law_1049 rfl h2 ?_
  refine q_aload_n (pc' := 1051) (x := 1000000) ja_law_1050 rfl rfl ?_
  refine q_iload_n (pc' := 1052) (x := i) ja_law_1051 rfl rfl ?_
  refine q_iconst (pc' := 1053) ja_law_1052 rfl 3 (by decide) ?_
  refine q_iadd (pc' := 1054) (x := i) (y := 3) ja_law_1053 rfl ?_
  refine q_sald (pc' := 1055) ja_law_1054 rfl h3 ?_
  refine q_virt (pc' := 1058) (c := 146) (as := [.int (G.1.2 (i + 1).toNatClampNeg), .int (G.1.2 (i + 2).toNatClampNeg), .int (G.1.2 (i + 3).toNatClampNeg)]) (r := [.int x]) ja_law_1055 rfl rfl rfl (by decide) ⟨rfl, by decide⟩ ?_
  refine q_mono (fun v s'' h'' => ?_) h'
  obtain ⟨rfl, hI'⟩ := h''
  show q_W G 91 jm_law B 1058 (ws_ls i) [.int x, .int x] s''
  refine q_ic_eq (pc' := 1061) ja_law_1058 rfl (fun _ => kk s'' hI') (fun hx => absurd rfl hx)
theorem ws_op27 {G : jv_X} {B : Option Value → jg_H → Prop} {s : jg_H} {i : Int32} (hI : Inv s) (h1 : jv_in (i + 1) G.1.1 = true) (h2 : jv_in (i + 2) G.1.1 = true) (h3 : jv_in (i + 3) G.1.1 = true) (h4 : jv_in (i + 4) G.1.1 = true) (h5 : jv_in (i + 5) G.1.1 = true) (h6 : jv_in (i + 6) G.1.1 = true) (kk : ∀ s', Inv s' → q_W G 91 jm_law B 1361 (ws_ls i) [] s') : q_W G 91 jm_law B 1063 (ws_ls i) [] s := by
  refine q_aload_n (pc' := 1064) (x := 0) ja_law_1063 rfl rfl ?_
  refine q_aload_n (pc' := 1065) (x := 1000000) ja_law_1064 rfl rfl ?_
  refine q_iload_n (pc' := 1066) (x := i) ja_law_1065 rfl rfl ?_
  refine q_iconst (pc' := 1067) ja_law_1066 rfl 1 (by decide) ?_
  refine q_iadd (pc' := 1068) (x := i) (y := 1) ja_law_1067 rfl ?_
  refine q_sald (pc' := 1069) ja_law_1068 rfl h1 ?_
  refine q_aload_n (pc' := 1070) (x := 1000000) ja_law_1069 rfl rfl ?_
  refine q_iload_n (pc' := 1071) (x := i) ja_law_1070 rfl rfl ?_
  refine q_iconst (pc' := 1072) ja_law_1071 rfl 2 (by decide) ?_
  refine q_iadd (pc' := 1073) (x := i) (y := 2) ja_law_1072 rfl ?_
  refine q_sald (pc' := 1074) ja_law_1073 rfl h2 ?_
  refine q_virt (pc' := 1077) (c := 0) (as := [.int (G.1.2 (i + 1).toNatClampNeg), .int (G.1.2 (i + 2).toNatClampNeg)]) (r := []) ja_law_1074 rfl rfl rfl (by decide) ⟨rfl, by decide⟩ ?_
  refine q_mono (fun v s' h' => ?_) (q_typ_long (k := 107) rfl rfl (st_foresee (G := G) (d := 84) hI _ _))
  obtain ⟨h', x, rfl⟩ := h'
  show q_W G 91 jm_law B 1077 (ws_ls i) [.long x] s'
  refine q_aload_n (pc' := 1078) (x := 146) ja_law_1077 rfl rfl ?_
  refine q_aload_n (pc' := 1079) (x := 1000000) ja_law_1078 rfl rfl ?_
  refine q_iload_n (pc' := 1080) (x := i) ja_law_1079 rfl rfl ?_
  refine q_iconst (pc' := 1081) ja_law_1080 rfl 1 (by decide) ?_
  refine q_iadd (pc' := 1082) (x := i) (y := 1) ja_law_1081 rfl ?_
  refine q_sald (pc' := 1083) ja_law_1082 rfl h1 ?_
  refine q_aload_n (pc' := 1084) (x := 1000000) ja_law_1083 rfl rfl ?_
  refine q_iload_n (pc' := 1085) (x := i) ja_law_1084 rfl rfl ?_
  refine q_iconst (pc' := 1086) ja_law_1085 rfl 2 (by decide) ?_
  refine q_iadd (pc' := 1087) (x := i) (y := 2) ja_law_1086 rfl ?_
  refine q_sald (pc' := 1088) ja_law_1087 rfl h2 ?_
  refine q_virt (pc' := 1091) (c := 146) (as := [.int (G.1.2 (i + 1).toNatClampNeg), .int (G.1.2 (i + 2).toNatClampNeg)]) (r := [.long x]) ja_law_1088 rfl rfl rfl (by decide) ⟨rfl, by decide⟩ ?_
  refine q_mono (fun v s'' h'' => ?_) h'
  obtain ⟨rfl, hI'⟩ := h''
  show q_W G 91 jm_law B 1091 (ws_ls i) [.long x, .long x] s''
  refine q_lcmp (pc' := 1092) ja_law_1091 rfl ?_
  refine q_if_eq (pc' := 1095) ja_law_1092 rfl (fun _ => kk s'' hI') (fun hx => absurd (ws_cmp x) hx)
theorem ws_op28 {G : jv_X} {B : Option Value → jg_H → Prop} {s : jg_H} {i : Int32} (hI : Inv s) (h1 : jv_in (i + 1) G.1.1 = true) (h2 : jv_in (i + 2) G.1.1 = true) (h3 : jv_in (i + 3) G.1.1 = true) (h4 : jv_in (i + 4) G.1.1 = true) (h5 : jv_in (i + 5) G.1.1 = true) (h6 : jv_in (i + 6) G.1.1 = true) (kk : ∀ s', Inv s' → q_W G 91 jm_law B 1361 (ws_ls i) [] s') : q_W G 91 jm_law B 1097 (ws_ls i) [] s := by
  refine q_aload_n (pc' := 1098) (x := 0) ja_law_1097 rfl rfl ?_
  refine q_aload_n (pc' := 1099) (x := 1000000) ja_law_1098 rfl rfl ?_
  refine q_iload_n (pc' := 1100) (x := i) ja_law_1099 rfl rfl ?_
  refine q_iconst (pc' := 1101) ja_law_1100 rfl 1 (by decide) ?_
  refine q_iadd (pc' := 1102) (x := i) (y := 1) ja_law_1101 rfl ?_
  refine q_sald (pc' := 1103) ja_law_1102 rfl h1 ?_
  refine q_virt (pc' := 1106) (c := 0) (as := [.int (G.1.2 (i + 1).toNatClampNeg)]) (r := []) ja_law_1103 rfl rfl rfl (by decide) ⟨rfl, by decide⟩ ?_
  refine q_mono (fun v s' h' => ?_) (q_typ_int (k := 114) rfl rfl (st_best (G := G) (d := 78) hI _))
  obtain ⟨h', x, rfl⟩ := h'
  show q_W G 91 jm_law B 1106 (ws_ls i) [.int x] s'
  refine q_aload_n (pc' := 1107) (x := 146) ja_law_1106 rfl rfl ?_
  refine q_aload_n (pc' := 1108) (x := 1000000) ja_law_1107 rfl rfl ?_
  refine q_iload_n (pc' := 1109) (x := i) ja_law_1108 rfl rfl ?_
  refine q_iconst (pc' := 1110) ja_law_1109 rfl 1 (by decide) ?_
  refine q_iadd (pc' := 1111) (x := i) (y := 1) ja_law_1110 rfl ?_
  refine q_sald (pc' := 1112) ja_law_1111 rfl h1 ?_
  refine q_virt (pc' := 1115) (c := 146) (as := [.int (G.1.2 (i + 1).toNatClampNeg)]) (r := [.int x]) ja_law_1112 rfl rfl rfl (by decide) ⟨rfl, by decide⟩ ?_
  refine q_mono (fun v s'' h'' => ?_) h'
  obtain ⟨rfl, hI'⟩ := h''
  show q_W G 91 jm_law B 1115 (ws_ls i) [.int x, .int x] s''
  refine q_ic_eq (pc' := 1118) ja_law_1115 rfl (fun _ => kk s'' hI') (fun hx => absurd rfl hx)
theorem ws_op29 {G : jv_X} {B : Option Value → jg_H → Prop} {s : jg_H} {i : Int32} (hI : Inv s) (h1 : jv_in (i + 1) G.1.1 = true) (h2 : jv_in (i + 2) G.1.1 = true) (h3 : jv_in (i + 3) G.1.1 = true) (h4 : jv_in (i + 4) G.1.1 = true) (h5 : jv_in (i + 5) G.1.1 = true) (h6 : jv_in (i + 6) G.1.1 = true) (kk : ∀ s', Inv s' → q_W G 91 jm_law B 1361 (ws_ls i) [] s') : q_W G 91 jm_law B 1120 (ws_ls i) [] s := by
  refine q_aload_n (pc' := 1121) (x := 0) ja_law_1120 rfl rfl ?_
  refine q_aload_n (pc' := 1122) (x := 1000000) ja_law_1121 rfl rfl ?_
  refine q_iload_n (pc' := 1123) (x := i) ja_law_1122 rfl rfl ?_
  refine q_iconst (pc' := 1124) ja_law_1123 rfl 1 (by decide) ?_
  refine q_iadd (pc' := 1125) (x := i) (y := 1) ja_law_1124 rfl ?_
  refine q_sald (pc' := 1126) ja_law_1125 rfl h1 ?_
  refine q_aload_n (pc' := 1127) (x := 1000000) ja_law_1126 rfl rfl ?_
  refine q_iload_n (pc' := 1128) (x := i) ja_law_1127 rfl rfl ?_
  refine q_iconst (pc' := 1129) ja_law_1128 rfl 2 (by decide) ?_
  refine q_iadd (pc' := 1130) (x := i) (y := 2) ja_law_1129 rfl ?_
  refine q_sald (pc' := 1131) ja_law_1130 rfl h2 ?_
  refine q_virt (pc' := 1134) (c := 0) (as := [.int (G.1.2 (i + 1).toNatClampNeg), .int (G.1.2 (i + 2).toNatClampNeg)]) (r := []) ja_law_1131 rfl rfl rfl (by decide) ⟨rfl, by decide⟩ ?_
  refine q_mono (fun v s' h' => ?_) (q_typ_int (k := 117) rfl rfl (st_confer (G := G) (d := 86) hI _ _))
  obtain ⟨h', x, rfl⟩ := h'
  show q_W G 91 jm_law B 1134 (ws_ls i) [.int x] s'
  refine q_aload_n (pc' := 1135) (x := 146) ja_law_1134 rfl rfl ?_
  refine q_aload_n (pc' := 1136) (x := 1000000) ja_law_1135 rfl rfl ?_
  refine q_iload_n (pc' := 1137) (x := i) ja_law_1136 rfl rfl ?_
  refine q_iconst (pc' := 1138) ja_law_1137 rfl 1 (by decide) ?_
  refine q_iadd (pc' := 1139) (x := i) (y := 1) ja_law_1138 rfl ?_
  refine q_sald (pc' := 1140) ja_law_1139 rfl h1 ?_
  refine q_aload_n (pc' := 1141) (x := 1000000) ja_law_1140 rfl rfl ?_
  refine q_iload_n (pc' := 1142) (x := i) ja_law_1141 rfl rfl ?_
  refine q_iconst (pc' := 1143) ja_law_1142 rfl 2 (by decide) ?_
  refine q_iadd (pc' := 1144) (x := i) (y := 2) ja_law_1143 rfl ?_
  refine q_sald (pc' := 1145) ja_law_1144 rfl h2 ?_
  refine q_virt (pc' := 1148) (c := 146) (as := [.int (G.1.2 (i + 1).toNatClampNeg), .int (G.1.2 (i + 2).toNatClampNeg)]) (r := [.int x]) ja_law_1145 rfl rfl rfl (by decide) ⟨rfl, by decide⟩ ?_
  refine q_mono (fun v s'' h'' => ?_) h'
  obtain ⟨rfl, hI'⟩ := h''
  show q_W G 91 jm_law B 1148 (ws_ls i) [.int x, .int x] s''
  refine q_ic_eq (pc' := 1151) ja_law_1148 rfl (fun _ => kk s'' hI') (fun hx => absurd rfl hx)
theorem ws_op30 {G : jv_X} {B : Option Value → jg_H → Prop} {s : jg_H} {i : Int32} (hI : Inv s) (h1 : jv_in (i + 1) G.1.1 = true) (h2 : jv_in (i + 2) G.1.1 = true) (h3 : jv_in (i + 3) G.1.1 = true) (h4 : jv_in (i + 4) G.1.1 = true) (h5 : jv_in (i + 5) G.1.1 = true) (h6 : jv_in (i + 6) G.1.1 = true) (kk : ∀ s', Inv s' → q_W G 91 jm_law B 1361 (ws_ls i) [] s') : q_W G 91 jm_law B 1153 (ws_ls i) [] s := by
  refine q_aload_n (pc' := 1154) (x := 0) ja_law_1153 rfl rfl ?_
  refine q_aload_n (pc' := 1155) (x := 1000000) ja_law_1154 rfl rfl ?_
  refine q_iload_n (pc' := 1156) (x := i) ja_law_1155 rfl rfl ?_
  refine q_iconst (pc' := 1157) ja_law_1156 rfl 1 (by decide) ?_
  refine q_iadd (pc' := 1158) (x := i) (y := 1) ja_law_1157 rfl ?_
  refine q_sald (pc' := 1159) ja_law_1158 rfl h1 ?_
  refine q_aload_n (pc' := 1160) (x := 1000000) ja_law_1159 rfl rfl ?_
  refine q_iload_n (pc' := 1161) (x := i) ja_law_1160 rfl rfl ?_
  refine q_iconst (pc' := 1162) ja_law_1161 rfl 2 (by decide) ?_
  refine q_iadd (pc' := 1163) (x := i) (y := 2) ja_law_1162 rfl ?_
  refine q_sald (pc' := 1164) ja_law_1163 rfl h2 ?_
  refine q_aload_n (pc' := 1165) (x := 1000000) ja_law_1164 rfl rfl ?_
  refine q_iload_n (pc' := 1166) (x := i) ja_law_1165 rfl rfl ?_
  refine q_iconst (pc' := 1167) ja_law_1166 rfl 3 (by decide) ?_
  refine q_iadd (pc' := 1168) (x := i) (y := 3) ja_law_1167 rfl ?_
  refine q_sald (pc' := 1169) ja_law_1168 rfl h3 ?_
  refine q_virt (pc' := 1172) (c := 0) (as := [.int (G.1.2 (i + 1).toNatClampNeg), .int (G.1.2 (i + 2).toNatClampNeg), .int (G.1.2 (i + 3).toNatClampNeg)]) (r := []) ja_law_1169 rfl rfl rfl (by decide) ⟨rfl, by decide⟩ ?_
  refine q_mono (fun v s' h' => ?_) (q_typ_int (k := 122) rfl rfl (st_conferred (G := G) (d := 86) hI _ _ _))
  obtain ⟨h', x, rfl⟩ := h'
  show q_W G 91 jm_law B 1172 (ws_ls i) [.int x] s'
  refine q_aload_n (pc' := 1173) (x := 146) ja_law_1172 rfl rfl ?_
  refine q_aload_n (pc' := 1174) (x := 1000000) ja_law_1173 rfl rfl ?_
  refine q_iload_n (pc' := 1175) (x := i) ja_law_1174 rfl rfl ?_
  refine q_iconst (pc' := 1176) ja_law_1175 rfl 1 (by decide) ?_
  refine q_iadd (pc' := 1177) (x := i) (y := 1) ja_law_1176 rfl ?_
  refine q_sald (pc' := 1178) ja_law_1177 rfl h1 ?_
  refine q_aload_n (pc' := 1179) (x := 1000000) ja_law_1178 rfl rfl ?_
  refine q_iload_n (pc' := 1180) (x := i) ja_law_1179 rfl rfl ?_
  refine q_iconst (pc' := 1181) ja_law_1180 rfl 2 (by decide) ?_
  refine q_iadd (pc' := 1182) (x := i) (y := 2) ja_law_1181 rfl ?_
  refine q_sald (pc' := 1183) ja_law_1182 rfl h2 ?_
  refine q_aload_n (pc' := 1184) (x := 1000000) ja_law_1183 rfl rfl ?_
  refine q_iload_n (pc' := 1185) (x := i) ja_law_1184 rfl rfl ?_
  refine q_iconst (pc' := 1186) ja_law_1185 rfl 3 (by decide) ?_
  refine q_iadd (pc' := 1187) (x := i) (y := 3) ja_law_1186 rfl ?_
  refine q_sald (pc' := 1188) ja_law_1187 rfl h3 ?_
  refine q_virt (pc' := 1191) (c := 146) (as := [.int (G.1.2 (i + 1).toNatClampNeg), .int (G.1.2 (i + 2).toNatClampNeg), .int (G.1.2 (i + 3).toNatClampNeg)]) (r := [.int x]) ja_law_1188 rfl rfl rfl (by decide) ⟨rfl, by decide⟩ ?_
  refine q_mono (fun v s'' h'' => ?_) h'
  obtain ⟨rfl, hI'⟩ := h''
  show q_W G 91 jm_law B 1191 (ws_ls i) [.int x, .int x] s''
  refine q_ic_eq (pc' := 1194) ja_law_1191 rfl (fun _ => kk s'' hI') (fun hx => absurd rfl hx)
theorem ws_op31 {G : jv_X} {B : Option Value → jg_H → Prop} {s : jg_H} {i : Int32} (hI : Inv s) (h1 : jv_in (i + 1) G.1.1 = true) (h2 : jv_in (i + 2) G.1.1 = true) (h3 : jv_in (i + 3) G.1.1 = true) (h4 : jv_in (i + 4) G.1.1 = true) (h5 : jv_in (i + 5) G.1.1 = true) (h6 : jv_in (i + 6) G.1.1 = true) (kk : ∀ s', Inv s' → q_W G 91 jm_law B 1361 (ws_ls i) [] s') : q_W G 91 jm_law B 1196 (ws_ls i) [] s := by
  refine q_aload_n (pc' := 1197) (x := 0) ja_law_1196 rfl rfl ?_
  refine q_aload_n (pc' := 1198) (x := 1000000) ja_law_1197 rfl rfl ?_
  refine q_iload_n (pc' := 1199) (x := i) ja_law_1198 rfl rfl ?_
  refine q_iconst (pc' := 1200) ja_law_1199 rfl 1 (by decide) ?_
  refine q_iadd (pc' := 1201) (x := i) (y := 1) ja_law_1200 rfl ?_
  refine q_sald (pc' := 1202) ja_law_1201 rfl h1 ?_
  refine q_virt (pc' := 1205) (c := 0) (as := [.int (G.1.2 (i + 1).toNatClampNeg)]) (r := []) ja_law_1202 rfl rfl rfl (by decide) ⟨rfl, by decide⟩ ?_
  refine q_mono (fun v s' h' => ?_) (q_typ_int (k := 123) rfl rfl (st_count (G := G) (d := 89) hI _))
  obtain ⟨h', x, rfl⟩ := h'
  show q_W G 91 jm_law B 1205 (ws_ls i) [.int x] s'
  refine q_aload_n (pc' := 1206) (x := 146) ja_law_1205 rfl rfl ?_
  refine q_aload_n (pc' := 1207) (x := 1000000) ja_law_1206 rfl rfl ?_
  refine q_iload_n (pc' := 1208) (x := i) ja_law_1207 rfl rfl ?_
  refine q_iconst (pc' := 1209) ja_law_1208 rfl 1 (by decide) ?_
  refine q_iadd (pc' := 1210) (x := i) (y := 1) ja_law_1209 rfl ?_
  refine q_sald (pc' := 1211) ja_law_1210 rfl h1 ?_
  refine q_virt (pc' := 1214) (c := 146) (as := [.int (G.1.2 (i + 1).toNatClampNeg)]) (r := [.int x]) ja_law_1211 rfl rfl rfl (by decide) ⟨rfl, by decide⟩ ?_
  refine q_mono (fun v s'' h'' => ?_) h'
  obtain ⟨rfl, hI'⟩ := h''
  show q_W G 91 jm_law B 1214 (ws_ls i) [.int x, .int x] s''
  refine q_ic_eq (pc' := 1217) ja_law_1214 rfl (fun _ => kk s'' hI') (fun hx => absurd rfl hx)
theorem ws_op32 {G : jv_X} {B : Option Value → jg_H → Prop} {s : jg_H} {i : Int32} (hI : Inv s) (h1 : jv_in (i + 1) G.1.1 = true) (h2 : jv_in (i + 2) G.1.1 = true) (h3 : jv_in (i + 3) G.1.1 = true) (h4 : jv_in (i + 4) G.1.1 = true) (h5 : jv_in (i + 5) G.1.1 = true) (h6 : jv_in (i + 6) G.1.1 = true) (kk : ∀ s', Inv s' → q_W G 91 jm_law B 1361 (ws_ls i) [] s') : q_W G 91 jm_law B 1219 (ws_ls i) [] s := by
  refine q_aload_n (pc' := 1220) (x := 0) ja_law_1219 rfl rfl ?_
  refine q_aload_n (pc' := 1221) (x := 1000000) ja_law_1220 rfl rfl ?_
  refine q_iload_n (pc' := 1222) (x := i) ja_law_1221 rfl rfl ?_
  refine q_iconst (pc' := 1223) ja_law_1222 rfl 1 (by decide) ?_
  refine q_iadd (pc' := 1224) (x := i) (y := 1) ja_law_1223 rfl ?_
  refine q_sald (pc' := 1225) ja_law_1224 rfl h1 ?_
  refine q_aload_n (pc' := 1226) (x := 1000000) ja_law_1225 rfl rfl ?_
  refine q_iload_n (pc' := 1227) (x := i) ja_law_1226 rfl rfl ?_
  refine q_iconst (pc' := 1228) ja_law_1227 rfl 2 (by decide) ?_
  refine q_iadd (pc' := 1229) (x := i) (y := 2) ja_law_1228 rfl ?_
  refine q_sald (pc' := 1230) ja_law_1229 rfl h2 ?_
  refine q_virt (pc' := 1233) (c := 0) (as := [.int (G.1.2 (i + 1).toNatClampNeg), .int (G.1.2 (i + 2).toNatClampNeg)]) (r := []) ja_law_1230 rfl rfl rfl (by decide) ⟨rfl, by decide⟩ ?_
  refine q_mono (fun v s' h' => ?_) (q_typ_int (k := 124) rfl rfl (st_tray (G := G) (d := 88) hI _ _))
  obtain ⟨h', x, rfl⟩ := h'
  show q_W G 91 jm_law B 1233 (ws_ls i) [.int x] s'
  refine q_aload_n (pc' := 1234) (x := 146) ja_law_1233 rfl rfl ?_
  refine q_aload_n (pc' := 1235) (x := 1000000) ja_law_1234 rfl rfl ?_
  refine q_iload_n (pc' := 1236) (x := i) ja_law_1235 rfl rfl ?_
  refine q_iconst (pc' := 1237) ja_law_1236 rfl 1 (by decide) ?_
  refine q_iadd (pc' := 1238) (x := i) (y := 1) ja_law_1237 rfl ?_
  refine q_sald (pc' := 1239) ja_law_1238 rfl h1 ?_
  refine q_aload_n (pc' := 1240) (x := 1000000) ja_law_1239 rfl rfl ?_
  refine q_iload_n (pc' := 1241) (x := i) ja_law_1240 rfl rfl ?_
  refine q_iconst (pc' := 1242) ja_law_1241 rfl 2 (by decide) ?_
  refine q_iadd (pc' := 1243) (x := i) (y := 2) ja_law_1242 rfl ?_
  refine q_sald (pc' := 1244) ja_law_1243 rfl h2 ?_
  refine q_virt (pc' := 1247) (c := 146) (as := [.int (G.1.2 (i + 1).toNatClampNeg), .int (G.1.2 (i + 2).toNatClampNeg)]) (r := [.int x]) ja_law_1244 rfl rfl rfl (by decide) ⟨rfl, by decide⟩ ?_
  refine q_mono (fun v s'' h'' => ?_) h'
  obtain ⟨rfl, hI'⟩ := h''
  show q_W G 91 jm_law B 1247 (ws_ls i) [.int x, .int x] s''
  refine q_ic_eq (pc' := 1250) ja_law_1247 rfl (fun _ => kk s'' hI') (fun hx => absurd rfl hx)
theorem ws_op33 {G : jv_X} {B : Option Value → jg_H → Prop} {s : jg_H} {i : Int32} (hI : Inv s) (h1 : jv_in (i + 1) G.1.1 = true) (h2 : jv_in (i + 2) G.1.1 = true) (h3 : jv_in (i + 3) G.1.1 = true) (h4 : jv_in (i + 4) G.1.1 = true) (h5 : jv_in (i + 5) G.1.1 = true) (h6 : jv_in (i + 6) G.1.1 = true) (kk : ∀ s', Inv s' → q_W G 91 jm_law B 1361 (ws_ls i) [] s') : q_W G 91 jm_law B 1252 (ws_ls i) [] s := by
  refine q_aload_n (pc' := 1253) (x := 0) ja_law_1252 rfl rfl ?_
  refine q_aload_n (pc' := 1254) (x := 1000000) ja_law_1253 rfl rfl ?_
  refine q_iload_n (pc' := 1255) (x := i) ja_law_1254 rfl rfl ?_
  refine q_iconst (pc' := 1256) ja_law_1255 rfl 1 (by decide) ?_
  refine q_iadd (pc' := 1257) (x := i) (y := 1) ja_law_1256 rfl ?_
  refine q_sald (pc' := 1258) ja_law_1257 rfl h1 ?_
  refine q_aload_n (pc' := 1259) (x := 1000000) ja_law_1258 rfl rfl ?_
  refine q_iload_n (pc' := 1260) (x := i) ja_law_1259 rfl rfl ?_
  refine q_iconst (pc' := 1261) ja_law_1260 rfl 2 (by decide) ?_
  refine q_iadd (pc' := 1262) (x := i) (y := 2) ja_law_1261 rfl ?_
  refine q_sald (pc' := 1263) ja_law_1262 rfl h2 ?_
  refine q_aload_n (pc' := 1264) (x := 1000000) ja_law_1263 rfl rfl ?_
  refine q_iload_n (pc' := 1265) (x := i) ja_law_1264 rfl rfl ?_
  refine q_iconst (pc' := 1266) ja_law_1265 rfl 3 (by decide) ?_
  refine q_iadd (pc' := 1267) (x := i) (y := 3) ja_law_1266 rfl ?_
  refine q_sald (pc' := 1268) ja_law_1267 rfl h3 ?_
  refine q_virt (pc' := 1271) (c := 0) (as := [.int (G.1.2 (i + 1).toNatClampNeg), .int (G.1.2 (i + 2).toNatClampNeg), .int (G.1.2 (i + 3).toNatClampNeg)]) (r := []) ja_law_1268 rfl rfl rfl (by decide) ⟨rfl, by decide⟩ ?_
  refine q_mono (fun v s' h' => ?_) (q_typ_int (k := 127) rfl rfl (st_cell (G := G) (d := 88) hI _ _ _))
  obtain ⟨h', x, rfl⟩ := h'
  show q_W G 91 jm_law B 1271 (ws_ls i) [.int x] s'
  refine q_aload_n (pc' := 1272) (x := 146) ja_law_1271 rfl rfl ?_
  refine q_aload_n (pc' := 1273) (x := 1000000) ja_law_1272 rfl rfl ?_
  refine q_iload_n (pc' := 1274) (x := i) ja_law_1273 rfl rfl ?_
  refine q_iconst (pc' := 1275) ja_law_1274 rfl 1 (by decide) ?_
  refine q_iadd (pc' := 1276) (x := i) (y := 1) ja_law_1275 rfl ?_
  refine q_sald (pc' := 1277) ja_law_1276 rfl h1 ?_
  refine q_aload_n (pc' := 1278) (x := 1000000) ja_law_1277 rfl rfl ?_
  refine q_iload_n (pc' := 1279) (x := i) ja_law_1278 rfl rfl ?_
  refine q_iconst (pc' := 1280) ja_law_1279 rfl 2 (by decide) ?_
  refine q_iadd (pc' := 1281) (x := i) (y := 2) ja_law_1280 rfl ?_
  refine q_sald (pc' := 1282) ja_law_1281 rfl h2 ?_
  refine q_aload_n (pc' := 1283) (x := 1000000) ja_law_1282 rfl rfl ?_
  refine q_iload_n (pc' := 1284) (x := i) ja_law_1283 rfl rfl ?_
  refine q_iconst (pc' := 1285) ja_law_1284 rfl 3 (by decide) ?_
  refine q_iadd (pc' := 1286) (x := i) (y := 3) ja_law_1285 rfl ?_
  refine q_sald (pc' := 1287) ja_law_1286 rfl h3 ?_
  refine q_virt (pc' := 1290) (c := 146) (as := [.int (G.1.2 (i + 1).toNatClampNeg), .int (G.1.2 (i + 2).toNatClampNeg), .int (G.1.2 (i + 3).toNatClampNeg)]) (r := [.int x]) ja_law_1287 rfl rfl rfl (by decide) ⟨rfl, by decide⟩ ?_
  refine q_mono (fun v s'' h'' => ?_) h'
  obtain ⟨rfl, hI'⟩ := h''
  show q_W G 91 jm_law B 1290 (ws_ls i) [.int x, .int x] s''
  refine q_ic_eq (pc' := 1293) ja_law_1290 rfl (fun _ => kk s'' hI') (fun hx => absurd rfl hx)
theorem ws_op34 {G : jv_X} {B : Option Value → jg_H → Prop} {s : jg_H} {i : Int32} (hI : Inv s) (h1 : jv_in (i + 1) G.1.1 = true) (h2 : jv_in (i + 2) G.1.1 = true) (h3 : jv_in (i + 3) G.1.1 = true) (h4 : jv_in (i + 4) G.1.1 = true) (h5 : jv_in (i + 5) G.1.1 = true) (h6 : jv_in (i + 6) G.1.1 = true) (kk : ∀ s', Inv s' → q_W G 91 jm_law B 1361 (ws_ls i) [] s') : q_W G 91 jm_law B 1295 (ws_ls i) [] s := by
  refine q_aload_n (pc' := 1296) (x := 0) ja_law_1295 rfl rfl ?_
  refine q_aload_n (pc' := 1297) (x := 1000000) ja_law_1296 rfl rfl ?_
  refine q_iload_n (pc' := 1298) (x := i) ja_law_1297 rfl rfl ?_
  refine q_iconst (pc' := 1299) ja_law_1298 rfl 1 (by decide) ?_
  refine q_iadd (pc' := 1300) (x := i) (y := 1) ja_law_1299 rfl ?_
  refine q_sald (pc' := 1301) ja_law_1300 rfl h1 ?_
  refine q_aload_n (pc' := 1302) (x := 1000000) ja_law_1301 rfl rfl ?_
  refine q_iload_n (pc' := 1303) (x := i) ja_law_1302 rfl rfl ?_
  refine q_iconst (pc' := 1304) ja_law_1303 rfl 2 (by decide) ?_
  refine q_iadd (pc' := 1305) (x := i) (y := 2) ja_law_1304 rfl ?_
  refine q_sald (pc' := 1306) ja_law_1305 rfl h2 ?_
  refine q_virt (pc' := 1309) (c := 0) (as := [.int (G.1.2 (i + 1).toNatClampNeg), .int (G.1.2 (i + 2).toNatClampNeg)]) (r := []) ja_law_1306 rfl rfl rfl (by decide) ⟨rfl, by decide⟩ ?_
  refine q_mono (fun v s' h' => ?_) (q_typ_int (k := 129) rfl rfl (st_made (G := G) (d := 83) hI _ _))
  obtain ⟨h', x, rfl⟩ := h'
  show q_W G 91 jm_law B 1309 (ws_ls i) [.int x] s'
  refine q_aload_n (pc' := 1310) (x := 146) ja_law_1309 rfl rfl ?_
  refine q_aload_n (pc' := 1311) (x := 1000000) ja_law_1310 rfl rfl ?_
  refine q_iload_n (pc' := 1312) (x := i) ja_law_1311 rfl rfl ?_
  refine q_iconst (pc' := 1313) ja_law_1312 rfl 1 (by decide) ?_
  refine q_iadd (pc' := 1314) (x := i) (y := 1) ja_law_1313 rfl ?_
  refine q_sald (pc' := 1315) ja_law_1314 rfl h1 ?_
  refine q_aload_n (pc' := 1316) (x := 1000000) ja_law_1315 rfl rfl ?_
  refine q_iload_n (pc' := 1317) (x := i) ja_law_1316 rfl rfl ?_
  refine q_iconst (pc' := 1318) ja_law_1317 rfl 2 (by decide) ?_
  refine q_iadd (pc' := 1319) (x := i) (y := 2) ja_law_1318 rfl ?_
  refine q_sald (pc' := 1320) ja_law_1319 rfl h2 ?_
  refine q_virt (pc' := 1323) (c := 146) (as := [.int (G.1.2 (i + 1).toNatClampNeg), .int (G.1.2 (i + 2).toNatClampNeg)]) (r := [.int x]) ja_law_1320 rfl rfl rfl (by decide) ⟨rfl, by decide⟩ ?_
  refine q_mono (fun v s'' h'' => ?_) h'
  obtain ⟨rfl, hI'⟩ := h''
  show q_W G 91 jm_law B 1323 (ws_ls i) [.int x, .int x] s''
  refine q_ic_eq (pc' := 1326) ja_law_1323 rfl (fun _ => kk s'' hI') (fun hx => absurd rfl hx)
theorem ws_op35 {G : jv_X} {B : Option Value → jg_H → Prop} {s : jg_H} {i : Int32} (hI : Inv s) (h1 : jv_in (i + 1) G.1.1 = true) (h2 : jv_in (i + 2) G.1.1 = true) (h3 : jv_in (i + 3) G.1.1 = true) (h4 : jv_in (i + 4) G.1.1 = true) (h5 : jv_in (i + 5) G.1.1 = true) (h6 : jv_in (i + 6) G.1.1 = true) (kk : ∀ s', Inv s' → q_W G 91 jm_law B 1361 (ws_ls i) [] s') : q_W G 91 jm_law B 1328 (ws_ls i) [] s := by
  refine q_aload_n (pc' := 1329) (x := 0) ja_law_1328 rfl rfl ?_
  refine q_aload_n (pc' := 1330) (x := 1000000) ja_law_1329 rfl rfl ?_
  refine q_iload_n (pc' := 1331) (x := i) ja_law_1330 rfl rfl ?_
  refine q_iconst (pc' := 1332) ja_law_1331 rfl 1 (by decide) ?_
  refine q_iadd (pc' := 1333) (x := i) (y := 1) ja_law_1332 rfl ?_
  refine q_sald (pc' := 1334) ja_law_1333 rfl h1 ?_
  refine q_aload_n (pc' := 1335) (x := 1000000) ja_law_1334 rfl rfl ?_
  refine q_iload_n (pc' := 1336) (x := i) ja_law_1335 rfl rfl ?_
  refine q_iconst (pc' := 1337) ja_law_1336 rfl 2 (by decide) ?_
  refine q_iadd (pc' := 1338) (x := i) (y := 2) ja_law_1337 rfl ?_
  refine q_sald (pc' := 1339) ja_law_1338 rfl h2 ?_
  refine q_virt (pc' := 1342) (c := 0) (as := [.int (G.1.2 (i + 1).toNatClampNeg), .int (G.1.2 (i + 2).toNatClampNeg)]) (r := []) ja_law_1339 rfl rfl rfl (by decide) ⟨rfl, by decide⟩ ?_
  refine q_mono (fun v s' h' => ?_) (q_typ_int (k := 130) rfl rfl (st_taken (G := G) (d := 88) hI _ _))
  obtain ⟨h', x, rfl⟩ := h'
  show q_W G 91 jm_law B 1342 (ws_ls i) [.int x] s'
  refine q_aload_n (pc' := 1343) (x := 146) ja_law_1342 rfl rfl ?_
  refine q_aload_n (pc' := 1344) (x := 1000000) ja_law_1343 rfl rfl ?_
  refine q_iload_n (pc' := 1345) (x := i) ja_law_1344 rfl rfl ?_
  refine q_iconst (pc' := 1346) ja_law_1345 rfl 1 (by decide) ?_
  refine q_iadd (pc' := 1347) (x := i) (y := 1) ja_law_1346 rfl ?_
  refine q_sald (pc' := 1348) ja_law_1347 rfl h1 ?_
  refine q_aload_n (pc' := 1349) (x := 1000000) ja_law_1348 rfl rfl ?_
  refine q_iload_n (pc' := 1350) (x := i) ja_law_1349 rfl rfl ?_
  refine q_iconst (pc' := 1351) ja_law_1350 rfl 2 (by decide) ?_
  refine q_iadd (pc' := 1352) (x := i) (y := 2) ja_law_1351 rfl ?_
  refine q_sald (pc' := 1353) ja_law_1352 rfl h2 ?_
  refine q_virt (pc' := 1356) (c := 146) (as := [.int (G.1.2 (i + 1).toNatClampNeg), .int (G.1.2 (i + 2).toNatClampNeg)]) (r := [.int x]) ja_law_1353 rfl rfl rfl (by decide) ⟨rfl, by decide⟩ ?_
  refine q_mono (fun v s'' h'' => ?_) h'
  obtain ⟨rfl, hI'⟩ := h''
  show q_W G 91 jm_law B 1356 (ws_ls i) [.int x, .int x] s''
  refine q_ic_eq (pc' := 1359) ja_law_1356 rfl (fun _ => kk s'' hI') (fun hx => absurd rfl hx)
