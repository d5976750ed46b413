/-! the law of a part: its cases -/
theorem q_pop2 {G : jv_X} {d : Nat} {M : jv_MI} {B : Option Value → jg_H → Prop} {pc pc' n a b t u : Nat} {z : Int} {ls : jv_L} {r : List Value} {s : jg_H} {x : Int64} (ha : jv_at M.2.2.2.2.2.2 pc = some (.pop2, n, a, b, t, u, z)) (hp : pc + n = pc') (k : q_W G d M B pc' ls r s) : q_W G d M B pc ls (.long x :: r) s := by
  subst hp
  exact q_go ha rfl k
theorem wt_op0 {G : jv_X} {B : Option Value → jg_H → Prop} {s : jg_H} {i : Int32} {R : jg_H → Prop} (hop : ∀ (a : Int32), wt_H G R False 39 151 [.int a]) (hR : R s) (h1 : jv_in (i + 1) G.1.1 = true) (h2 : jv_in (i + 2) G.1.1 = true) (h3 : jv_in (i + 3) G.1.1 = true) (h4 : jv_in (i + 4) G.1.1 = true) (h5 : jv_in (i + 5) G.1.1 = true) (h6 : jv_in (i + 6) G.1.1 = true) (kk : ∀ s', R s' → q_W G 91 jm_law B 1358 (ws_ls i) [] s') : q_W G 91 jm_law B 192 (ws_ls i) [] s := by
  refine q_aload_n (pc' := 193) (x := 0) ja_law_192 rfl rfl ?_
  refine q_aload_n (pc' := 194) (x := 1000000) ja_law_193 rfl rfl ?_
  refine q_iload_n (pc' := 195) (x := i) ja_law_194 rfl rfl ?_
  refine q_iconst (pc' := 196) ja_law_195 rfl 1 (by decide) ?_
  refine q_iadd (pc' := 197) (x := i) (y := 1) ja_law_196 rfl ?_
  refine q_sald (pc' := 198) ja_law_197 rfl h1 ?_
  refine q_virt (pc' := 201) (c := 0) (as := [.int (G.1.2 (i + 1).toNatClampNeg)]) (r := []) ja_law_198 rfl rfl rfl (by decide) ⟨rfl, by decide⟩ ?_
  refine q_mono (fun v s' h' => ?_) (q_typ_int (k := 39) rfl rfl (hop _ s hR))
  obtain ⟨h', x, rfl⟩ := h'
  show q_W G 91 jm_law B 201 (ws_ls i) [.int x] s'
  refine q_pop (pc' := 202) ja_law_201 rfl rfl ?_
  refine q_aload_n (pc' := 203) (x := 146) ja_law_202 rfl rfl ?_
  refine q_aload_n (pc' := 204) (x := 1000000) ja_law_203 rfl rfl ?_
  refine q_iload_n (pc' := 205) (x := i) ja_law_204 rfl rfl ?_
  refine q_iconst (pc' := 206) ja_law_205 rfl 1 (by decide) ?_
  refine q_iadd (pc' := 207) (x := i) (y := 1) ja_law_206 rfl ?_
  refine q_sald (pc' := 208) ja_law_207 rfl h1 ?_
  refine q_virt (pc' := 211) (c := 146) (as := [.int (G.1.2 (i + 1).toNatClampNeg)]) (r := []) ja_law_208 rfl rfl rfl (by decide) ⟨rfl, by decide⟩ ?_
  refine q_mono (fun v s'' h'' => ?_) (q_typ_int (k := 151) rfl rfl h')
  obtain ⟨⟨-, hI'⟩, y, rfl⟩ := h''
  show q_W G 91 jm_law B 211 (ws_ls i) [.int y] s''
  refine q_pop (pc' := 212) ja_law_211 rfl rfl ?_
  exact q_goto ja_law_212 (kk s'' hI')
theorem wt_op1 {G : jv_X} {B : Option Value → jg_H → Prop} {s : jg_H} {i : Int32} {R : jg_H → Prop} (hop : ∀ (a : Int32) (b : Int32) (c : Int32), wt_H G R False 40 153 [.int a, .int b, .int c]) (hR : R s) (h1 : jv_in (i + 1) G.1.1 = true) (h2 : jv_in (i + 2) G.1.1 = true) (h3 : jv_in (i + 3) G.1.1 = true) (h4 : jv_in (i + 4) G.1.1 = true) (h5 : jv_in (i + 5) G.1.1 = true) (h6 : jv_in (i + 6) G.1.1 = true) (kk : ∀ s', R s' → q_W G 91 jm_law B 1358 (ws_ls i) [] s') : q_W G 91 jm_law B 215 (ws_ls i) [] s := by
  refine q_aload_n (pc' := 216) (x := 0) ja_law_215 rfl rfl ?_
  refine q_aload_n (pc' := 217) (x := 1000000) ja_law_216 rfl rfl ?_
  refine q_iload_n (pc' := 218) (x := i) ja_law_217 rfl rfl ?_
  refine q_iconst (pc' := 219) ja_law_218 rfl 1 (by decide) ?_
  refine q_iadd (pc' := 220) (x := i) (y := 1) ja_law_219 rfl ?_
  refine q_sald (pc' := 221) ja_law_220 rfl h1 ?_
  refine q_aload_n (pc' := 222) (x := 1000000) ja_law_221 rfl rfl ?_
  refine q_iload_n (pc' := 223) (x := i) ja_law_222 rfl rfl ?_
  refine q_iconst (pc' := 224) ja_law_223 rfl 2 (by decide) ?_
  refine q_iadd (pc' := 225) (x := i) (y := 2) ja_law_224 rfl ?_
  refine q_sald (pc' := 226) ja_law_225 rfl h2 ?_
  refine q_aload_n (pc' := 227) (x := 1000000) ja_law_226 rfl rfl ?_
  refine q_iload_n (pc' := 228) (x := i) ja_law_227 rfl rfl ?_
  refine q_iconst (pc' := 229) ja_law_228 rfl 3 (by decide) ?_
  refine q_iadd (pc' := 230) (x := i) (y := 3) ja_law_229 rfl ?_
  refine q_sald (pc' := 231) ja_law_230 rfl h3 ?_
  refine q_virt (pc' := 234) (c := 0) (as := [.int (G.1.2 (i + 1).toNatClampNeg), .int (G.1.2 (i + 2).toNatClampNeg), .int (G.1.2 (i + 3).toNatClampNeg)]) (r := []) ja_law_231 rfl rfl rfl (by decide) ⟨rfl, by decide⟩ ?_
  refine q_mono (fun v s' h' => ?_) (q_typ_int (k := 40) rfl rfl (hop _ _ _ s hR))
  obtain ⟨h', x, rfl⟩ := h'
  show q_W G 91 jm_law B 234 (ws_ls i) [.int x] s'
  refine q_pop (pc' := 235) ja_law_234 rfl rfl ?_
  refine q_aload_n (pc' := 236) (x := 146) ja_law_235 rfl rfl ?_
  refine q_aload_n (pc' := 237) (x := 1000000) ja_law_236 rfl rfl ?_
  refine q_iload_n (pc' := 238) (x := i) ja_law_237 rfl rfl ?_
  refine q_iconst (pc' := 239) ja_law_238 rfl 1 (by decide) ?_
  refine q_iadd (pc' := 240) (x := i) (y := 1) ja_law_239 rfl ?_
  refine q_sald (pc' := 241) ja_law_240 rfl h1 ?_
  refine q_aload_n (pc' := 242) (x := 1000000) ja_law_241 rfl rfl ?_
  refine q_iload_n (pc' := 243) (x := i) ja_law_242 rfl rfl ?_
  refine q_iconst (pc' := 244) ja_law_243 rfl 2 (by decide) ?_
  refine q_iadd (pc' := 245) (x := i) (y := 2) ja_law_244 rfl ?_
  refine q_sald (pc' := 246) ja_law_245 rfl h2 ?_
  refine q_aload_n (pc' := 247) (x := 1000000) ja_law_246 rfl rfl ?_
  refine q_iload_n (pc' := 248) (x := i) ja_law_247 rfl rfl ?_
  refine q_iconst (pc' := 249) ja_law_248 rfl 3 (by decide) ?_
  refine q_iadd (pc' := 250) (x := i) (y := 3) ja_law_249 rfl ?_
  refine q_sald (pc' := 251) ja_law_250 rfl h3 ?_
  refine q_virt (pc' := 254) (c := 146) (as := [.int (G.1.2 (i + 1).toNatClampNeg), .int (G.1.2 (i + 2).toNatClampNeg), .int (G.1.2 (i + 3).toNatClampNeg)]) (r := []) ja_law_251 rfl rfl rfl (by decide) ⟨rfl, by decide⟩ ?_
  refine q_mono (fun v s'' h'' => ?_) (q_typ_int (k := 153) rfl rfl h')
  obtain ⟨⟨-, hI'⟩, y, rfl⟩ := h''
  show q_W G 91 jm_law B 254 (ws_ls i) [.int y] s''
  refine q_pop (pc' := 255) ja_law_254 rfl rfl ?_
  exact q_goto ja_law_255 (kk s'' hI')
theorem wt_op2a {G : jv_X} {B : Option Value → jg_H → Prop} {s : jg_H} {i : Int32} {R : jg_H → Prop} (hop : ∀ (a : Int32) (b : Int32), (b = 0 ∨ b = 1) → wt_H G R False 45 156 [.int a, .int b]) (hR : R s) (h1 : jv_in (i + 1) G.1.1 = true) (h2 : jv_in (i + 2) G.1.1 = true) (h3 : jv_in (i + 3) G.1.1 = true) (h4 : jv_in (i + 4) G.1.1 = true) (h5 : jv_in (i + 5) G.1.1 = true) (h6 : jv_in (i + 6) G.1.1 = true) (kk : ∀ s', R s' → q_W G 91 jm_law B 1358 (ws_ls i) [] s') (hz : G.1.2 (i + 2).toNatClampNeg = 0) : q_W G 91 jm_law B 258 (ws_ls i) [] s := by
  refine q_aload_n (pc' := 259) (x := 0) ja_law_258 rfl rfl ?_
  refine q_aload_n (pc' := 260) (x := 1000000) ja_law_259 rfl rfl ?_
  refine q_iload_n (pc' := 261) (x := i) ja_law_260 rfl rfl ?_
  refine q_iconst (pc' := 262) ja_law_261 rfl 1 (by decide) ?_
  refine q_iadd (pc' := 263) (x := i) (y := 1) ja_law_262 rfl ?_
  refine q_sald (pc' := 264) ja_law_263 rfl h1 ?_
  refine q_aload_n (pc' := 265) (x := 1000000) ja_law_264 rfl rfl ?_
  refine q_iload_n (pc' := 266) (x := i) ja_law_265 rfl rfl ?_
  refine q_iconst (pc' := 267) ja_law_266 rfl 2 (by decide) ?_
  refine q_iadd (pc' := 268) (x := i) (y := 2) ja_law_267 rfl ?_
  refine q_sald (pc' := 269) ja_law_268 rfl h2 ?_
  refine q_if_eq (pc' := 272) ja_law_269 rfl (fun _ => ?_) (fun hx => absurd hz hx)
  refine q_iconst (pc' := 277) ja_law_276 rfl 0 (by decide) ?_
  refine q_virt (pc' := 280) (c := 0) (as := [.int (G.1.2 (i + 1).toNatClampNeg), .int (0)]) (r := []) ja_law_277 rfl rfl rfl (by decide) ⟨rfl, by decide⟩ ?_
  refine q_mono (fun v s' h' => ?_) (q_typ_int (k := 45) rfl rfl (hop _ _ (Or.inl rfl) s hR))
  obtain ⟨h', x, rfl⟩ := h'
  show q_W G 91 jm_law B 280 (ws_ls i) [.int x] s'
  refine q_pop (pc' := 281) ja_law_280 rfl rfl ?_
  refine q_aload_n (pc' := 282) (x := 146) ja_law_281 rfl rfl ?_
  refine q_aload_n (pc' := 283) (x := 1000000) ja_law_282 rfl rfl ?_
  refine q_iload_n (pc' := 284) (x := i) ja_law_283 rfl rfl ?_
  refine q_iconst (pc' := 285) ja_law_284 rfl 1 (by decide) ?_
  refine q_iadd (pc' := 286) (x := i) (y := 1) ja_law_285 rfl ?_
  refine q_sald (pc' := 287) ja_law_286 rfl h1 ?_
  refine q_aload_n (pc' := 288) (x := 1000000) ja_law_287 rfl rfl ?_
  refine q_iload_n (pc' := 289) (x := i) ja_law_288 rfl rfl ?_
  refine q_iconst (pc' := 290) ja_law_289 rfl 2 (by decide) ?_
  refine q_iadd (pc' := 291) (x := i) (y := 2) ja_law_290 rfl ?_
  refine q_sald (pc' := 292) ja_law_291 rfl h2 ?_
  refine q_if_eq (pc' := 295) ja_law_292 rfl (fun _ => ?_) (fun hx => absurd hz hx)
  refine q_iconst (pc' := 300) ja_law_299 rfl 0 (by decide) ?_
  refine q_virt (pc' := 303) (c := 146) (as := [.int (G.1.2 (i + 1).toNatClampNeg), .int (0)]) (r := []) ja_law_300 rfl rfl rfl (by decide) ⟨rfl, by decide⟩ ?_
  refine q_mono (fun v s'' h'' => ?_) (q_typ_int (k := 156) rfl rfl h')
  obtain ⟨⟨-, hI'⟩, y, rfl⟩ := h''
  show q_W G 91 jm_law B 303 (ws_ls i) [.int y] s''
  refine q_pop (pc' := 304) ja_law_303 rfl rfl ?_
  exact q_goto ja_law_304 (kk s'' hI')
theorem wt_op2b {G : jv_X} {B : Option Value → jg_H → Prop} {s : jg_H} {i : Int32} {R : jg_H → Prop} (hop : ∀ (a : Int32) (b : Int32), (b = 0 ∨ b = 1) → wt_H G R False 45 156 [.int a, .int b]) (hR : R s) (h1 : jv_in (i + 1) G.1.1 = true) (h2 : jv_in (i + 2) G.1.1 = true) (h3 : jv_in (i + 3) G.1.1 = true) (h4 : jv_in (i + 4) G.1.1 = true) (h5 : jv_in (i + 5) G.1.1 = true) (h6 : jv_in (i + 6) G.1.1 = true) (kk : ∀ s', R s' → q_W G 91 jm_law B 1358 (ws_ls i) [] s') (hz : ¬ G.1.2 (i + 2).toNatClampNeg = 0) : q_W G 91 jm_law B 258 (ws_ls i) [] s := by
  refine q_aload_n (pc' := 259) (x := 0) ja_law_258 rfl rfl ?_
  refine q_aload_n (pc' := 260) (x := 1000000) ja_law_259 rfl rfl ?_
  refine q_iload_n (pc' := 261) (x := i) ja_law_260 rfl rfl ?_
  refine q_iconst (pc' := 262) ja_law_261 rfl 1 (by decide) ?_
  refine q_iadd (pc' := 263) (x := i) (y := 1) ja_law_262 rfl ?_
  refine q_sald (pc' := 264) ja_law_263 rfl h1 ?_
  refine q_aload_n (pc' := 265) (x := 1000000) ja_law_264 rfl rfl ?_
  refine q_iload_n (pc' := 266) (x := i) ja_law_265 rfl rfl ?_
  refine q_iconst (pc' := 267) ja_law_266 rfl 2 (by decide) ?_
  refine q_iadd (pc' := 268) (x := i) (y := 2) ja_law_267 rfl ?_
  refine q_sald (pc' := 269) ja_law_268 rfl h2 ?_
  refine q_if_eq (pc' := 272) ja_law_269 rfl (fun hx => absurd hx hz) (fun _ => ?_)
  refine q_iconst (pc' := 273) ja_law_272 rfl 1 (by decide) ?_
  refine q_goto ja_law_273 ?_
  refine q_virt (pc' := 280) (c := 0) (as := [.int (G.1.2 (i + 1).toNatClampNeg), .int (1)]) (r := []) ja_law_277 rfl rfl rfl (by decide) ⟨rfl, by decide⟩ ?_
  refine q_mono (fun v s' h' => ?_) (q_typ_int (k := 45) rfl rfl (hop _ _ (Or.inr rfl) s hR))
  obtain ⟨h', x, rfl⟩ := h'
  show q_W G 91 jm_law B 280 (ws_ls i) [.int x] s'
  refine q_pop (pc' := 281) ja_law_280 rfl rfl ?_
  refine q_aload_n (pc' := 282) (x := 146) ja_law_281 rfl rfl ?_
  refine q_aload_n (pc' := 283) (x := 1000000) ja_law_282 rfl rfl ?_
  refine q_iload_n (pc' := 284) (x := i) ja_law_283 rfl rfl ?_
  refine q_iconst (pc' := 285) ja_law_284 rfl 1 (by decide) ?_
  refine q_iadd (pc' := 286) (x := i) (y := 1) ja_law_285 rfl ?_
  refine q_sald (pc' := 287) ja_law_286 rfl h1 ?_
  refine q_aload_n (pc' := 288) (x := 1000000) ja_law_287 rfl rfl ?_
  refine q_iload_n (pc' := 289) (x := i) ja_law_288 rfl rfl ?_
  refine q_iconst (pc' := 290) ja_law_289 rfl 2 (by decide) ?_
  refine q_iadd (pc' := 291) (x := i) (y := 2) ja_law_290 rfl ?_
  refine q_sald (pc' := 292) ja_law_291 rfl h2 ?_
  refine q_if_eq (pc' := 295) ja_law_292 rfl (fun hx => absurd hx hz) (fun _ => ?_)
  refine q_iconst (pc' := 296) ja_law_295 rfl 1 (by decide) ?_
  refine q_goto ja_law_296 ?_
  refine q_virt (pc' := 303) (c := 146) (as := [.int (G.1.2 (i + 1).toNatClampNeg), .int (1)]) (r := []) ja_law_300 rfl rfl rfl (by decide) ⟨rfl, by decide⟩ ?_
  refine q_mono (fun v s'' h'' => ?_) (q_typ_int (k := 156) rfl rfl h')
  obtain ⟨⟨-, hI'⟩, y, rfl⟩ := h''
  show q_W G 91 jm_law B 303 (ws_ls i) [.int y] s''
  refine q_pop (pc' := 304) ja_law_303 rfl rfl ?_
  exact q_goto ja_law_304 (kk s'' hI')
theorem wt_op2 {G : jv_X} {B : Option Value → jg_H → Prop} {s : jg_H} {i : Int32} {R : jg_H → Prop} (hop : ∀ (a : Int32) (b : Int32), (b = 0 ∨ b = 1) → wt_H G R False 45 156 [.int a, .int b]) (hR : R s) (h1 : jv_in (i + 1) G.1.1 = true) (h2 : jv_in (i + 2) G.1.1 = true) (h3 : jv_in (i + 3) G.1.1 = true) (h4 : jv_in (i + 4) G.1.1 = true) (h5 : jv_in (i + 5) G.1.1 = true) (h6 : jv_in (i + 6) G.1.1 = true) (kk : ∀ s', R s' → q_W G 91 jm_law B 1358 (ws_ls i) [] s') : q_W G 91 jm_law B 258 (ws_ls i) [] s := by
  by_cases hz : G.1.2 (i + 2).toNatClampNeg = 0
  · exact wt_op2a hop hR h1 h2 h3 h4 h5 h6 kk hz
  · exact wt_op2b hop hR h1 h2 h3 h4 h5 h6 kk hz
theorem wt_op3 {G : jv_X} {B : Option Value → jg_H → Prop} {s : jg_H} {i : Int32} {R : jg_H → Prop} (hop : ∀ (a : Int32) (b : Int32), wt_H G R False 46 157 [.int a, .int b]) (hR : R s) (h1 : jv_in (i + 1) G.1.1 = true) (h2 : jv_in (i + 2) G.1.1 = true) (h3 : jv_in (i + 3) G.1.1 = true) (h4 : jv_in (i + 4) G.1.1 = true) (h5 : jv_in (i + 5) G.1.1 = true) (h6 : jv_in (i + 6) G.1.1 = true) (kk : ∀ s', R s' → q_W G 91 jm_law B 1358 (ws_ls i) [] s') : q_W G 91 jm_law B 307 (ws_ls i) [] s := by
  refine q_aload_n (pc' := 308) (x := 0) ja_law_307 rfl rfl ?_
  refine q_aload_n (pc' := 309) (x := 1000000) ja_law_308 rfl rfl ?_
  refine q_iload_n (pc' := 310) (x := i) ja_law_309 rfl rfl ?_
  refine q_iconst (pc' := 311) ja_law_310 rfl 1 (by decide) ?_
  refine q_iadd (pc' := 312) (x := i) (y := 1) ja_law_311 rfl ?_
  refine q_sald (pc' := 313) ja_law_312 rfl h1 ?_
  refine q_aload_n (pc' := 314) (x := 1000000) ja_law_313 rfl rfl ?_
  refine q_iload_n (pc' := 315) (x := i) ja_law_314 rfl rfl ?_
  refine q_iconst (pc' := 316) ja_law_315 rfl 2 (by decide) ?_
  refine q_iadd (pc' := 317) (x := i) (y := 2) ja_law_316 rfl ?_
  refine q_sald (pc' := 318) ja_law_317 rfl h2 ?_
  refine q_virt (pc' := 321) (c := 0) (as := [.int (G.1.2 (i + 1).toNatClampNeg), .int (G.1.2 (i + 2).toNatClampNeg)]) (r := []) ja_law_318 rfl rfl rfl (by decide) ⟨rfl, by decide⟩ ?_
  refine q_mono (fun v s' h' => ?_) (q_typ_int (k := 46) rfl rfl (hop _ _ s hR))
  obtain ⟨h', x, rfl⟩ := h'
  show q_W G 91 jm_law B 321 (ws_ls i) [.int x] s'
  refine q_pop (pc' := 322) ja_law_321 rfl rfl ?_
  refine q_aload_n (pc' := 323) (x := 146) ja_law_322 rfl rfl ?_
  refine q_aload_n (pc' := 324) (x := 1000000) ja_law_323 rfl rfl ?_
  refine q_iload_n (pc' := 325) (x := i) ja_law_324 rfl rfl ?_
  refine q_iconst (pc' := 326) ja_law_325 rfl 1 (by decide) ?_
  refine q_iadd (pc' := 327) (x := i) (y := 1) ja_law_326 rfl ?_
  refine q_sald (pc' := 328) ja_law_327 rfl h1 ?_
  refine q_aload_n (pc' := 329) (x := 1000000) ja_law_328 rfl rfl ?_
  refine q_iload_n (pc' := 330) (x := i) ja_law_329 rfl rfl ?_
  refine q_iconst (pc' := 331) ja_law_330 rfl 2 (by decide) ?_
  refine q_iadd (pc' := 332) (x := i) (y := 2) ja_law_331 rfl ?_
  refine q_sald (pc' := 333) ja_law_332 rfl h2 ?_
  refine q_virt (pc' := 336) (c := 146) (as := [.int (G.1.2 (i + 1).toNatClampNeg), .int (G.1.2 (i + 2).toNatClampNeg)]) (r := []) ja_law_333 rfl rfl rfl (by decide) ⟨rfl, by decide⟩ ?_
  refine q_mono (fun v s'' h'' => ?_) (q_typ_int (k := 157) rfl rfl h')
  obtain ⟨⟨-, hI'⟩, y, rfl⟩ := h''
  show q_W G 91 jm_law B 336 (ws_ls i) [.int y] s''
  refine q_pop (pc' := 337) ja_law_336 rfl rfl ?_
  exact q_goto ja_law_337 (kk s'' hI')
theorem wt_op4 {G : jv_X} {B : Option Value → jg_H → Prop} {s : jg_H} {i : Int32} {R : jg_H → Prop} (hop : ∀ (a : Int32), wt_H G R False 47 158 [.int a]) (hR : R s) (h1 : jv_in (i + 1) G.1.1 = true) (h2 : jv_in (i + 2) G.1.1 = true) (h3 : jv_in (i + 3) G.1.1 = true) (h4 : jv_in (i + 4) G.1.1 = true) (h5 : jv_in (i + 5) G.1.1 = true) (h6 : jv_in (i + 6) G.1.1 = true) (kk : ∀ s', R s' → q_W G 91 jm_law B 1358 (ws_ls i) [] s') : q_W G 91 jm_law B 340 (ws_ls i) [] s := by
  refine q_aload_n (pc' := 341) (x := 0) ja_law_340 rfl rfl ?_
  refine q_aload_n (pc' := 342) (x := 1000000) ja_law_341 rfl rfl ?_
  refine q_iload_n (pc' := 343) (x := i) ja_law_342 rfl rfl ?_
  refine q_iconst (pc' := 344) ja_law_343 rfl 1 (by decide) ?_
  refine q_iadd (pc' := 345) (x := i) (y := 1) ja_law_344 rfl ?_
  refine q_sald (pc' := 346) ja_law_345 rfl h1 ?_
  refine q_virt (pc' := 349) (c := 0) (as := [.int (G.1.2 (i + 1).toNatClampNeg)]) (r := []) ja_law_346 rfl rfl rfl (by decide) ⟨rfl, by decide⟩ ?_
  refine q_mono (fun v s' h' => ?_) (q_typ_int (k := 47) rfl rfl (hop _ s hR))
  obtain ⟨h', x, rfl⟩ := h'
  show q_W G 91 jm_law B 349 (ws_ls i) [.int x] s'
  refine q_pop (pc' := 350) ja_law_349 rfl rfl ?_
  refine q_aload_n (pc' := 351) (x := 146) ja_law_350 rfl rfl ?_
  refine q_aload_n (pc' := 352) (x := 1000000) ja_law_351 rfl rfl ?_
  refine q_iload_n (pc' := 353) (x := i) ja_law_352 rfl rfl ?_
  refine q_iconst (pc' := 354) ja_law_353 rfl 1 (by decide) ?_
  refine q_iadd (pc' := 355) (x := i) (y := 1) ja_law_354 rfl ?_
  refine q_sald (pc' := 356) ja_law_355 rfl h1 ?_
  refine q_virt (pc' := 359) (c := 146) (as := [.int (G.1.2 (i + 1).toNatClampNeg)]) (r := []) ja_law_356 rfl rfl rfl (by decide) ⟨rfl, by decide⟩ ?_
  refine q_mono (fun v s'' h'' => ?_) (q_typ_int (k := 158) rfl rfl h')
  obtain ⟨⟨-, hI'⟩, y, rfl⟩ := h''
  show q_W G 91 jm_law B 359 (ws_ls i) [.int y] s''
  refine q_pop (pc' := 360) ja_law_359 rfl rfl ?_
  exact q_goto ja_law_360 (kk s'' hI')
theorem wt_op5 {G : jv_X} {B : Option Value → jg_H → Prop} {s : jg_H} {i : Int32} {R : jg_H → Prop} (hop : ∀ (a : Int32) (b : Int32), wt_H G R False 48 159 [.int a, .int b]) (hR : R s) (h1 : jv_in (i + 1) G.1.1 = true) (h2 : jv_in (i + 2) G.1.1 = true) (h3 : jv_in (i + 3) G.1.1 = true) (h4 : jv_in (i + 4) G.1.1 = true) (h5 : jv_in (i + 5) G.1.1 = true) (h6 : jv_in (i + 6) G.1.1 = true) (kk : ∀ s', R s' → q_W G 91 jm_law B 1358 (ws_ls i) [] s') : q_W G 91 jm_law B 363 (ws_ls i) [] s := by
  refine q_aload_n (pc' := 364) (x := 0) ja_law_363 rfl rfl ?_
  refine q_aload_n (pc' := 365) (x := 1000000) ja_law_364 rfl rfl ?_
  refine q_iload_n (pc' := 366) (x := i) ja_law_365 rfl rfl ?_
  refine q_iconst (pc' := 367) ja_law_366 rfl 1 (by decide) ?_
  refine q_iadd (pc' := 368) (x := i) (y := 1) ja_law_367 rfl ?_
  refine q_sald (pc' := 369) ja_law_368 rfl h1 ?_
  refine q_aload_n (pc' := 370) (x := 1000000) ja_law_369 rfl rfl ?_
  refine q_iload_n (pc' := 371) (x := i) ja_law_370 rfl rfl ?_
  refine q_iconst (pc' := 372) ja_law_371 rfl 2 (by decide) ?_
  refine q_iadd (pc' := 373) (x := i) (y := 2) ja_law_372 rfl ?_
  refine q_sald (pc' := 374) ja_law_373 rfl h2 ?_
  refine q_virt (pc' := 377) (c := 0) (as := [.int (G.1.2 (i + 1).toNatClampNeg), .int (G.1.2 (i + 2).toNatClampNeg)]) (r := []) ja_law_374 rfl rfl rfl (by decide) ⟨rfl, by decide⟩ ?_
  refine q_mono (fun v s' h' => ?_) (q_typ_int (k := 48) rfl rfl (hop _ _ s hR))
  obtain ⟨h', x, rfl⟩ := h'
  show q_W G 91 jm_law B 377 (ws_ls i) [.int x] s'
  refine q_pop (pc' := 378) ja_law_377 rfl rfl ?_
  refine q_aload_n (pc' := 379) (x := 146) ja_law_378 rfl rfl ?_
  refine q_aload_n (pc' := 380) (x := 1000000) ja_law_379 rfl rfl ?_
  refine q_iload_n (pc' := 381) (x := i) ja_law_380 rfl rfl ?_
  refine q_iconst (pc' := 382) ja_law_381 rfl 1 (by decide) ?_
  refine q_iadd (pc' := 383) (x := i) (y := 1) ja_law_382 rfl ?_
  refine q_sald (pc' := 384) ja_law_383 rfl h1 ?_
  refine q_aload_n (pc' := 385) (x := 1000000) ja_law_384 rfl rfl ?_
  refine q_iload_n (pc' := 386) (x := i) ja_law_385 rfl rfl ?_
  refine q_iconst (pc' := 387) ja_law_386 rfl 2 (by decide) ?_
  refine q_iadd (pc' := 388) (x := i) (y := 2) ja_law_387 rfl ?_
  refine q_sald (pc' := 389) ja_law_388 rfl h2 ?_
  refine q_virt (pc' := 392) (c := 146) (as := [.int (G.1.2 (i + 1).toNatClampNeg), .int (G.1.2 (i + 2).toNatClampNeg)]) (r := []) ja_law_389 rfl rfl rfl (by decide) ⟨rfl, by decide⟩ ?_
  refine q_mono (fun v s'' h'' => ?_) (q_typ_int (k := 159) rfl rfl h')
  obtain ⟨⟨-, hI'⟩, y, rfl⟩ := h''
  show q_W G 91 jm_law B 392 (ws_ls i) [.int y] s''
  refine q_pop (pc' := 393) ja_law_392 rfl rfl ?_
  exact q_goto ja_law_393 (kk s'' hI')
theorem wt_op6 {G : jv_X} {B : Option Value → jg_H → Prop} {s : jg_H} {i : Int32} {R : jg_H → Prop} (hop : ∀ (a : Int32) (b : Int32), wt_H G R False 49 160 [.int a, .int b]) (hR : R s) (h1 : jv_in (i + 1) G.1.1 = true) (h2 : jv_in (i + 2) G.1.1 = true) (h3 : jv_in (i + 3) G.1.1 = true) (h4 : jv_in (i + 4) G.1.1 = true) (h5 : jv_in (i + 5) G.1.1 = true) (h6 : jv_in (i + 6) G.1.1 = true) (kk : ∀ s', R s' → q_W G 91 jm_law B 1358 (ws_ls i) [] s') : q_W G 91 jm_law B 396 (ws_ls i) [] s := by
  refine q_aload_n (pc' := 397) (x := 0) ja_law_396 rfl rfl ?_
  refine q_aload_n (pc' := 398) (x := 1000000) ja_law_397 rfl rfl ?_
  refine q_iload_n (pc' := 399) (x := i) ja_law_398 rfl rfl ?_
  refine q_iconst (pc' := 400) ja_law_399 rfl 1 (by decide) ?_
  refine q_iadd (pc' := 401) (x := i) (y := 1) ja_law_400 rfl ?_
  refine q_sald (pc' := 402) ja_law_401 rfl h1 ?_
  refine q_aload_n (pc' := 403) (x := 1000000) ja_law_402 rfl rfl ?_
  refine q_iload_n (pc' := 404) (x := i) ja_law_403 rfl rfl ?_
  refine q_iconst (pc' := 405) ja_law_404 rfl 2 (by decide) ?_
  refine q_iadd (pc' := 406) (x := i) (y := 2) ja_law_405 rfl ?_
  refine q_sald (pc' := 407) ja_law_406 rfl h2 ?_
  refine q_virt (pc' := 410) (c := 0) (as := [.int (G.1.2 (i + 1).toNatClampNeg), .int (G.1.2 (i + 2).toNatClampNeg)]) (r := []) ja_law_407 rfl rfl rfl (by decide) ⟨rfl, by decide⟩ ?_
  refine q_mono (fun v s' h' => ?_) (q_typ_int (k := 49) rfl rfl (hop _ _ s hR))
  obtain ⟨h', x, rfl⟩ := h'
  show q_W G 91 jm_law B 410 (ws_ls i) [.int x] s'
  refine q_pop (pc' := 411) ja_law_410 rfl rfl ?_
  refine q_aload_n (pc' := 412) (x := 146) ja_law_411 rfl rfl ?_
  refine q_aload_n (pc' := 413) (x := 1000000) ja_law_412 rfl rfl ?_
  refine q_iload_n (pc' := 414) (x := i) ja_law_413 rfl rfl ?_
  refine q_iconst (pc' := 415) ja_law_414 rfl 1 (by decide) ?_
  refine q_iadd (pc' := 416) (x := i) (y := 1) ja_law_415 rfl ?_
  refine q_sald (pc' := 417) ja_law_416 rfl h1 ?_
  refine q_aload_n (pc' := 418) (x := 1000000) ja_law_417 rfl rfl ?_
  refine q_iload_n (pc' := 419) (x := i) ja_law_418 rfl rfl ?_
  refine q_iconst (pc' := 420) ja_law_419 rfl 2 (by decide) ?_
  refine q_iadd (pc' := 421) (x := i) (y := 2) ja_law_420 rfl ?_
  refine q_sald (pc' := 422) ja_law_421 rfl h2 ?_
  refine q_virt (pc' := 425) (c := 146) (as := [.int (G.1.2 (i + 1).toNatClampNeg), .int (G.1.2 (i + 2).toNatClampNeg)]) (r := []) ja_law_422 rfl rfl rfl (by decide) ⟨rfl, by decide⟩ ?_
  refine q_mono (fun v s'' h'' => ?_) (q_typ_int (k := 160) rfl rfl h')
  obtain ⟨⟨-, hI'⟩, y, rfl⟩ := h''
  show q_W G 91 jm_law B 425 (ws_ls i) [.int y] s''
  refine q_pop (pc' := 426) ja_law_425 rfl rfl ?_
  exact q_goto ja_law_426 (kk s'' hI')
theorem wt_op7 {G : jv_X} {B : Option Value → jg_H → Prop} {s : jg_H} {i : Int32} {R : jg_H → Prop} (hop : wt_H G R False 50 161 []) (hR : R s) (h1 : jv_in (i + 1) G.1.1 = true) (h2 : jv_in (i + 2) G.1.1 = true) (h3 : jv_in (i + 3) G.1.1 = true) (h4 : jv_in (i + 4) G.1.1 = true) (h5 : jv_in (i + 5) G.1.1 = true) (h6 : jv_in (i + 6) G.1.1 = true) (kk : ∀ s', R s' → q_W G 91 jm_law B 1358 (ws_ls i) [] s') : q_W G 91 jm_law B 429 (ws_ls i) [] s := by
  refine q_aload_n (pc' := 430) (x := 0) ja_law_429 rfl rfl ?_
  refine q_virt (pc' := 433) (c := 0) (as := []) (r := []) ja_law_430 rfl rfl rfl (by decide) ⟨rfl, by decide⟩ ?_
  refine q_mono (fun v s' h' => ?_) (q_typ_int (k := 50) rfl rfl (hop s hR))
  obtain ⟨h', x, rfl⟩ := h'
  show q_W G 91 jm_law B 433 (ws_ls i) [.int x] s'
  refine q_pop (pc' := 434) ja_law_433 rfl rfl ?_
  refine q_aload_n (pc' := 435) (x := 146) ja_law_434 rfl rfl ?_
  refine q_virt (pc' := 438) (c := 146) (as := []) (r := []) ja_law_435 rfl rfl rfl (by decide) ⟨rfl, by decide⟩ ?_
  refine q_mono (fun v s'' h'' => ?_) (q_typ_int (k := 161) rfl rfl h')
  obtain ⟨⟨-, hI'⟩, y, rfl⟩ := h''
  show q_W G 91 jm_law B 438 (ws_ls i) [.int y] s''
  refine q_pop (pc' := 439) ja_law_438 rfl rfl ?_
  exact q_goto ja_law_439 (kk s'' hI')
theorem wt_op8 {G : jv_X} {B : Option Value → jg_H → Prop} {s : jg_H} {i : Int32} {R : jg_H → Prop} (hop : ∀ (a : Int32) (b : Int32), wt_H G R False 51 162 [.int a, .int b]) (hR : R s) (h1 : jv_in (i + 1) G.1.1 = true) (h2 : jv_in (i + 2) G.1.1 = true) (h3 : jv_in (i + 3) G.1.1 = true) (h4 : jv_in (i + 4) G.1.1 = true) (h5 : jv_in (i + 5) G.1.1 = true) (h6 : jv_in (i + 6) G.1.1 = true) (kk : ∀ s', R s' → q_W G 91 jm_law B 1358 (ws_ls i) [] s') : q_W G 91 jm_law B 442 (ws_ls i) [] s := by
  refine q_aload_n (pc' := 443) (x := 0) ja_law_442 rfl rfl ?_
  refine q_aload_n (pc' := 444) (x := 1000000) ja_law_443 rfl rfl ?_
  refine q_iload_n (pc' := 445) (x := i) ja_law_444 rfl rfl ?_
  refine q_iconst (pc' := 446) ja_law_445 rfl 1 (by decide) ?_
  refine q_iadd (pc' := 447) (x := i) (y := 1) ja_law_446 rfl ?_
  refine q_sald (pc' := 448) ja_law_447 rfl h1 ?_
  refine q_aload_n (pc' := 449) (x := 1000000) ja_law_448 rfl rfl ?_
  refine q_iload_n (pc' := 450) (x := i) ja_law_449 rfl rfl ?_
  refine q_iconst (pc' := 451) ja_law_450 rfl 2 (by decide) ?_
  refine q_iadd (pc' := 452) (x := i) (y := 2) ja_law_451 rfl ?_
  refine q_sald (pc' := 453) ja_law_452 rfl h2 ?_
  refine q_virt (pc' := 456) (c := 0) (as := [.int (G.1.2 (i + 1).toNatClampNeg), .int (G.1.2 (i + 2).toNatClampNeg)]) (r := []) ja_law_453 rfl rfl rfl (by decide) ⟨rfl, by decide⟩ ?_
  refine q_mono (fun v s' h' => ?_) (q_typ_int (k := 51) rfl rfl (hop _ _ s hR))
  obtain ⟨h', x, rfl⟩ := h'
  show q_W G 91 jm_law B 456 (ws_ls i) [.int x] s'
  refine q_pop (pc' := 457) ja_law_456 rfl rfl ?_
  refine q_aload_n (pc' := 458) (x := 146) ja_law_457 rfl rfl ?_
  refine q_aload_n (pc' := 459) (x := 1000000) ja_law_458 rfl rfl ?_
  refine q_iload_n (pc' := 460) (x := i) ja_law_459 rfl rfl ?_
  refine q_iconst (pc' := 461) ja_law_460 rfl 1 (by decide) ?_
  refine q_iadd (pc' := 462) (x := i) (y := 1) ja_law_461 rfl ?_
  refine q_sald (pc' := 463) ja_law_462 rfl h1 ?_
  refine q_aload_n (pc' := 464) (x := 1000000) ja_law_463 rfl rfl ?_
  refine q_iload_n (pc' := 465) (x := i) ja_law_464 rfl rfl ?_
  refine q_iconst (pc' := 466) ja_law_465 rfl 2 (by decide) ?_
  refine q_iadd (pc' := 467) (x := i) (y := 2) ja_law_466 rfl ?_
  refine q_sald (pc' := 468) ja_law_467 rfl h2 ?_
  refine q_virt (pc' := 471) (c := 146) (as := [.int (G.1.2 (i + 1).toNatClampNeg), .int (G.1.2 (i + 2).toNatClampNeg)]) (r := []) ja_law_468 rfl rfl rfl (by decide) ⟨rfl, by decide⟩ ?_
  refine q_mono (fun v s'' h'' => ?_) (q_typ_int (k := 162) rfl rfl h')
  obtain ⟨⟨-, hI'⟩, y, rfl⟩ := h''
  show q_W G 91 jm_law B 471 (ws_ls i) [.int y] s''
  refine q_pop (pc' := 472) ja_law_471 rfl rfl ?_
  exact q_goto ja_law_472 (kk s'' hI')
theorem wt_op9 {G : jv_X} {B : Option Value → jg_H → Prop} {s : jg_H} {i : Int32} {R : jg_H → Prop} (hop : ∀ (a : Int32) (b : Int32), wt_H G R False 58 164 [.int a, .int b]) (hR : R s) (h1 : jv_in (i + 1) G.1.1 = true) (h2 : jv_in (i + 2) G.1.1 = true) (h3 : jv_in (i + 3) G.1.1 = true) (h4 : jv_in (i + 4) G.1.1 = true) (h5 : jv_in (i + 5) G.1.1 = true) (h6 : jv_in (i + 6) G.1.1 = true) (kk : ∀ s', R s' → q_W G 91 jm_law B 1358 (ws_ls i) [] s') : q_W G 91 jm_law B 475 (ws_ls i) [] s := by
  refine q_aload_n (pc' := 476) (x := 0) ja_law_475 rfl rfl ?_
  refine q_aload_n (pc' := 477) (x := 1000000) ja_law_476 rfl rfl ?_
  refine q_iload_n (pc' := 478) (x := i) ja_law_477 rfl rfl ?_
  refine q_iconst (pc' := 479) ja_law_478 rfl 1 (by decide) ?_
  refine q_iadd (pc' := 480) (x := i) (y := 1) ja_law_479 rfl ?_
  refine q_sald (pc' := 481) ja_law_480 rfl h1 ?_
  refine q_aload_n (pc' := 482) (x := 1000000) ja_law_481 rfl rfl ?_
  refine q_iload_n (pc' := 483) (x := i) ja_law_482 rfl rfl ?_
  refine q_iconst (pc' := 484) ja_law_483 rfl 2 (by decide) ?_
  refine q_iadd (pc' := 485) (x := i) (y := 2) ja_law_484 rfl ?_
  refine q_sald (pc' := 486) ja_law_485 rfl h2 ?_
  refine q_virt (pc' := 489) (c := 0) (as := [.int (G.1.2 (i + 1).toNatClampNeg), .int (G.1.2 (i + 2).toNatClampNeg)]) (r := []) ja_law_486 rfl rfl rfl (by decide) ⟨rfl, by decide⟩ ?_
  refine q_mono (fun v s' h' => ?_) (q_typ_int (k := 58) rfl rfl (hop _ _ s hR))
  obtain ⟨h', x, rfl⟩ := h'
  show q_W G 91 jm_law B 489 (ws_ls i) [.int x] s'
  refine q_pop (pc' := 490) ja_law_489 rfl rfl ?_
  refine q_aload_n (pc' := 491) (x := 146) ja_law_490 rfl rfl ?_
  refine q_aload_n (pc' := 492) (x := 1000000) ja_law_491 rfl rfl ?_
  refine q_iload_n (pc' := 493) (x := i) ja_law_492 rfl rfl ?_
  refine q_iconst (pc' := 494) ja_law_493 rfl 1 (by decide) ?_
  refine q_iadd (pc' := 495) (x := i) (y := 1) ja_law_494 rfl ?_
  refine q_sald (pc' := 496) ja_law_495 rfl h1 ?_
  refine q_aload_n (pc' := 497) (x := 1000000) ja_law_496 rfl rfl ?_
  refine q_iload_n (pc' := 498) (x := i) ja_law_497 rfl rfl ?_
  refine q_iconst (pc' := 499) ja_law_498 rfl 2 (by decide) ?_
  refine q_iadd (pc' := 500) (x := i) (y := 2) ja_law_499 rfl ?_
  refine q_sald (pc' := 501) ja_law_500 rfl h2 ?_
  refine q_virt (pc' := 504) (c := 146) (as := [.int (G.1.2 (i + 1).toNatClampNeg), .int (G.1.2 (i + 2).toNatClampNeg)]) (r := []) ja_law_501 rfl rfl rfl (by decide) ⟨rfl, by decide⟩ ?_
  refine q_mono (fun v s'' h'' => ?_) (q_typ_int (k := 164) rfl rfl h')
  obtain ⟨⟨-, hI'⟩, y, rfl⟩ := h''
  show q_W G 91 jm_law B 504 (ws_ls i) [.int y] s''
  refine q_pop (pc' := 505) ja_law_504 rfl rfl ?_
  exact q_goto ja_law_505 (kk s'' hI')
theorem wt_op10 {G : jv_X} {B : Option Value → jg_H → Prop} {s : jg_H} {i : Int32} {R : jg_H → Prop} (hop : ∀ (a : Int32) (b : Int32), wt_H G R False 61 167 [.int a, .int b]) (hR : R s) (h1 : jv_in (i + 1) G.1.1 = true) (h2 : jv_in (i + 2) G.1.1 = true) (h3 : jv_in (i + 3) G.1.1 = true) (h4 : jv_in (i + 4) G.1.1 = true) (h5 : jv_in (i + 5) G.1.1 = true) (h6 : jv_in (i + 6) G.1.1 = true) (kk : ∀ s', R s' → q_W G 91 jm_law B 1358 (ws_ls i) [] s') : q_W G 91 jm_law B 508 (ws_ls i) [] s := by
  refine q_aload_n (pc' := 509) (x := 0) ja_law_508 rfl rfl ?_
  refine q_aload_n (pc' := 510) (x := 1000000) ja_law_509 rfl rfl ?_
  refine q_iload_n (pc' := 511) (x := i) ja_law_510 rfl rfl ?_
  refine q_iconst (pc' := 512) ja_law_511 rfl 1 (by decide) ?_
  refine q_iadd (pc' := 513) (x := i) (y := 1) ja_law_512 rfl ?_
  refine q_sald (pc' := 514) ja_law_513 rfl h1 ?_
  refine q_aload_n (pc' := 515) (x := 1000000) ja_law_514 rfl rfl ?_
  refine q_iload_n (pc' := 516) (x := i) ja_law_515 rfl rfl ?_
  refine q_iconst (pc' := 517) ja_law_516 rfl 2 (by decide) ?_
  refine q_iadd (pc' := 518) (x := i) (y := 2) ja_law_517 rfl ?_
  refine q_sald (pc' := 519) ja_law_518 rfl h2 ?_
  refine q_virt (pc' := 522) (c := 0) (as := [.int (G.1.2 (i + 1).toNatClampNeg), .int (G.1.2 (i + 2).toNatClampNeg)]) (r := []) ja_law_519 rfl rfl rfl (by decide) ⟨rfl, by decide⟩ ?_
  refine q_mono (fun v s' h' => ?_) (q_typ_int (k := 61) rfl rfl (hop _ _ s hR))
  obtain ⟨h', x, rfl⟩ := h'
  show q_W G 91 jm_law B 522 (ws_ls i) [.int x] s'
  refine q_pop (pc' := 523) ja_law_522 rfl rfl ?_
  refine q_aload_n (pc' := 524) (x := 146) ja_law_523 rfl rfl ?_
  refine q_aload_n (pc' := 525) (x := 1000000) ja_law_524 rfl rfl ?_
  refine q_iload_n (pc' := 526) (x := i) ja_law_525 rfl rfl ?_
  refine q_iconst (pc' := 527) ja_law_526 rfl 1 (by decide) ?_
  refine q_iadd (pc' := 528) (x := i) (y := 1) ja_law_527 rfl ?_
  refine q_sald (pc' := 529) ja_law_528 rfl h1 ?_
  refine q_aload_n (pc' := 530) (x := 1000000) ja_law_529 rfl rfl ?_
  refine q_iload_n (pc' := 531) (x := i) ja_law_530 rfl rfl ?_
  refine q_iconst (pc' := 532) ja_law_531 rfl 2 (by decide) ?_
  refine q_iadd (pc' := 533) (x := i) (y := 2) ja_law_532 rfl ?_
  refine q_sald (pc' := 534) ja_law_533 rfl h2 ?_
  refine q_virt (pc' := 537) (c := 146) (as := [.int (G.1.2 (i + 1).toNatClampNeg), .int (G.1.2 (i + 2).toNatClampNeg)]) (r := []) ja_law_534 rfl rfl rfl (by decide) ⟨rfl, by decide⟩ ?_
  refine q_mono (fun v s'' h'' => ?_) (q_typ_int (k := 167) rfl rfl h')
  obtain ⟨⟨-, hI'⟩, y, rfl⟩ := h''
  show q_W G 91 jm_law B 537 (ws_ls i) [.int y] s''
  refine q_pop (pc' := 538) ja_law_537 rfl rfl ?_
  exact q_goto ja_law_538 (kk s'' hI')
theorem wt_op11 {G : jv_X} {B : Option Value → jg_H → Prop} {s : jg_H} {i : Int32} {R : jg_H → Prop} (hop : ∀ (a : Int32) (b : Int32), wt_H G R False 63 168 [.int a, .int b]) (hR : R s) (h1 : jv_in (i + 1) G.1.1 = true) (h2 : jv_in (i + 2) G.1.1 = true) (h3 : jv_in (i + 3) G.1.1 = true) (h4 : jv_in (i + 4) G.1.1 = true) (h5 : jv_in (i + 5) G.1.1 = true) (h6 : jv_in (i + 6) G.1.1 = true) (kk : ∀ s', R s' → q_W G 91 jm_law B 1358 (ws_ls i) [] s') : q_W G 91 jm_law B 541 (ws_ls i) [] s := by
  refine q_aload_n (pc' := 542) (x := 0) ja_law_541 rfl rfl ?_
  refine q_aload_n (pc' := 543) (x := 1000000) ja_law_542 rfl rfl ?_
  refine q_iload_n (pc' := 544) (x := i) ja_law_543 rfl rfl ?_
  refine q_iconst (pc' := 545) ja_law_544 rfl 1 (by decide) ?_
  refine q_iadd (pc' := 546) (x := i) (y := 1) ja_law_545 rfl ?_
  refine q_sald (pc' := 547) ja_law_546 rfl h1 ?_
  refine q_aload_n (pc' := 548) (x := 1000000) ja_law_547 rfl rfl ?_
  refine q_iload_n (pc' := 549) (x := i) ja_law_548 rfl rfl ?_
  refine q_iconst (pc' := 550) ja_law_549 rfl 2 (by decide) ?_
  refine q_iadd (pc' := 551) (x := i) (y := 2) ja_law_550 rfl ?_
  refine q_sald (pc' := 552) ja_law_551 rfl h2 ?_
  refine q_virt (pc' := 555) (c := 0) (as := [.int (G.1.2 (i + 1).toNatClampNeg), .int (G.1.2 (i + 2).toNatClampNeg)]) (r := []) ja_law_552 rfl rfl rfl (by decide) ⟨rfl, by decide⟩ ?_
  refine q_mono (fun v s' h' => ?_) (q_typ_long (k := 63) rfl rfl (hop _ _ s hR))
  obtain ⟨h', x, rfl⟩ := h'
  show q_W G 91 jm_law B 555 (ws_ls i) [.long x] s'
  refine q_pop2 (pc' := 556) ja_law_555 rfl ?_
  refine q_aload_n (pc' := 557) (x := 146) ja_law_556 rfl rfl ?_
  refine q_aload_n (pc' := 558) (x := 1000000) ja_law_557 rfl rfl ?_
  refine q_iload_n (pc' := 559) (x := i) ja_law_558 rfl rfl ?_
  refine q_iconst (pc' := 560) ja_law_559 rfl 1 (by decide) ?_
  refine q_iadd (pc' := 561) (x := i) (y := 1) ja_law_560 rfl ?_
  refine q_sald (pc' := 562) ja_law_561 rfl h1 ?_
  refine q_aload_n (pc' := 563) (x := 1000000) ja_law_562 rfl rfl ?_
  refine q_iload_n (pc' := 564) (x := i) ja_law_563 rfl rfl ?_
  refine q_iconst (pc' := 565) ja_law_564 rfl 2 (by decide) ?_
  refine q_iadd (pc' := 566) (x := i) (y := 2) ja_law_565 rfl ?_
  refine q_sald (pc' := 567) ja_law_566 rfl h2 ?_
  refine q_virt (pc' := 570) (c := 146) (as := [.int (G.1.2 (i + 1).toNatClampNeg), .int (G.1.2 (i + 2).toNatClampNeg)]) (r := []) ja_law_567 rfl rfl rfl (by decide) ⟨rfl, by decide⟩ ?_
  refine q_mono (fun v s'' h'' => ?_) (q_typ_long (k := 168) rfl rfl h')
  obtain ⟨⟨-, hI'⟩, y, rfl⟩ := h''
  show q_W G 91 jm_law B 570 (ws_ls i) [.long y] s''
  refine q_pop2 (pc' := 571) ja_law_570 rfl ?_
  exact q_goto ja_law_571 (kk s'' hI')
theorem wt_op12 {G : jv_X} {B : Option Value → jg_H → Prop} {s : jg_H} {i : Int32} {R : jg_H → Prop} (hop : ∀ (a : Int32), wt_H G R False 65 171 [.int a]) (hR : R s) (h1 : jv_in (i + 1) G.1.1 = true) (h2 : jv_in (i + 2) G.1.1 = true) (h3 : jv_in (i + 3) G.1.1 = true) (h4 : jv_in (i + 4) G.1.1 = true) (h5 : jv_in (i + 5) G.1.1 = true) (h6 : jv_in (i + 6) G.1.1 = true) (kk : ∀ s', R s' → q_W G 91 jm_law B 1358 (ws_ls i) [] s') : q_W G 91 jm_law B 574 (ws_ls i) [] s := by
  refine q_aload_n (pc' := 575) (x := 0) ja_law_574 rfl rfl ?_
  refine q_aload_n (pc' := 576) (x := 1000000) ja_law_575 rfl rfl ?_
  refine q_iload_n (pc' := 577) (x := i) ja_law_576 rfl rfl ?_
  refine q_iconst (pc' := 578) ja_law_577 rfl 1 (by decide) ?_
  refine q_iadd (pc' := 579) (x := i) (y := 1) ja_law_578 rfl ?_
  refine q_sald (pc' := 580) ja_law_579 rfl h1 ?_
  refine q_virt (pc' := 583) (c := 0) (as := [.int (G.1.2 (i + 1).toNatClampNeg)]) (r := []) ja_law_580 rfl rfl rfl (by decide) ⟨rfl, by decide⟩ ?_
  refine q_mono (fun v s' h' => ?_) (q_typ_int (k := 65) rfl rfl (hop _ s hR))
  obtain ⟨h', x, rfl⟩ := h'
  show q_W G 91 jm_law B 583 (ws_ls i) [.int x] s'
  refine q_pop (pc' := 584) ja_law_583 rfl rfl ?_
  refine q_aload_n (pc' := 585) (x := 146) ja_law_584 rfl rfl ?_
  refine q_aload_n (pc' := 586) (x := 1000000) ja_law_585 rfl rfl ?_
  refine q_iload_n (pc' := 587) (x := i) ja_law_586 rfl rfl ?_
  refine q_iconst (pc' := 588) ja_law_587 rfl 1 (by decide) ?_
  refine q_iadd (pc' := 589) (x := i) (y := 1) ja_law_588 rfl ?_
  refine q_sald (pc' := 590) ja_law_589 rfl h1 ?_
  refine q_virt (pc' := 593) (c := 146) (as := [.int (G.1.2 (i + 1).toNatClampNeg)]) (r := []) ja_law_590 rfl rfl rfl (by decide) ⟨rfl, by decide⟩ ?_
  refine q_mono (fun v s'' h'' => ?_) (q_typ_int (k := 171) rfl rfl h')
  obtain ⟨⟨-, hI'⟩, y, rfl⟩ := h''
  show q_W G 91 jm_law B 593 (ws_ls i) [.int y] s''
  refine q_pop (pc' := 594) ja_law_593 rfl rfl ?_
  exact q_goto ja_law_594 (kk s'' hI')
theorem wt_op13 {G : jv_X} {B : Option Value → jg_H → Prop} {s : jg_H} {i : Int32} {R : jg_H → Prop} (hop : ∀ (a : Int32) (b : Int32), wt_H G R False 67 173 [.int a, .int b]) (hR : R s) (h1 : jv_in (i + 1) G.1.1 = true) (h2 : jv_in (i + 2) G.1.1 = true) (h3 : jv_in (i + 3) G.1.1 = true) (h4 : jv_in (i + 4) G.1.1 = true) (h5 : jv_in (i + 5) G.1.1 = true) (h6 : jv_in (i + 6) G.1.1 = true) (kk : ∀ s', R s' → q_W G 91 jm_law B 1358 (ws_ls i) [] s') : q_W G 91 jm_law B 597 (ws_ls i) [] s := by
  refine q_aload_n (pc' := 598) (x := 0) ja_law_597 rfl rfl ?_
  refine q_aload_n (pc' := 599) (x := 1000000) ja_law_598 rfl rfl ?_
  refine q_iload_n (pc' := 600) (x := i) ja_law_599 rfl rfl ?_
  refine q_iconst (pc' := 601) ja_law_600 rfl 1 (by decide) ?_
  refine q_iadd (pc' := 602) (x := i) (y := 1) ja_law_601 rfl ?_
  refine q_sald (pc' := 603) ja_law_602 rfl h1 ?_
  refine q_aload_n (pc' := 604) (x := 1000000) ja_law_603 rfl rfl ?_
  refine q_iload_n (pc' := 605) (x := i) ja_law_604 rfl rfl ?_
  refine q_iconst (pc' := 606) ja_law_605 rfl 2 (by decide) ?_
  refine q_iadd (pc' := 607) (x := i) (y := 2) ja_law_606 rfl ?_
  refine q_sald (pc' := 608) ja_law_607 rfl h2 ?_
  refine q_virt (pc' := 611) (c := 0) (as := [.int (G.1.2 (i + 1).toNatClampNeg), .int (G.1.2 (i + 2).toNatClampNeg)]) (r := []) ja_law_608 rfl rfl rfl (by decide) ⟨rfl, by decide⟩ ?_
  refine q_mono (fun v s' h' => ?_) (q_typ_int (k := 67) rfl rfl (hop _ _ s hR))
  obtain ⟨h', x, rfl⟩ := h'
  show q_W G 91 jm_law B 611 (ws_ls i) [.int x] s'
  refine q_pop (pc' := 612) ja_law_611 rfl rfl ?_
  refine q_aload_n (pc' := 613) (x := 146) ja_law_612 rfl rfl ?_
  refine q_aload_n (pc' := 614) (x := 1000000) ja_law_613 rfl rfl ?_
  refine q_iload_n (pc' := 615) (x := i) ja_law_614 rfl rfl ?_
  refine q_iconst (pc' := 616) ja_law_615 rfl 1 (by decide) ?_
  refine q_iadd (pc' := 617) (x := i) (y := 1) ja_law_616 rfl ?_
  refine q_sald (pc' := 618) ja_law_617 rfl h1 ?_
  refine q_aload_n (pc' := 619) (x := 1000000) ja_law_618 rfl rfl ?_
  refine q_iload_n (pc' := 620) (x := i) ja_law_619 rfl rfl ?_
  refine q_iconst (pc' := 621) ja_law_620 rfl 2 (by decide) ?_
  refine q_iadd (pc' := 622) (x := i) (y := 2) ja_law_621 rfl ?_
  refine q_sald (pc' := 623) ja_law_622 rfl h2 ?_
  refine q_virt (pc' := 626) (c := 146) (as := [.int (G.1.2 (i + 1).toNatClampNeg), .int (G.1.2 (i + 2).toNatClampNeg)]) (r := []) ja_law_623 rfl rfl rfl (by decide) ⟨rfl, by decide⟩ ?_
  refine q_mono (fun v s'' h'' => ?_) (q_typ_int (k := 173) rfl rfl h')
  obtain ⟨⟨-, hI'⟩, y, rfl⟩ := h''
  show q_W G 91 jm_law B 626 (ws_ls i) [.int y] s''
  refine q_pop (pc' := 627) ja_law_626 rfl rfl ?_
  exact q_goto ja_law_627 (kk s'' hI')
theorem wt_op14 {G : jv_X} {B : Option Value → jg_H → Prop} {s : jg_H} {i : Int32} {R : jg_H → Prop} (hop : wt_H G R False 68 174 []) (hR : R s) (h1 : jv_in (i + 1) G.1.1 = true) (h2 : jv_in (i + 2) G.1.1 = true) (h3 : jv_in (i + 3) G.1.1 = true) (h4 : jv_in (i + 4) G.1.1 = true) (h5 : jv_in (i + 5) G.1.1 = true) (h6 : jv_in (i + 6) G.1.1 = true) (kk : ∀ s', R s' → q_W G 91 jm_law B 1358 (ws_ls i) [] s') : q_W G 91 jm_law B 630 (ws_ls i) [] s := by
  refine q_aload_n (pc' := 631) (x := 0) ja_law_630 rfl rfl ?_
  refine q_virt (pc' := 634) (c := 0) (as := []) (r := []) ja_law_631 rfl rfl rfl (by decide) ⟨rfl, by decide⟩ ?_
  refine q_mono (fun v s' h' => ?_) (q_typ_int (k := 68) rfl rfl (hop s hR))
  obtain ⟨h', x, rfl⟩ := h'
  show q_W G 91 jm_law B 634 (ws_ls i) [.int x] s'
  refine q_pop (pc' := 635) ja_law_634 rfl rfl ?_
  refine q_aload_n (pc' := 636) (x := 146) ja_law_635 rfl rfl ?_
  refine q_virt (pc' := 639) (c := 146) (as := []) (r := []) ja_law_636 rfl rfl rfl (by decide) ⟨rfl, by decide⟩ ?_
  refine q_mono (fun v s'' h'' => ?_) (q_typ_int (k := 174) rfl rfl h')
  obtain ⟨⟨-, hI'⟩, y, rfl⟩ := h''
  show q_W G 91 jm_law B 639 (ws_ls i) [.int y] s''
  refine q_pop (pc' := 640) ja_law_639 rfl rfl ?_
  exact q_goto ja_law_640 (kk s'' hI')
theorem wt_op15 {G : jv_X} {B : Option Value → jg_H → Prop} {s : jg_H} {i : Int32} {R : jg_H → Prop} (hop : ∀ (a : Int32) (b : Int64), wt_H G R False 69 175 [.int a, .long b]) (hR : R s) (h1 : jv_in (i + 1) G.1.1 = true) (h2 : jv_in (i + 2) G.1.1 = true) (h3 : jv_in (i + 3) G.1.1 = true) (h4 : jv_in (i + 4) G.1.1 = true) (h5 : jv_in (i + 5) G.1.1 = true) (h6 : jv_in (i + 6) G.1.1 = true) (kk : ∀ s', R s' → q_W G 91 jm_law B 1358 (ws_ls i) [] s') : q_W G 91 jm_law B 643 (ws_ls i) [] s := by
  refine q_aload_n (pc' := 644) (x := 0) ja_law_643 rfl rfl ?_
  refine q_aload_n (pc' := 645) (x := 1000000) ja_law_644 rfl rfl ?_
  refine q_iload_n (pc' := 646) (x := i) ja_law_645 rfl rfl ?_
  refine q_iconst (pc' := 647) ja_law_646 rfl 1 (by decide) ?_
  refine q_iadd (pc' := 648) (x := i) (y := 1) ja_law_647 rfl ?_
  refine q_sald (pc' := 649) ja_law_648 rfl h1 ?_
  refine q_aload_n (pc' := 650) (x := 1000000) ja_law_649 rfl rfl ?_
  refine q_iload_n (pc' := 651) (x := i) ja_law_650 rfl rfl ?_
  refine q_iconst (pc' := 652) ja_law_651 rfl 2 (by decide) ?_
  refine q_iadd (pc' := 653) (x := i) (y := 2) ja_law_652 rfl ?_
  refine q_sald (pc' := 654) ja_law_653 rfl h2 ?_
  refine q_i2l (pc' := 655) ja_law_654 rfl ?_
  refine q_bipush (pc' := 657) ja_law_655 rfl 32 (by decide) ?_
  refine q_lshl (pc' := 658) ja_law_657 rfl ?_
  refine q_aload_n (pc' := 659) (x := 1000000) ja_law_658 rfl rfl ?_
  refine q_iload_n (pc' := 660) (x := i) ja_law_659 rfl rfl ?_
  refine q_iconst (pc' := 661) ja_law_660 rfl 3 (by decide) ?_
  refine q_iadd (pc' := 662) (x := i) (y := 3) ja_law_661 rfl ?_
  refine q_sald (pc' := 663) ja_law_662 rfl h3 ?_
  refine q_i2l (pc' := 664) ja_law_663 rfl ?_
  refine q_ldc2 (pc' := 667) ja_law_664 rfl 4294967295 (by decide) ?_
  refine q_land (pc' := 668) ja_law_667 rfl ?_
  refine q_lor (pc' := 669) ja_law_668 rfl ?_
  refine q_virt (pc' := 672) (c := 0) (as := [.int (G.1.2 (i + 1).toNatClampNeg), .long ((((G.1.2 (i + 2).toNatClampNeg).toInt64 <<< ((32 : Int32).toInt64 &&& 63)) ||| ((G.1.2 (i + 3).toNatClampNeg).toInt64 &&& (4294967295 : Int64))))]) (r := []) ja_law_669 rfl rfl rfl (by decide) ⟨rfl, by decide⟩ ?_
  refine q_mono (fun v s' h' => ?_) (q_typ_int (k := 69) rfl rfl (hop _ _ s hR))
  obtain ⟨h', x, rfl⟩ := h'
  show q_W G 91 jm_law B 672 (ws_ls i) [.int x] s'
  refine q_pop (pc' := 673) ja_law_672 rfl rfl ?_
  refine q_aload_n (pc' := 674) (x := 146) ja_law_673 rfl rfl ?_
  refine q_aload_n (pc' := 675) (x := 1000000) ja_law_674 rfl rfl ?_
  refine q_iload_n (pc' := 676) (x := i) ja_law_675 rfl rfl ?_
  refine q_iconst (pc' := 677) ja_law_676 rfl 1 (by decide) ?_
  refine q_iadd (pc' := 678) (x := i) (y := 1) ja_law_677 rfl ?_
  refine q_sald (pc' := 679) ja_law_678 rfl h1 ?_
  refine q_aload_n (pc' := 680) (x := 1000000) ja_law_679 rfl rfl ?_
  refine q_iload_n (pc' := 681) (x := i) ja_law_680 rfl rfl ?_
  refine q_iconst (pc' := 682) ja_law_681 rfl 2 (by decide) ?_
  refine q_iadd (pc' := 683) (x := i) (y := 2) ja_law_682 rfl ?_
  refine q_sald (pc' := 684) ja_law_683 rfl h2 ?_
  refine q_i2l (pc' := 685) ja_law_684 rfl ?_
  refine q_bipush (pc' := 687) ja_law_685 rfl 32 (by decide) ?_
  refine q_lshl (pc' := 688) ja_law_687 rfl ?_
  refine q_aload_n (pc' := 689) (x := 1000000) ja_law_688 rfl rfl ?_
  refine q_iload_n (pc' := 690) (x := i) ja_law_689 rfl rfl ?_
  refine q_iconst (pc' := 691) ja_law_690 rfl 3 (by decide) ?_
  refine q_iadd (pc' := 692) (x := i) (y := 3) ja_law_691 rfl ?_
  refine q_sald (pc' := 693) ja_law_692 rfl h3 ?_
  refine q_i2l (pc' := 694) ja_law_693 rfl ?_
  refine q_ldc2 (pc' := 697) ja_law_694 rfl 4294967295 (by decide) ?_
  refine q_land (pc' := 698) ja_law_697 rfl ?_
  refine q_lor (pc' := 699) ja_law_698 rfl ?_
  refine q_virt (pc' := 702) (c := 146) (as := [.int (G.1.2 (i + 1).toNatClampNeg), .long ((((G.1.2 (i + 2).toNatClampNeg).toInt64 <<< ((32 : Int32).toInt64 &&& 63)) ||| ((G.1.2 (i + 3).toNatClampNeg).toInt64 &&& (4294967295 : Int64))))]) (r := []) ja_law_699 rfl rfl rfl (by decide) ⟨rfl, by decide⟩ ?_
  refine q_mono (fun v s'' h'' => ?_) (q_typ_int (k := 175) rfl rfl h')
  obtain ⟨⟨-, hI'⟩, y, rfl⟩ := h''
  show q_W G 91 jm_law B 702 (ws_ls i) [.int y] s''
  refine q_pop (pc' := 703) ja_law_702 rfl rfl ?_
  exact q_goto ja_law_703 (kk s'' hI')
theorem wt_op16 {G : jv_X} {B : Option Value → jg_H → Prop} {s : jg_H} {i : Int32} {R : jg_H → Prop} (hop : wt_H G R False 70 176 []) (hR : R s) (h1 : jv_in (i + 1) G.1.1 = true) (h2 : jv_in (i + 2) G.1.1 = true) (h3 : jv_in (i + 3) G.1.1 = true) (h4 : jv_in (i + 4) G.1.1 = true) (h5 : jv_in (i + 5) G.1.1 = true) (h6 : jv_in (i + 6) G.1.1 = true) (kk : ∀ s', R s' → q_W G 91 jm_law B 1358 (ws_ls i) [] s') : q_W G 91 jm_law B 706 (ws_ls i) [] s := by
  refine q_aload_n (pc' := 707) (x := 0) ja_law_706 rfl rfl ?_
  refine q_virt (pc' := 710) (c := 0) (as := []) (r := []) ja_law_707 rfl rfl rfl (by decide) ⟨rfl, by decide⟩ ?_
  refine q_mono (fun v s' h' => ?_) (q_typ_int (k := 70) rfl rfl (hop s hR))
  obtain ⟨h', x, rfl⟩ := h'
  show q_W G 91 jm_law B 710 (ws_ls i) [.int x] s'
  refine q_pop (pc' := 711) ja_law_710 rfl rfl ?_
  refine q_aload_n (pc' := 712) (x := 146) ja_law_711 rfl rfl ?_
  refine q_virt (pc' := 715) (c := 146) (as := []) (r := []) ja_law_712 rfl rfl rfl (by decide) ⟨rfl, by decide⟩ ?_
  refine q_mono (fun v s'' h'' => ?_) (q_typ_int (k := 176) rfl rfl h')
  obtain ⟨⟨-, hI'⟩, y, rfl⟩ := h''
  show q_W G 91 jm_law B 715 (ws_ls i) [.int y] s''
  refine q_pop (pc' := 716) ja_law_715 rfl rfl ?_
  exact q_goto ja_law_716 (kk s'' hI')
theorem wt_op17 {G : jv_X} {B : Option Value → jg_H → Prop} {s : jg_H} {i : Int32} {R : jg_H → Prop} (hop : ∀ (a : Int32) (b : Int32) (c : Int32) (d : Int32) (e : Int32) (f : Int32), wt_H G R False 71 177 [.int a, .int b, .int c, .int d, .int e, .int f]) (hR : R s) (h1 : jv_in (i + 1) G.1.1 = true) (h2 : jv_in (i + 2) G.1.1 = true) (h3 : jv_in (i + 3) G.1.1 = true) (h4 : jv_in (i + 4) G.1.1 = true) (h5 : jv_in (i + 5) G.1.1 = true) (h6 : jv_in (i + 6) G.1.1 = true) (kk : ∀ s', R s' → q_W G 91 jm_law B 1358 (ws_ls i) [] s') : q_W G 91 jm_law B 719 (ws_ls i) [] s := by
  refine q_aload_n (pc' := 720) (x := 0) ja_law_719 rfl rfl ?_
  refine q_aload_n (pc' := 721) (x := 1000000) ja_law_720 rfl rfl ?_
  refine q_iload_n (pc' := 722) (x := i) ja_law_721 rfl rfl ?_
  refine q_iconst (pc' := 723) ja_law_722 rfl 1 (by decide) ?_
  refine q_iadd (pc' := 724) (x := i) (y := 1) ja_law_723 rfl ?_
  refine q_sald (pc' := 725) ja_law_724 rfl h1 ?_
  refine q_aload_n (pc' := 726) (x := 1000000) ja_law_725 rfl rfl ?_
  refine q_iload_n (pc' := 727) (x := i) ja_law_726 rfl rfl ?_
  refine q_iconst (pc' := 728) ja_law_727 rfl 2 (by decide) ?_
  refine q_iadd (pc' := 729) (x := i) (y := 2) ja_law_728 rfl ?_
  refine q_sald (pc' := 730) ja_law_729 rfl h2 ?_
  refine q_aload_n (pc' := 731) (x := 1000000) ja_law_730 rfl rfl ?_
  refine q_iload_n (pc' := 732) (x := i) ja_law_731 rfl rfl ?_
  refine q_iconst (pc' := 733) ja_law_732 rfl 3 (by decide) ?_
  refine q_iadd (pc' := 734) (x := i) (y := 3) ja_law_733 rfl ?_
  refine q_sald (pc' := 735) ja_law_734 rfl h3 ?_
  refine q_aload_n (pc' := 736) (x := 1000000) ja_law_735 rfl rfl ?_
  refine q_iload_n (pc' := 737) (x := i) ja_law_736 rfl rfl ?_
  refine q_iconst (pc' := 738) ja_law_737 rfl 4 (by decide) ?_
  refine q_iadd (pc' := 739) (x := i) (y := 4) ja_law_738 rfl ?_
  refine q_sald (pc' := 740) ja_law_739 rfl h4 ?_
  refine q_aload_n (pc' := 741) (x := 1000000) ja_law_740 rfl rfl ?_
  refine q_iload_n (pc' := 742) (x := i) ja_law_741 rfl rfl ?_
  refine q_iconst (pc' := 743) ja_law_742 rfl 5 (by decide) ?_
  refine q_iadd (pc' := 744) (x := i) (y := 5) ja_law_743 rfl ?_
  refine q_sald (pc' := 745) ja_law_744 rfl h5 ?_
  refine q_aload_n (pc' := 746) (x := 1000000) ja_law_745 rfl rfl ?_
  refine q_iload_n (pc' := 747) (x := i) ja_law_746 rfl rfl ?_
  refine q_bipush (pc' := 749) ja_law_747 rfl 6 (by decide) ?_
  refine q_iadd (pc' := 750) (x := i) (y := 6) ja_law_749 rfl ?_
  refine q_sald (pc' := 751) ja_law_750 rfl h6 ?_
  refine q_virt (pc' := 754) (c := 0) (as := [.int (G.1.2 (i + 1).toNatClampNeg), .int (G.1.2 (i + 2).toNatClampNeg), .int (G.1.2 (i + 3).toNatClampNeg), .int (G.1.2 (i + 4).toNatClampNeg), .int (G.1.2 (i + 5).toNatClampNeg), .int (G.1.2 (i + 6).toNatClampNeg)]) (r := []) ja_law_751 rfl rfl rfl (by decide) ⟨rfl, by decide⟩ ?_
  refine q_mono (fun v s' h' => ?_) (q_typ_long (k := 71) rfl rfl (hop _ _ _ _ _ _ s hR))
  obtain ⟨h', x, rfl⟩ := h'
  show q_W G 91 jm_law B 754 (ws_ls i) [.long x] s'
  refine q_pop2 (pc' := 755) ja_law_754 rfl ?_
  refine q_aload_n (pc' := 756) (x := 146) ja_law_755 rfl rfl ?_
  refine q_aload_n (pc' := 757) (x := 1000000) ja_law_756 rfl rfl ?_
  refine q_iload_n (pc' := 758) (x := i) ja_law_757 rfl rfl ?_
  refine q_iconst (pc' := 759) ja_law_758 rfl 1 (by decide) ?_
  refine q_iadd (pc' := 760) (x := i) (y := 1) ja_law_759 rfl ?_
  refine q_sald (pc' := 761) ja_law_760 rfl h1 ?_
  refine q_aload_n (pc' := 762) (x := 1000000) ja_law_761 rfl rfl ?_
  refine q_iload_n (pc' := 763) (x := i) ja_law_762 rfl rfl ?_
  refine q_iconst (pc' := 764) ja_law_763 rfl 2 (by decide) ?_
  refine q_iadd (pc' := 765) (x := i) (y := 2) ja_law_764 rfl ?_
  refine q_sald (pc' := 766) ja_law_765 rfl h2 ?_
  refine q_aload_n (pc' := 767) (x := 1000000) ja_law_766 rfl rfl ?_
  refine q_iload_n (pc' := 768) (x := i) ja_law_767 rfl rfl ?_
  refine q_iconst (pc' := 769) ja_law_768 rfl 3 (by decide) ?_
  refine q_iadd (pc' := 770) (x := i) (y := 3) ja_law_769 rfl ?_
  refine q_sald (pc' := 771) ja_law_770 rfl h3 ?_
  refine q_aload_n (pc' := 772) (x := 1000000) ja_law_771 rfl rfl ?_
  refine q_iload_n (pc' := 773) (x := i) ja_law_772 rfl rfl ?_
  refine q_iconst (pc' := 774) ja_law_773 rfl 4 (by decide) ?_
  refine q_iadd (pc' := 775) (x := i) (y := 4) ja_law_774 rfl ?_
  refine q_sald (pc' := 776) ja_law_775 rfl h4 ?_
  refine q_aload_n (pc' := 777) (x := 1000000) ja_law_776 rfl rfl ?_
  refine q_iload_n (pc' := 778) (x := i) ja_law_777 rfl rfl ?_
  refine q_iconst (pc' := 779) ja_law_778 rfl 5 (by decide) ?_
  refine q_iadd (pc' := 780) (x := i) (y := 5) ja_law_779 rfl ?_
  refine q_sald (pc' := 781) ja_law_780 rfl h5 ?_
  refine q_aload_n (pc' := 782) (x := 1000000) ja_law_781 rfl rfl ?_
  refine q_iload_n (pc' := 783) (x := i) ja_law_782 rfl rfl ?_
  refine q_bipush (pc' := 785) ja_law_783 rfl 6 (by decide) ?_
  refine q_iadd (pc' := 786) (x := i) (y := 6) ja_law_785 rfl ?_
  refine q_sald (pc' := 787) ja_law_786 rfl h6 ?_
  refine q_virt (pc' := 790) (c := 146) (as := [.int (G.1.2 (i + 1).toNatClampNeg), .int (G.1.2 (i + 2).toNatClampNeg), .int (G.1.2 (i + 3).toNatClampNeg), .int (G.1.2 (i + 4).toNatClampNeg), .int (G.1.2 (i + 5).toNatClampNeg), .int (G.1.2 (i + 6).toNatClampNeg)]) (r := []) ja_law_787 rfl rfl rfl (by decide) ⟨rfl, by decide⟩ ?_
  refine q_mono (fun v s'' h'' => ?_) (q_typ_long (k := 177) rfl rfl h')
  obtain ⟨⟨-, hI'⟩, y, rfl⟩ := h''
  show q_W G 91 jm_law B 790 (ws_ls i) [.long y] s''
  refine q_pop2 (pc' := 791) ja_law_790 rfl ?_
  exact q_goto ja_law_791 (kk s'' hI')
theorem wt_op18 {G : jv_X} {B : Option Value → jg_H → Prop} {s : jg_H} {i : Int32} {R : jg_H → Prop} (hop : ∀ (a : Int32) (b : Int32) (c : Int32) (d : Int32), wt_H G R False 80 186 [.int a, .int b, .int c, .int d]) (hR : R s) (h1 : jv_in (i + 1) G.1.1 = true) (h2 : jv_in (i + 2) G.1.1 = true) (h3 : jv_in (i + 3) G.1.1 = true) (h4 : jv_in (i + 4) G.1.1 = true) (h5 : jv_in (i + 5) G.1.1 = true) (h6 : jv_in (i + 6) G.1.1 = true) (kk : ∀ s', R s' → q_W G 91 jm_law B 1358 (ws_ls i) [] s') : q_W G 91 jm_law B 794 (ws_ls i) [] s := by
  refine q_aload_n (pc' := 795) (x := 0) ja_law_794 rfl rfl ?_
  refine q_aload_n (pc' := 796) (x := 1000000) ja_law_795 rfl rfl ?_
  refine q_iload_n (pc' := 797) (x := i) ja_law_796 rfl rfl ?_
  refine q_iconst (pc' := 798) ja_law_797 rfl 1 (by decide) ?_
  refine q_iadd (pc' := 799) (x := i) (y := 1) ja_law_798 rfl ?_
  refine q_sald (pc' := 800) ja_law_799 rfl h1 ?_
  refine q_aload_n (pc' := 801) (x := 1000000) ja_law_800 rfl rfl ?_
  refine q_iload_n (pc' := 802) (x := i) ja_law_801 rfl rfl ?_
  refine q_iconst (pc' := 803) ja_law_802 rfl 2 (by decide) ?_
  refine q_iadd (pc' := 804) (x := i) (y := 2) ja_law_803 rfl ?_
  refine q_sald (pc' := 805) ja_law_804 rfl h2 ?_
  refine q_aload_n (pc' := 806) (x := 1000000) ja_law_805 rfl rfl ?_
  refine q_iload_n (pc' := 807) (x := i) ja_law_806 rfl rfl ?_
  refine q_iconst (pc' := 808) ja_law_807 rfl 3 (by decide) ?_
  refine q_iadd (pc' := 809) (x := i) (y := 3) ja_law_808 rfl ?_
  refine q_sald (pc' := 810) ja_law_809 rfl h3 ?_
  refine q_aload_n (pc' := 811) (x := 1000000) ja_law_810 rfl rfl ?_
  refine q_iload_n (pc' := 812) (x := i) ja_law_811 rfl rfl ?_
  refine q_iconst (pc' := 813) ja_law_812 rfl 4 (by decide) ?_
  refine q_iadd (pc' := 814) (x := i) (y := 4) ja_law_813 rfl ?_
  refine q_sald (pc' := 815) ja_law_814 rfl h4 ?_
  refine q_virt (pc' := 818) (c := 0) (as := [.int (G.1.2 (i + 1).toNatClampNeg), .int (G.1.2 (i + 2).toNatClampNeg), .int (G.1.2 (i + 3).toNatClampNeg), .int (G.1.2 (i + 4).toNatClampNeg)]) (r := []) ja_law_815 rfl rfl rfl (by decide) ⟨rfl, by decide⟩ ?_
  refine q_mono (fun v s' h' => ?_) (q_typ_int (k := 80) rfl rfl (hop _ _ _ _ s hR))
  obtain ⟨h', x, rfl⟩ := h'
  show q_W G 91 jm_law B 818 (ws_ls i) [.int x] s'
  refine q_pop (pc' := 819) ja_law_818 rfl rfl ?_
  refine q_aload_n (pc' := 820) (x := 146) ja_law_819 rfl rfl ?_
  refine q_aload_n (pc' := 821) (x := 1000000) ja_law_820 rfl rfl ?_
  refine q_iload_n (pc' := 822) (x := i) ja_law_821 rfl rfl ?_
  refine q_iconst (pc' := 823) ja_law_822 rfl 1 (by decide) ?_
  refine q_iadd (pc' := 824) (x := i) (y := 1) ja_law_823 rfl ?_
  refine q_sald (pc' := 825) ja_law_824 rfl h1 ?_
  refine q_aload_n (pc' := 826) (x := 1000000) ja_law_825 rfl rfl ?_
  refine q_iload_n (pc' := 827) (x := i) ja_law_826 rfl rfl ?_
  refine q_iconst (pc' := 828) ja_law_827 rfl 2 (by decide) ?_
  refine q_iadd (pc' := 829) (x := i) (y := 2) ja_law_828 rfl ?_
  refine q_sald (pc' := 830) ja_law_829 rfl h2 ?_
  refine q_aload_n (pc' := 831) (x := 1000000) ja_law_830 rfl rfl ?_
  refine q_iload_n (pc' := 832) (x := i) ja_law_831 rfl rfl ?_
  refine q_iconst (pc' := 833) ja_law_832 rfl 3 (by decide) ?_
  refine q_iadd (pc' := 834) (x := i) (y := 3) ja_law_833 rfl ?_
  refine q_sald (pc' := 835) ja_law_834 rfl h3 ?_
  refine q_aload_n (pc' := 836) (x := 1000000) ja_law_835 rfl rfl ?_
  refine q_iload_n (pc' := 837) (x := i) ja_law_836 rfl rfl ?_
  refine q_iconst (pc' := 838) ja_law_837 rfl 4 (by decide) ?_
  refine q_iadd (pc' := 839) (x := i) (y := 4) ja_law_838 rfl ?_
  refine q_sald (pc' := 840) ja_law_839 rfl h4 ?_
  refine q_virt (pc' := 843) (c := 146) (as := [.int (G.1.2 (i + 1).toNatClampNeg), .int (G.1.2 (i + 2).toNatClampNeg), .int (G.1.2 (i + 3).toNatClampNeg), .int (G.1.2 (i + 4).toNatClampNeg)]) (r := []) ja_law_840 rfl rfl rfl (by decide) ⟨rfl, by decide⟩ ?_
  refine q_mono (fun v s'' h'' => ?_) (q_typ_int (k := 186) rfl rfl h')
  obtain ⟨⟨-, hI'⟩, y, rfl⟩ := h''
  show q_W G 91 jm_law B 843 (ws_ls i) [.int y] s''
  refine q_pop (pc' := 844) ja_law_843 rfl rfl ?_
  exact q_goto ja_law_844 (kk s'' hI')
theorem wt_op19 {G : jv_X} {B : Option Value → jg_H → Prop} {s : jg_H} {i : Int32} {R : jg_H → Prop} (hop : ∀ (a : Int32) (b : Int32) (c : Int32) (d : Int32), wt_H G R False 91 182 [.int a, .int b, .int c, .int d]) (hR : R s) (h1 : jv_in (i + 1) G.1.1 = true) (h2 : jv_in (i + 2) G.1.1 = true) (h3 : jv_in (i + 3) G.1.1 = true) (h4 : jv_in (i + 4) G.1.1 = true) (h5 : jv_in (i + 5) G.1.1 = true) (h6 : jv_in (i + 6) G.1.1 = true) (kk : ∀ s', R s' → q_W G 91 jm_law B 1358 (ws_ls i) [] s') : q_W G 91 jm_law B 847 (ws_ls i) [] s := by
  refine q_aload_n (pc' := 848) (x := 0) ja_law_847 rfl rfl ?_
  refine q_aload_n (pc' := 849) (x := 1000000) ja_law_848 rfl rfl ?_
  refine q_iload_n (pc' := 850) (x := i) ja_law_849 rfl rfl ?_
  refine q_iconst (pc' := 851) ja_law_850 rfl 1 (by decide) ?_
  refine q_iadd (pc' := 852) (x := i) (y := 1) ja_law_851 rfl ?_
  refine q_sald (pc' := 853) ja_law_852 rfl h1 ?_
  refine q_aload_n (pc' := 854) (x := 1000000) ja_law_853 rfl rfl ?_
  refine q_iload_n (pc' := 855) (x := i) ja_law_854 rfl rfl ?_
  refine q_iconst (pc' := 856) ja_law_855 rfl 2 (by decide) ?_
  refine q_iadd (pc' := 857) (x := i) (y := 2) ja_law_856 rfl ?_
  refine q_sald (pc' := 858) ja_law_857 rfl h2 ?_
  refine q_aload_n (pc' := 859) (x := 1000000) ja_law_858 rfl rfl ?_
  refine q_iload_n (pc' := 860) (x := i) ja_law_859 rfl rfl ?_
  refine q_iconst (pc' := 861) ja_law_860 rfl 3 (by decide) ?_
  refine q_iadd (pc' := 862) (x := i) (y := 3) ja_law_861 rfl ?_
  refine q_sald (pc' := 863) ja_law_862 rfl h3 ?_
  refine q_aload_n (pc' := 864) (x := 1000000) ja_law_863 rfl rfl ?_
  refine q_iload_n (pc' := 865) (x := i) ja_law_864 rfl rfl ?_
  refine q_iconst (pc' := 866) ja_law_865 rfl 4 (by decide) ?_
  refine q_iadd (pc' := 867) (x := i) (y := 4) ja_law_866 rfl ?_
  refine q_sald (pc' := 868) ja_law_867 rfl h4 ?_
  refine q_virt (pc' := 871) (c := 0) (as := [.int (G.1.2 (i + 1).toNatClampNeg), .int (G.1.2 (i + 2).toNatClampNeg), .int (G.1.2 (i + 3).toNatClampNeg), .int (G.1.2 (i + 4).toNatClampNeg)]) (r := []) ja_law_868 rfl rfl rfl (by decide) ⟨rfl, by decide⟩ ?_
  refine q_mono (fun v s' h' => ?_) (q_typ_int (k := 91) rfl rfl (hop _ _ _ _ s hR))
  obtain ⟨h', x, rfl⟩ := h'
  show q_W G 91 jm_law B 871 (ws_ls i) [.int x] s'
  refine q_pop (pc' := 872) ja_law_871 rfl rfl ?_
  refine q_aload_n (pc' := 873) (x := 146) ja_law_872 rfl rfl ?_
  refine q_aload_n (pc' := 874) (x := 1000000) ja_law_873 rfl rfl ?_
  refine q_iload_n (pc' := 875) (x := i) ja_law_874 rfl rfl ?_
  refine q_iconst (pc' := 876) ja_law_875 rfl 1 (by decide) ?_
  refine q_iadd (pc' := 877) (x := i) (y := 1) ja_law_876 rfl ?_
  refine q_sald (pc' := 878) ja_law_877 rfl h1 ?_
  refine q_aload_n (pc' := 879) (x := 1000000) ja_law_878 rfl rfl ?_
  refine q_iload_n (pc' := 880) (x := i) ja_law_879 rfl rfl ?_
  refine q_iconst (pc' := 881) ja_law_880 rfl 2 (by decide) ?_
  refine q_iadd (pc' := 882) (x := i) (y := 2) ja_law_881 rfl ?_
  refine q_sald (pc' := 883) ja_law_882 rfl h2 ?_
  refine q_aload_n (pc' := 884) (x := 1000000) ja_law_883 rfl rfl ?_
  refine q_iload_n (pc' := 885) (x := i) ja_law_884 rfl rfl ?_
  refine q_iconst (pc' := 886) ja_law_885 rfl 3 (by decide) ?_
  refine q_iadd (pc' := 887) (x := i) (y := 3) ja_law_886 rfl ?_
  refine q_sald (pc' := 888) ja_law_887 rfl h3 ?_
  refine q_aload_n (pc' := 889) (x := 1000000) ja_law_888 rfl rfl ?_
  refine q_iload_n (pc' := 890) (x := i) ja_law_889 rfl rfl ?_
  refine q_iconst (pc' := 891) ja_law_890 rfl 4 (by decide) ?_
  refine q_iadd (pc' := 892) (x := i) (y := 4) ja_law_891 rfl ?_
  refine q_sald (pc' := 893) ja_law_892 rfl h4 ?_
  refine q_virt (pc' := 896) (c := 146) (as := [.int (G.1.2 (i + 1).toNatClampNeg), .int (G.1.2 (i + 2).toNatClampNeg), .int (G.1.2 (i + 3).toNatClampNeg), .int (G.1.2 (i + 4).toNatClampNeg)]) (r := []) ja_law_893 rfl rfl rfl (by decide) ⟨rfl, by decide⟩ ?_
  refine q_mono (fun v s'' h'' => ?_) (q_typ_int (k := 182) rfl rfl h')
  obtain ⟨⟨-, hI'⟩, y, rfl⟩ := h''
  show q_W G 91 jm_law B 896 (ws_ls i) [.int y] s''
  refine q_pop (pc' := 897) ja_law_896 rfl rfl ?_
  exact q_goto ja_law_897 (kk s'' hI')
theorem wt_op20 {G : jv_X} {B : Option Value → jg_H → Prop} {s : jg_H} {i : Int32} {R : jg_H → Prop} (hop : wt_H G R False 92 189 []) (hR : R s) (h1 : jv_in (i + 1) G.1.1 = true) (h2 : jv_in (i + 2) G.1.1 = true) (h3 : jv_in (i + 3) G.1.1 = true) (h4 : jv_in (i + 4) G.1.1 = true) (h5 : jv_in (i + 5) G.1.1 = true) (h6 : jv_in (i + 6) G.1.1 = true) (kk : ∀ s', R s' → q_W G 91 jm_law B 1358 (ws_ls i) [] s') : q_W G 91 jm_law B 900 (ws_ls i) [] s := by
  refine q_aload_n (pc' := 901) (x := 0) ja_law_900 rfl rfl ?_
  refine q_virt (pc' := 904) (c := 0) (as := []) (r := []) ja_law_901 rfl rfl rfl (by decide) ⟨rfl, by decide⟩ ?_
  refine q_mono (fun v s' h' => ?_) (q_typ_int (k := 92) rfl rfl (hop s hR))
  obtain ⟨h', x, rfl⟩ := h'
  show q_W G 91 jm_law B 904 (ws_ls i) [.int x] s'
  refine q_pop (pc' := 905) ja_law_904 rfl rfl ?_
  refine q_aload_n (pc' := 906) (x := 146) ja_law_905 rfl rfl ?_
  refine q_virt (pc' := 909) (c := 146) (as := []) (r := []) ja_law_906 rfl rfl rfl (by decide) ⟨rfl, by decide⟩ ?_
  refine q_mono (fun v s'' h'' => ?_) (q_typ_int (k := 189) rfl rfl h')
  obtain ⟨⟨-, hI'⟩, y, rfl⟩ := h''
  show q_W G 91 jm_law B 909 (ws_ls i) [.int y] s''
  refine q_pop (pc' := 910) ja_law_909 rfl rfl ?_
  exact q_goto ja_law_910 (kk s'' hI')
theorem wt_op21 {G : jv_X} {B : Option Value → jg_H → Prop} {s : jg_H} {i : Int32} {R : jg_H → Prop} (hop : ∀ (a : Int32), wt_H G R False 101 200 [.int a]) (hR : R s) (h1 : jv_in (i + 1) G.1.1 = true) (h2 : jv_in (i + 2) G.1.1 = true) (h3 : jv_in (i + 3) G.1.1 = true) (h4 : jv_in (i + 4) G.1.1 = true) (h5 : jv_in (i + 5) G.1.1 = true) (h6 : jv_in (i + 6) G.1.1 = true) (kk : ∀ s', R s' → q_W G 91 jm_law B 1358 (ws_ls i) [] s') : q_W G 91 jm_law B 913 (ws_ls i) [] s := by
  refine q_aload_n (pc' := 914) (x := 0) ja_law_913 rfl rfl ?_
  refine q_aload_n (pc' := 915) (x := 1000000) ja_law_914 rfl rfl ?_
  refine q_iload_n (pc' := 916) (x := i) ja_law_915 rfl rfl ?_
  refine q_iconst (pc' := 917) ja_law_916 rfl 1 (by decide) ?_
  refine q_iadd (pc' := 918) (x := i) (y := 1) ja_law_917 rfl ?_
  refine q_sald (pc' := 919) ja_law_918 rfl h1 ?_
  refine q_virt (pc' := 922) (c := 0) (as := [.int (G.1.2 (i + 1).toNatClampNeg)]) (r := []) ja_law_919 rfl rfl rfl (by decide) ⟨rfl, by decide⟩ ?_
  refine q_mono (fun v s' h' => ?_) (q_typ_int (k := 101) rfl rfl (hop _ s hR))
  obtain ⟨h', x, rfl⟩ := h'
  show q_W G 91 jm_law B 922 (ws_ls i) [.int x] s'
  refine q_pop (pc' := 923) ja_law_922 rfl rfl ?_
  refine q_aload_n (pc' := 924) (x := 146) ja_law_923 rfl rfl ?_
  refine q_aload_n (pc' := 925) (x := 1000000) ja_law_924 rfl rfl ?_
  refine q_iload_n (pc' := 926) (x := i) ja_law_925 rfl rfl ?_
  refine q_iconst (pc' := 927) ja_law_926 rfl 1 (by decide) ?_
  refine q_iadd (pc' := 928) (x := i) (y := 1) ja_law_927 rfl ?_
  refine q_sald (pc' := 929) ja_law_928 rfl h1 ?_
  refine q_virt (pc' := 932) (c := 146) (as := [.int (G.1.2 (i + 1).toNatClampNeg)]) (r := []) ja_law_929 rfl rfl rfl (by decide) ⟨rfl, by decide⟩ ?_
  refine q_mono (fun v s'' h'' => ?_) (q_typ_int (k := 200) rfl rfl h')
  obtain ⟨⟨-, hI'⟩, y, rfl⟩ := h''
  show q_W G 91 jm_law B 932 (ws_ls i) [.int y] s''
  refine q_pop (pc' := 933) ja_law_932 rfl rfl ?_
  exact q_goto ja_law_933 (kk s'' hI')
theorem wt_op22 {G : jv_X} {B : Option Value → jg_H → Prop} {s : jg_H} {i : Int32} {R : jg_H → Prop} (hop : ∀ (a : Int32), wt_H G R False 102 201 [.int a]) (hR : R s) (h1 : jv_in (i + 1) G.1.1 = true) (h2 : jv_in (i + 2) G.1.1 = true) (h3 : jv_in (i + 3) G.1.1 = true) (h4 : jv_in (i + 4) G.1.1 = true) (h5 : jv_in (i + 5) G.1.1 = true) (h6 : jv_in (i + 6) G.1.1 = true) (kk : ∀ s', R s' → q_W G 91 jm_law B 1358 (ws_ls i) [] s') : q_W G 91 jm_law B 936 (ws_ls i) [] s := by
  refine q_aload_n (pc' := 937) (x := 0) ja_law_936 rfl rfl ?_
  refine q_aload_n (pc' := 938) (x := 1000000) ja_law_937 rfl rfl ?_
  refine q_iload_n (pc' := 939) (x := i) ja_law_938 rfl rfl ?_
  refine q_iconst (pc' := 940) ja_law_939 rfl 1 (by decide) ?_
  refine q_iadd (pc' := 941) (x := i) (y := 1) ja_law_940 rfl ?_
  refine q_sald (pc' := 942) ja_law_941 rfl h1 ?_
  refine q_virt (pc' := 945) (c := 0) (as := [.int (G.1.2 (i + 1).toNatClampNeg)]) (r := []) ja_law_942 rfl rfl rfl (by decide) ⟨rfl, by decide⟩ ?_
  refine q_mono (fun v s' h' => ?_) (q_typ_int (k := 102) rfl rfl (hop _ s hR))
  obtain ⟨h', x, rfl⟩ := h'
  show q_W G 91 jm_law B 945 (ws_ls i) [.int x] s'
  refine q_pop (pc' := 946) ja_law_945 rfl rfl ?_
  refine q_aload_n (pc' := 947) (x := 146) ja_law_946 rfl rfl ?_
  refine q_aload_n (pc' := 948) (x := 1000000) ja_law_947 rfl rfl ?_
  refine q_iload_n (pc' := 949) (x := i) ja_law_948 rfl rfl ?_
  refine q_iconst (pc' := 950) ja_law_949 rfl 1 (by decide) ?_
  refine q_iadd (pc' := 951) (x := i) (y := 1) ja_law_950 rfl ?_
  refine q_sald (pc' := 952) ja_law_951 rfl h1 ?_
  refine q_virt (pc' := 955) (c := 146) (as := [.int (G.1.2 (i + 1).toNatClampNeg)]) (r := []) ja_law_952 rfl rfl rfl (by decide) ⟨rfl, by decide⟩ ?_
  refine q_mono (fun v s'' h'' => ?_) (q_typ_int (k := 201) rfl rfl h')
  obtain ⟨⟨-, hI'⟩, y, rfl⟩ := h''
  show q_W G 91 jm_law B 955 (ws_ls i) [.int y] s''
  refine q_pop (pc' := 956) ja_law_955 rfl rfl ?_
  exact q_goto ja_law_956 (kk s'' hI')
theorem wt_op23 {G : jv_X} {B : Option Value → jg_H → Prop} {s : jg_H} {i : Int32} {R : jg_H → Prop} (hop : ∀ (a : Int32) (b : Int32), wt_H G R False 103 202 [.int a, .int b]) (hR : R s) (h1 : jv_in (i + 1) G.1.1 = true) (h2 : jv_in (i + 2) G.1.1 = true) (h3 : jv_in (i + 3) G.1.1 = true) (h4 : jv_in (i + 4) G.1.1 = true) (h5 : jv_in (i + 5) G.1.1 = true) (h6 : jv_in (i + 6) G.1.1 = true) (kk : ∀ s', R s' → q_W G 91 jm_law B 1358 (ws_ls i) [] s') : q_W G 91 jm_law B 959 (ws_ls i) [] s := by
  refine q_aload_n (pc' := 960) (x := 0) ja_law_959 rfl rfl ?_
  refine q_aload_n (pc' := 961) (x := 1000000) ja_law_960 rfl rfl ?_
  refine q_iload_n (pc' := 962) (x := i) ja_law_961 rfl rfl ?_
  refine q_iconst (pc' := 963) ja_law_962 rfl 1 (by decide) ?_
  refine q_iadd (pc' := 964) (x := i) (y := 1) ja_law_963 rfl ?_
  refine q_sald (pc' := 965) ja_law_964 rfl h1 ?_
  refine q_aload_n (pc' := 966) (x := 1000000) ja_law_965 rfl rfl ?_
  refine q_iload_n (pc' := 967) (x := i) ja_law_966 rfl rfl ?_
  refine q_iconst (pc' := 968) ja_law_967 rfl 2 (by decide) ?_
  refine q_iadd (pc' := 969) (x := i) (y := 2) ja_law_968 rfl ?_
  refine q_sald (pc' := 970) ja_law_969 rfl h2 ?_
  refine q_virt (pc' := 973) (c := 0) (as := [.int (G.1.2 (i + 1).toNatClampNeg), .int (G.1.2 (i + 2).toNatClampNeg)]) (r := []) ja_law_970 rfl rfl rfl (by decide) ⟨rfl, by decide⟩ ?_
  refine q_mono (fun v s' h' => ?_) (q_typ_int (k := 103) rfl rfl (hop _ _ s hR))
  obtain ⟨h', x, rfl⟩ := h'
  show q_W G 91 jm_law B 973 (ws_ls i) [.int x] s'
  refine q_pop (pc' := 974) ja_law_973 rfl rfl ?_
  refine q_aload_n (pc' := 975) (x := 146) ja_law_974 rfl rfl ?_
  refine q_aload_n (pc' := 976) (x := 1000000) ja_law_975 rfl rfl ?_
  refine q_iload_n (pc' := 977) (x := i) ja_law_976 rfl rfl ?_
  refine q_iconst (pc' := 978) ja_law_977 rfl 1 (by decide) ?_
  refine q_iadd (pc' := 979) (x := i) (y := 1) ja_law_978 rfl ?_
  refine q_sald (pc' := 980) ja_law_979 rfl h1 ?_
  refine q_aload_n (pc' := 981) (x := 1000000) ja_law_980 rfl rfl ?_
  refine q_iload_n (pc' := 982) (x := i) ja_law_981 rfl rfl ?_
  refine q_iconst (pc' := 983) ja_law_982 rfl 2 (by decide) ?_
  refine q_iadd (pc' := 984) (x := i) (y := 2) ja_law_983 rfl ?_
  refine q_sald (pc' := 985) ja_law_984 rfl h2 ?_
  refine q_virt (pc' := 988) (c := 146) (as := [.int (G.1.2 (i + 1).toNatClampNeg), .int (G.1.2 (i + 2).toNatClampNeg)]) (r := []) ja_law_985 rfl rfl rfl (by decide) ⟨rfl, by decide⟩ ?_
  refine q_mono (fun v s'' h'' => ?_) (q_typ_int (k := 202) rfl rfl h')
  obtain ⟨⟨-, hI'⟩, y, rfl⟩ := h''
  show q_W G 91 jm_law B 988 (ws_ls i) [.int y] s''
  refine q_pop (pc' := 989) ja_law_988 rfl rfl ?_
  exact q_goto ja_law_989 (kk s'' hI')
theorem wt_op24 {G : jv_X} {B : Option Value → jg_H → Prop} {s : jg_H} {i : Int32} {R : jg_H → Prop} (hop : wt_H G R False 104 203 []) (hR : R s) (h1 : jv_in (i + 1) G.1.1 = true) (h2 : jv_in (i + 2) G.1.1 = true) (h3 : jv_in (i + 3) G.1.1 = true) (h4 : jv_in (i + 4) G.1.1 = true) (h5 : jv_in (i + 5) G.1.1 = true) (h6 : jv_in (i + 6) G.1.1 = true) (kk : ∀ s', R s' → q_W G 91 jm_law B 1358 (ws_ls i) [] s') : q_W G 91 jm_law B 992 (ws_ls i) [] s := by
  refine q_aload_n (pc' := 993) (x := 0) ja_law_992 rfl rfl ?_
  refine q_virt (pc' := 996) (c := 0) (as := []) (r := []) ja_law_993 rfl rfl rfl (by decide) ⟨rfl, by decide⟩ ?_
  refine q_mono (fun v s' h' => ?_) (q_typ_int (k := 104) rfl rfl (hop s hR))
  obtain ⟨h', x, rfl⟩ := h'
  show q_W G 91 jm_law B 996 (ws_ls i) [.int x] s'
  refine q_pop (pc' := 997) ja_law_996 rfl rfl ?_
  refine q_aload_n (pc' := 998) (x := 146) ja_law_997 rfl rfl ?_
  refine q_virt (pc' := 1001) (c := 146) (as := []) (r := []) ja_law_998 rfl rfl rfl (by decide) ⟨rfl, by decide⟩ ?_
  refine q_mono (fun v s'' h'' => ?_) (q_typ_int (k := 203) rfl rfl h')
  obtain ⟨⟨-, hI'⟩, y, rfl⟩ := h''
  show q_W G 91 jm_law B 1001 (ws_ls i) [.int y] s''
  refine q_pop (pc' := 1002) ja_law_1001 rfl rfl ?_
  exact q_goto ja_law_1002 (kk s'' hI')
theorem wt_op25 {G : jv_X} {B : Option Value → jg_H → Prop} {s : jg_H} {i : Int32} {R : jg_H → Prop} (hop : wt_H G R False 105 204 []) (hR : R s) (h1 : jv_in (i + 1) G.1.1 = true) (h2 : jv_in (i + 2) G.1.1 = true) (h3 : jv_in (i + 3) G.1.1 = true) (h4 : jv_in (i + 4) G.1.1 = true) (h5 : jv_in (i + 5) G.1.1 = true) (h6 : jv_in (i + 6) G.1.1 = true) (kk : ∀ s', R s' → q_W G 91 jm_law B 1358 (ws_ls i) [] s') : q_W G 91 jm_law B 1005 (ws_ls i) [] s := by
  refine q_aload_n (pc' := 1006) (x := 0) ja_law_1005 rfl rfl ?_
  refine q_virt (pc' := 1009) (c := 0) (as := []) (r := []) ja_law_1006 rfl rfl rfl (by decide) ⟨rfl, by decide⟩ ?_
  refine q_mono (fun v s' h' => ?_) (q_typ_int (k := 105) rfl rfl (hop s hR))
  obtain ⟨h', x, rfl⟩ := h'
  show q_W G 91 jm_law B 1009 (ws_ls i) [.int x] s'
  refine q_pop (pc' := 1010) ja_law_1009 rfl rfl ?_
  refine q_aload_n (pc' := 1011) (x := 146) ja_law_1010 rfl rfl ?_
  refine q_virt (pc' := 1014) (c := 146) (as := []) (r := []) ja_law_1011 rfl rfl rfl (by decide) ⟨rfl, by decide⟩ ?_
  refine q_mono (fun v s'' h'' => ?_) (q_typ_int (k := 204) rfl rfl h')
  obtain ⟨⟨-, hI'⟩, y, rfl⟩ := h''
  show q_W G 91 jm_law B 1014 (ws_ls i) [.int y] s''
  refine q_pop (pc' := 1015) ja_law_1014 rfl rfl ?_
  exact q_goto ja_law_1015 (kk s'' hI')
theorem wt_op26 {G : jv_X} {B : Option Value → jg_H → Prop} {s : jg_H} {i : Int32} {R : jg_H → Prop} (hop : ∀ (a : Int32) (b : Int32) (c : Int32), wt_H G R False 106 205 [.int a, .int b, .int c]) (hR : R s) (h1 : jv_in (i + 1) G.1.1 = true) (h2 : jv_in (i + 2) G.1.1 = true) (h3 : jv_in (i + 3) G.1.1 = true) (h4 : jv_in (i + 4) G.1.1 = true) (h5 : jv_in (i + 5) G.1.1 = true) (h6 : jv_in (i + 6) G.1.1 = true) (kk : ∀ s', R s' → q_W G 91 jm_law B 1358 (ws_ls i) [] s') : q_W G 91 jm_law B 1018 (ws_ls i) [] s := by
  refine q_aload_n (pc' := 1019) (x := 0) ja_law_1018 rfl rfl ?_
  refine q_aload_n (pc' := 1020) (x := 1000000) ja_law_1019 rfl rfl ?_
  refine q_iload_n (pc' := 1021) (x := i) ja_law_1020 rfl rfl ?_
  refine q_iconst (pc' := 1022) ja_law_1021 rfl 1 (by decide) ?_
  refine q_iadd (pc' := 1023) (x := i) (y := 1) ja_law_1022 rfl ?_
  refine q_sald (pc' := 1024) ja_law_1023 rfl h1 ?_
  refine q_aload_n (pc' := 1025) (x := 1000000) ja_law_1024 rfl rfl ?_
  refine q_iload_n (pc' := 1026) (x := i) ja_law_1025 rfl rfl ?_
  refine q_iconst (pc' := 1027) ja_law_1026 rfl 2 (by decide) ?_
  refine q_iadd (pc' := 1028) (x := i) (y := 2) ja_law_1027 rfl ?_
  refine q_sald (pc' := 1029) ja_law_1028 rfl h2 ?_
  refine q_aload_n (pc' := 1030) (x := 1000000) ja_law_1029 rfl rfl ?_
  refine q_iload_n (pc' := 1031) (x := i) ja_law_1030 rfl rfl ?_
  refine q_iconst (pc' := 1032) ja_law_1031 rfl 3 (by decide) ?_
  refine q_iadd (pc' := 1033) (x := i) (y := 3) ja_law_1032 rfl ?_
  refine q_sald (pc' := 1034) ja_law_1033 rfl h3 ?_
  refine q_virt (pc' := 1037) (c := 0) (as := [.int (G.1.2 (i + 1).toNatClampNeg), .int (G.1.2 (i + 2).toNatClampNeg), .int (G.1.2 (i + 3).toNatClampNeg)]) (r := []) ja_law_1034 rfl rfl rfl (by decide) ⟨rfl, by decide⟩ ?_
  refine q_mono (fun v s' h' => ?_) (q_typ_int (k := 106) rfl rfl (hop _ _ _ s hR))
  obtain ⟨h', x, rfl⟩ := h'
  show q_W G 91 jm_law B 1037 (ws_ls i) [.int x] s'
  refine q_pop (pc' := 1038) ja_law_1037 rfl rfl ?_
  refine q_aload_n (pc' := 1039) (x := 146) ja_law_1038 rfl rfl ?_
  refine q_aload_n (pc' := 1040) (x := 1000000) ja_law_1039 rfl rfl ?_
  refine q_iload_n (pc' := 1041) (x := i) ja_law_1040 rfl rfl ?_
  refine q_iconst (pc' := 1042) ja_law_1041 rfl 1 (by decide) ?_
  refine q_iadd (pc' := 1043) (x := i) (y := 1) ja_law_1042 rfl ?_
  refine q_sald (pc' := 1044) ja_law_1043 rfl h1 ?_
  refine q_aload_n (pc' := 1045) (x := 1000000) ja_law_1044 rfl rfl ?_
  refine q_iload_n (pc' := 1046) (x := i) ja_law_1045 rfl rfl ?_
  refine q_iconst (pc' := 1047) ja_law_1046 rfl 2 (by decide) ?_
  refine q_iadd (pc' := 1048) (x := i) (y := 2) ja_law_1047 rfl ?_
  refine q_sald (pc' := 1049) ja_law_1048 rfl h2 ?_
  refine q_aload_n (pc' := 1050) (x := 1000000) ja_law_1049 rfl rfl ?_
  refine q_iload_n (pc' := 1051) (x := i) ja_law_1050 rfl rfl ?_
  refine q_iconst (pc' := 1052) ja_law_1051 rfl 3 (by decide) ?_
  refine q_iadd (pc' := 1053) (x := i) (y := 3) ja_law_1052 rfl ?_
  refine q_sald (pc' := 1054) ja_law_1053 rfl h3 ?_
  refine q_virt (pc' := 1057) (c := 146) (as := [.int (G.1.2 (i + 1).toNatClampNeg), .int (G.1.2 (i + 2).toNatClampNeg), .int (G.1.2 (i + 3).toNatClampNeg)]) (r := []) ja_law_1054 rfl rfl rfl (by decide) ⟨rfl, by decide⟩ ?_
  refine q_mono (fun v s'' h'' => ?_) (q_typ_int (k := 205) rfl rfl h')
  obtain ⟨⟨-, hI'⟩, y, rfl⟩ := h''
  show q_W G 91 jm_law B 1057 (ws_ls i) [.int y] s''
  refine q_pop (pc' := 1058) ja_law_1057 rfl rfl ?_
  exact q_goto ja_law_1058 (kk s'' hI')
theorem wt_op27 {G : jv_X} {B : Option Value → jg_H → Prop} {s : jg_H} {i : Int32} {R : jg_H → Prop} (hop : ∀ (a : Int32) (b : Int32), wt_H G R False 107 206 [.int a, .int b]) (hR : R s) (h1 : jv_in (i + 1) G.1.1 = true) (h2 : jv_in (i + 2) G.1.1 = true) (h3 : jv_in (i + 3) G.1.1 = true) (h4 : jv_in (i + 4) G.1.1 = true) (h5 : jv_in (i + 5) G.1.1 = true) (h6 : jv_in (i + 6) G.1.1 = true) (kk : ∀ s', R s' → q_W G 91 jm_law B 1358 (ws_ls i) [] s') : q_W G 91 jm_law B 1061 (ws_ls i) [] s := by
  refine q_aload_n (pc' := 1062) (x := 0) ja_law_1061 rfl rfl ?_
  refine q_aload_n (pc' := 1063) (x := 1000000) ja_law_1062 rfl rfl ?_
  refine q_iload_n (pc' := 1064) (x := i) ja_law_1063 rfl rfl ?_
  refine q_iconst (pc' := 1065) ja_law_1064 rfl 1 (by decide) ?_
  refine q_iadd (pc' := 1066) (x := i) (y := 1) ja_law_1065 rfl ?_
  refine q_sald (pc' := 1067) ja_law_1066 rfl h1 ?_
  refine q_aload_n (pc' := 1068) (x := 1000000) ja_law_1067 rfl rfl ?_
  refine q_iload_n (pc' := 1069) (x := i) ja_law_1068 rfl rfl ?_
  refine q_iconst (pc' := 1070) ja_law_1069 rfl 2 (by decide) ?_
  refine q_iadd (pc' := 1071) (x := i) (y := 2) ja_law_1070 rfl ?_
  refine q_sald (pc' := 1072) ja_law_1071 rfl h2 ?_
  refine q_virt (pc' := 1075) (c := 0) (as := [.int (G.1.2 (i + 1).toNatClampNeg), .int (G.1.2 (i + 2).toNatClampNeg)]) (r := []) ja_law_1072 rfl rfl rfl (by decide) ⟨rfl, by decide⟩ ?_
  refine q_mono (fun v s' h' => ?_) (q_typ_long (k := 107) rfl rfl (hop _ _ s hR))
  obtain ⟨h', x, rfl⟩ := h'
  show q_W G 91 jm_law B 1075 (ws_ls i) [.long x] s'
  refine q_pop2 (pc' := 1076) ja_law_1075 rfl ?_
  refine q_aload_n (pc' := 1077) (x := 146) ja_law_1076 rfl rfl ?_
  refine q_aload_n (pc' := 1078) (x := 1000000) ja_law_1077 rfl rfl ?_
  refine q_iload_n (pc' := 1079) (x := i) ja_law_1078 rfl rfl ?_
  refine q_iconst (pc' := 1080) ja_law_1079 rfl 1 (by decide) ?_
  refine q_iadd (pc' := 1081) (x := i) (y := 1) ja_law_1080 rfl ?_
  refine q_sald (pc' := 1082) ja_law_1081 rfl h1 ?_
  refine q_aload_n (pc' := 1083) (x := 1000000) ja_law_1082 rfl rfl ?_
  refine q_iload_n (pc' := 1084) (x := i) ja_law_1083 rfl rfl ?_
  refine q_iconst (pc' := 1085) ja_law_1084 rfl 2 (by decide) ?_
  refine q_iadd (pc' := 1086) (x := i) (y := 2) ja_law_1085 rfl ?_
  refine q_sald (pc' := 1087) ja_law_1086 rfl h2 ?_
  refine q_virt (pc' := 1090) (c := 146) (as := [.int (G.1.2 (i + 1).toNatClampNeg), .int (G.1.2 (i + 2).toNatClampNeg)]) (r := []) ja_law_1087 rfl rfl rfl (by decide) ⟨rfl, by decide⟩ ?_
  refine q_mono (fun v s'' h'' => ?_) (q_typ_long (k := 206) rfl rfl h')
  obtain ⟨⟨-, hI'⟩, y, rfl⟩ := h''
  show q_W G 91 jm_law B 1090 (ws_ls i) [.long y] s''
  refine q_pop2 (pc' := 1091) ja_law_1090 rfl ?_
  exact q_goto ja_law_1091 (kk s'' hI')
theorem wt_op28 {G : jv_X} {B : Option Value → jg_H → Prop} {s : jg_H} {i : Int32} {R : jg_H → Prop} (hop : ∀ (a : Int32), wt_H G R False 114 209 [.int a]) (hR : R s) (h1 : jv_in (i + 1) G.1.1 = true) (h2 : jv_in (i + 2) G.1.1 = true) (h3 : jv_in (i + 3) G.1.1 = true) (h4 : jv_in (i + 4) G.1.1 = true) (h5 : jv_in (i + 5) G.1.1 = true) (h6 : jv_in (i + 6) G.1.1 = true) (kk : ∀ s', R s' → q_W G 91 jm_law B 1358 (ws_ls i) [] s') : q_W G 91 jm_law B 1094 (ws_ls i) [] s := by
  refine q_aload_n (pc' := 1095) (x := 0) ja_law_1094 rfl rfl ?_
  refine q_aload_n (pc' := 1096) (x := 1000000) ja_law_1095 rfl rfl ?_
  refine q_iload_n (pc' := 1097) (x := i) ja_law_1096 rfl rfl ?_
  refine q_iconst (pc' := 1098) ja_law_1097 rfl 1 (by decide) ?_
  refine q_iadd (pc' := 1099) (x := i) (y := 1) ja_law_1098 rfl ?_
  refine q_sald (pc' := 1100) ja_law_1099 rfl h1 ?_
  refine q_virt (pc' := 1103) (c := 0) (as := [.int (G.1.2 (i + 1).toNatClampNeg)]) (r := []) ja_law_1100 rfl rfl rfl (by decide) ⟨rfl, by decide⟩ ?_
  refine q_mono (fun v s' h' => ?_) (q_typ_int (k := 114) rfl rfl (hop _ s hR))
  obtain ⟨h', x, rfl⟩ := h'
  show q_W G 91 jm_law B 1103 (ws_ls i) [.int x] s'
  refine q_pop (pc' := 1104) ja_law_1103 rfl rfl ?_
  refine q_aload_n (pc' := 1105) (x := 146) ja_law_1104 rfl rfl ?_
  refine q_aload_n (pc' := 1106) (x := 1000000) ja_law_1105 rfl rfl ?_
  refine q_iload_n (pc' := 1107) (x := i) ja_law_1106 rfl rfl ?_
  refine q_iconst (pc' := 1108) ja_law_1107 rfl 1 (by decide) ?_
  refine q_iadd (pc' := 1109) (x := i) (y := 1) ja_law_1108 rfl ?_
  refine q_sald (pc' := 1110) ja_law_1109 rfl h1 ?_
  refine q_virt (pc' := 1113) (c := 146) (as := [.int (G.1.2 (i + 1).toNatClampNeg)]) (r := []) ja_law_1110 rfl rfl rfl (by decide) ⟨rfl, by decide⟩ ?_
  refine q_mono (fun v s'' h'' => ?_) (q_typ_int (k := 209) rfl rfl h')
  obtain ⟨⟨-, hI'⟩, y, rfl⟩ := h''
  show q_W G 91 jm_law B 1113 (ws_ls i) [.int y] s''
  refine q_pop (pc' := 1114) ja_law_1113 rfl rfl ?_
  exact q_goto ja_law_1114 (kk s'' hI')
theorem wt_op29 {G : jv_X} {B : Option Value → jg_H → Prop} {s : jg_H} {i : Int32} {R : jg_H → Prop} (hop : ∀ (a : Int32) (b : Int32), wt_H G R False 117 210 [.int a, .int b]) (hR : R s) (h1 : jv_in (i + 1) G.1.1 = true) (h2 : jv_in (i + 2) G.1.1 = true) (h3 : jv_in (i + 3) G.1.1 = true) (h4 : jv_in (i + 4) G.1.1 = true) (h5 : jv_in (i + 5) G.1.1 = true) (h6 : jv_in (i + 6) G.1.1 = true) (kk : ∀ s', R s' → q_W G 91 jm_law B 1358 (ws_ls i) [] s') : q_W G 91 jm_law B 1117 (ws_ls i) [] s := by
  refine q_aload_n (pc' := 1118) (x := 0) ja_law_1117 rfl rfl ?_
  refine q_aload_n (pc' := 1119) (x := 1000000) ja_law_1118 rfl rfl ?_
  refine q_iload_n (pc' := 1120) (x := i) ja_law_1119 rfl rfl ?_
  refine q_iconst (pc' := 1121) ja_law_1120 rfl 1 (by decide) ?_
  refine q_iadd (pc' := 1122) (x := i) (y := 1) ja_law_1121 rfl ?_
  refine q_sald (pc' := 1123) ja_law_1122 rfl h1 ?_
  refine q_aload_n (pc' := 1124) (x := 1000000) ja_law_1123 rfl rfl ?_
  refine q_iload_n (pc' := 1125) (x := i) ja_law_1124 rfl rfl ?_
  refine q_iconst (pc' := 1126) ja_law_1125 rfl 2 (by decide) ?_
  refine q_iadd (pc' := 1127) (x := i) (y := 2) ja_law_1126 rfl ?_
  refine q_sald (pc' := 1128) ja_law_1127 rfl h2 ?_
  refine q_virt (pc' := 1131) (c := 0) (as := [.int (G.1.2 (i + 1).toNatClampNeg), .int (G.1.2 (i + 2).toNatClampNeg)]) (r := []) ja_law_1128 rfl rfl rfl (by decide) ⟨rfl, by decide⟩ ?_
  refine q_mono (fun v s' h' => ?_) (q_typ_int (k := 117) rfl rfl (hop _ _ s hR))
  obtain ⟨h', x, rfl⟩ := h'
  show q_W G 91 jm_law B 1131 (ws_ls i) [.int x] s'
  refine q_pop (pc' := 1132) ja_law_1131 rfl rfl ?_
  refine q_aload_n (pc' := 1133) (x := 146) ja_law_1132 rfl rfl ?_
  refine q_aload_n (pc' := 1134) (x := 1000000) ja_law_1133 rfl rfl ?_
  refine q_iload_n (pc' := 1135) (x := i) ja_law_1134 rfl rfl ?_
  refine q_iconst (pc' := 1136) ja_law_1135 rfl 1 (by decide) ?_
  refine q_iadd (pc' := 1137) (x := i) (y := 1) ja_law_1136 rfl ?_
  refine q_sald (pc' := 1138) ja_law_1137 rfl h1 ?_
  refine q_aload_n (pc' := 1139) (x := 1000000) ja_law_1138 rfl rfl ?_
  refine q_iload_n (pc' := 1140) (x := i) ja_law_1139 rfl rfl ?_
  refine q_iconst (pc' := 1141) ja_law_1140 rfl 2 (by decide) ?_
  refine q_iadd (pc' := 1142) (x := i) (y := 2) ja_law_1141 rfl ?_
  refine q_sald (pc' := 1143) ja_law_1142 rfl h2 ?_
  refine q_virt (pc' := 1146) (c := 146) (as := [.int (G.1.2 (i + 1).toNatClampNeg), .int (G.1.2 (i + 2).toNatClampNeg)]) (r := []) ja_law_1143 rfl rfl rfl (by decide) ⟨rfl, by decide⟩ ?_
  refine q_mono (fun v s'' h'' => ?_) (q_typ_int (k := 210) rfl rfl h')
  obtain ⟨⟨-, hI'⟩, y, rfl⟩ := h''
  show q_W G 91 jm_law B 1146 (ws_ls i) [.int y] s''
  refine q_pop (pc' := 1147) ja_law_1146 rfl rfl ?_
  exact q_goto ja_law_1147 (kk s'' hI')
theorem wt_op30 {G : jv_X} {B : Option Value → jg_H → Prop} {s : jg_H} {i : Int32} {R : jg_H → Prop} (hop : ∀ (a : Int32) (b : Int32) (c : Int32), wt_H G R False 122 212 [.int a, .int b, .int c]) (hR : R s) (h1 : jv_in (i + 1) G.1.1 = true) (h2 : jv_in (i + 2) G.1.1 = true) (h3 : jv_in (i + 3) G.1.1 = true) (h4 : jv_in (i + 4) G.1.1 = true) (h5 : jv_in (i + 5) G.1.1 = true) (h6 : jv_in (i + 6) G.1.1 = true) (kk : ∀ s', R s' → q_W G 91 jm_law B 1358 (ws_ls i) [] s') : q_W G 91 jm_law B 1150 (ws_ls i) [] s := by
  refine q_aload_n (pc' := 1151) (x := 0) ja_law_1150 rfl rfl ?_
  refine q_aload_n (pc' := 1152) (x := 1000000) ja_law_1151 rfl rfl ?_
  refine q_iload_n (pc' := 1153) (x := i) ja_law_1152 rfl rfl ?_
  refine q_iconst (pc' := 1154) ja_law_1153 rfl 1 (by decide) ?_
  refine q_iadd (pc' := 1155) (x := i) (y := 1) ja_law_1154 rfl ?_
  refine q_sald (pc' := 1156) ja_law_1155 rfl h1 ?_
  refine q_aload_n (pc' := 1157) (x := 1000000) ja_law_1156 rfl rfl ?_
  refine q_iload_n (pc' := 1158) (x := i) ja_law_1157 rfl rfl ?_
  refine q_iconst (pc' := 1159) ja_law_1158 rfl 2 (by decide) ?_
  refine q_iadd (pc' := 1160) (x := i) (y := 2) ja_law_1159 rfl ?_
  refine q_sald (pc' := 1161) ja_law_1160 rfl h2 ?_
  refine q_aload_n (pc' := 1162) (x := 1000000) ja_law_1161 rfl rfl ?_
  refine q_iload_n (pc' := 1163) (x := i) ja_law_1162 rfl rfl ?_
  refine q_iconst (pc' := 1164) ja_law_1163 rfl 3 (by decide) ?_
  refine q_iadd (pc' := 1165) (x := i) (y := 3) ja_law_1164 rfl ?_
  refine q_sald (pc' := 1166) ja_law_1165 rfl h3 ?_
  refine q_virt (pc' := 1169) (c := 0) (as := [.int (G.1.2 (i + 1).toNatClampNeg), .int (G.1.2 (i + 2).toNatClampNeg), .int (G.1.2 (i + 3).toNatClampNeg)]) (r := []) ja_law_1166 rfl rfl rfl (by decide) ⟨rfl, by decide⟩ ?_
  refine q_mono (fun v s' h' => ?_) (q_typ_int (k := 122) rfl rfl (hop _ _ _ s hR))
  obtain ⟨h', x, rfl⟩ := h'
  show q_W G 91 jm_law B 1169 (ws_ls i) [.int x] s'
  refine q_pop (pc' := 1170) ja_law_1169 rfl rfl ?_
  refine q_aload_n (pc' := 1171) (x := 146) ja_law_1170 rfl rfl ?_
  refine q_aload_n (pc' := 1172) (x := 1000000) ja_law_1171 rfl rfl ?_
  refine q_iload_n (pc' := 1173) (x := i) ja_law_1172 rfl rfl ?_
  refine q_iconst (pc' := 1174) ja_law_1173 rfl 1 (by decide) ?_
  refine q_iadd (pc' := 1175) (x := i) (y := 1) ja_law_1174 rfl ?_
  refine q_sald (pc' := 1176) ja_law_1175 rfl h1 ?_
  refine q_aload_n (pc' := 1177) (x := 1000000) ja_law_1176 rfl rfl ?_
  refine q_iload_n (pc' := 1178) (x := i) ja_law_1177 rfl rfl ?_
  refine q_iconst (pc' := 1179) ja_law_1178 rfl 2 (by decide) ?_
  refine q_iadd (pc' := 1180) (x := i) (y := 2) ja_law_1179 rfl ?_
  refine q_sald (pc' := 1181) ja_law_1180 rfl h2 ?_
  refine q_aload_n (pc' := 1182) (x := 1000000) ja_law_1181 rfl rfl ?_
  refine q_iload_n (pc' := 1183) (x := i) ja_law_1182 rfl rfl ?_
  refine q_iconst (pc' := 1184) ja_law_1183 rfl 3 (by decide) ?_
  refine q_iadd (pc' := 1185) (x := i) (y := 3) ja_law_1184 rfl ?_
  refine q_sald (pc' := 1186) ja_law_1185 rfl h3 ?_
  refine q_virt (pc' := 1189) (c := 146) (as := [.int (G.1.2 (i + 1).toNatClampNeg), .int (G.1.2 (i + 2).toNatClampNeg), .int (G.1.2 (i + 3).toNatClampNeg)]) (r := []) ja_law_1186 rfl rfl rfl (by decide) ⟨rfl, by decide⟩ ?_
  refine q_mono (fun v s'' h'' => ?_) (q_typ_int (k := 212) rfl rfl h')
  obtain ⟨⟨-, hI'⟩, y, rfl⟩ := h''
  show q_W G 91 jm_law B 1189 (ws_ls i) [.int y] s''
  refine q_pop (pc' := 1190) ja_law_1189 rfl rfl ?_
  exact q_goto ja_law_1190 (kk s'' hI')
theorem wt_op31 {G : jv_X} {B : Option Value → jg_H → Prop} {s : jg_H} {i : Int32} {R : jg_H → Prop} (hop : ∀ (a : Int32), wt_H G R False 123 214 [.int a]) (hR : R s) (h1 : jv_in (i + 1) G.1.1 = true) (h2 : jv_in (i + 2) G.1.1 = true) (h3 : jv_in (i + 3) G.1.1 = true) (h4 : jv_in (i + 4) G.1.1 = true) (h5 : jv_in (i + 5) G.1.1 = true) (h6 : jv_in (i + 6) G.1.1 = true) (kk : ∀ s', R s' → q_W G 91 jm_law B 1358 (ws_ls i) [] s') : q_W G 91 jm_law B 1193 (ws_ls i) [] s := by
  refine q_aload_n (pc' := 1194) (x := 0) ja_law_1193 rfl rfl ?_
  refine q_aload_n (pc' := 1195) (x := 1000000) ja_law_1194 rfl rfl ?_
  refine q_iload_n (pc' := 1196) (x := i) ja_law_1195 rfl rfl ?_
  refine q_iconst (pc' := 1197) ja_law_1196 rfl 1 (by decide) ?_
  refine q_iadd (pc' := 1198) (x := i) (y := 1) ja_law_1197 rfl ?_
  refine q_sald (pc' := 1199) ja_law_1198 rfl h1 ?_
  refine q_virt (pc' := 1202) (c := 0) (as := [.int (G.1.2 (i + 1).toNatClampNeg)]) (r := []) ja_law_1199 rfl rfl rfl (by decide) ⟨rfl, by decide⟩ ?_
  refine q_mono (fun v s' h' => ?_) (q_typ_int (k := 123) rfl rfl (hop _ s hR))
  obtain ⟨h', x, rfl⟩ := h'
  show q_W G 91 jm_law B 1202 (ws_ls i) [.int x] s'
  refine q_pop (pc' := 1203) ja_law_1202 rfl rfl ?_
  refine q_aload_n (pc' := 1204) (x := 146) ja_law_1203 rfl rfl ?_
  refine q_aload_n (pc' := 1205) (x := 1000000) ja_law_1204 rfl rfl ?_
  refine q_iload_n (pc' := 1206) (x := i) ja_law_1205 rfl rfl ?_
  refine q_iconst (pc' := 1207) ja_law_1206 rfl 1 (by decide) ?_
  refine q_iadd (pc' := 1208) (x := i) (y := 1) ja_law_1207 rfl ?_
  refine q_sald (pc' := 1209) ja_law_1208 rfl h1 ?_
  refine q_virt (pc' := 1212) (c := 146) (as := [.int (G.1.2 (i + 1).toNatClampNeg)]) (r := []) ja_law_1209 rfl rfl rfl (by decide) ⟨rfl, by decide⟩ ?_
  refine q_mono (fun v s'' h'' => ?_) (q_typ_int (k := 214) rfl rfl h')
  obtain ⟨⟨-, hI'⟩, y, rfl⟩ := h''
  show q_W G 91 jm_law B 1212 (ws_ls i) [.int y] s''
  refine q_pop (pc' := 1213) ja_law_1212 rfl rfl ?_
  exact q_goto ja_law_1213 (kk s'' hI')
theorem wt_op32 {G : jv_X} {B : Option Value → jg_H → Prop} {s : jg_H} {i : Int32} {R : jg_H → Prop} (hop : ∀ (a : Int32) (b : Int32), wt_H G R False 124 215 [.int a, .int b]) (hR : R s) (h1 : jv_in (i + 1) G.1.1 = true) (h2 : jv_in (i + 2) G.1.1 = true) (h3 : jv_in (i + 3) G.1.1 = true) (h4 : jv_in (i + 4) G.1.1 = true) (h5 : jv_in (i + 5) G.1.1 = true) (h6 : jv_in (i + 6) G.1.1 = true) (kk : ∀ s', R s' → q_W G 91 jm_law B 1358 (ws_ls i) [] s') : q_W G 91 jm_law B 1216 (ws_ls i) [] s := by
  refine q_aload_n (pc' := 1217) (x := 0) ja_law_1216 rfl rfl ?_
  refine q_aload_n (pc' := 1218) (x := 1000000) ja_law_1217 rfl rfl ?_
  refine q_iload_n (pc' := 1219) (x := i) ja_law_1218 rfl rfl ?_
  refine q_iconst (pc' := 1220) ja_law_1219 rfl 1 (by decide) ?_
  refine q_iadd (pc' := 1221) (x := i) (y := 1) ja_law_1220 rfl ?_
  refine q_sald (pc' := 1222) ja_law_1221 rfl h1 ?_
  refine q_aload_n (pc' := 1223) (x := 1000000) ja_law_1222 rfl rfl ?_
  refine q_iload_n (pc' := 1224) (x := i) ja_law_1223 rfl rfl ?_
  refine q_iconst (pc' := 1225) ja_law_1224 rfl 2 (by decide) ?_
  refine q_iadd (pc' := 1226) (x := i) (y := 2) ja_law_1225 rfl ?_
  refine q_sald (pc' := 1227) ja_law_1226 rfl h2 ?_
  refine q_virt (pc' := 1230) (c := 0) (as := [.int (G.1.2 (i + 1).toNatClampNeg), .int (G.1.2 (i + 2).toNatClampNeg)]) (r := []) ja_law_1227 rfl rfl rfl (by decide) ⟨rfl, by decide⟩ ?_
  refine q_mono (fun v s' h' => ?_) (q_typ_int (k := 124) rfl rfl (hop _ _ s hR))
  obtain ⟨h', x, rfl⟩ := h'
  show q_W G 91 jm_law B 1230 (ws_ls i) [.int x] s'
  refine q_pop (pc' := 1231) ja_law_1230 rfl rfl ?_
  refine q_aload_n (pc' := 1232) (x := 146) ja_law_1231 rfl rfl ?_
  refine q_aload_n (pc' := 1233) (x := 1000000) ja_law_1232 rfl rfl ?_
  refine q_iload_n (pc' := 1234) (x := i) ja_law_1233 rfl rfl ?_
  refine q_iconst (pc' := 1235) ja_law_1234 rfl 1 (by decide) ?_
  refine q_iadd (pc' := 1236) (x := i) (y := 1) ja_law_1235 rfl ?_
  refine q_sald (pc' := 1237) ja_law_1236 rfl h1 ?_
  refine q_aload_n (pc' := 1238) (x := 1000000) ja_law_1237 rfl rfl ?_
  refine q_iload_n (pc' := 1239) (x := i) ja_law_1238 rfl rfl ?_
  refine q_iconst (pc' := 1240) ja_law_1239 rfl 2 (by decide) ?_
  refine q_iadd (pc' := 1241) (x := i) (y := 2) ja_law_1240 rfl ?_
  refine q_sald (pc' := 1242) ja_law_1241 rfl h2 ?_
  refine q_virt (pc' := 1245) (c := 146) (as := [.int (G.1.2 (i + 1).toNatClampNeg), .int (G.1.2 (i + 2).toNatClampNeg)]) (r := []) ja_law_1242 rfl rfl rfl (by decide) ⟨rfl, by decide⟩ ?_
  refine q_mono (fun v s'' h'' => ?_) (q_typ_int (k := 215) rfl rfl h')
  obtain ⟨⟨-, hI'⟩, y, rfl⟩ := h''
  show q_W G 91 jm_law B 1245 (ws_ls i) [.int y] s''
  refine q_pop (pc' := 1246) ja_law_1245 rfl rfl ?_
  exact q_goto ja_law_1246 (kk s'' hI')
theorem wt_op33 {G : jv_X} {B : Option Value → jg_H → Prop} {s : jg_H} {i : Int32} {R : jg_H → Prop} (hop : ∀ (a : Int32) (b : Int32) (c : Int32), wt_H G R True 127 217 [.int a, .int b, .int c]) (hR : R s) (h1 : jv_in (i + 1) G.1.1 = true) (h2 : jv_in (i + 2) G.1.1 = true) (h3 : jv_in (i + 3) G.1.1 = true) (h4 : jv_in (i + 4) G.1.1 = true) (h5 : jv_in (i + 5) G.1.1 = true) (h6 : jv_in (i + 6) G.1.1 = true) (kk : ∀ s', R s' → q_W G 91 jm_law B 1358 (ws_ls i) [] s') : q_W G 91 jm_law B 1249 (ws_ls i) [] s := by
  refine q_aload_n (pc' := 1250) (x := 0) ja_law_1249 rfl rfl ?_
  refine q_aload_n (pc' := 1251) (x := 1000000) ja_law_1250 rfl rfl ?_
  refine q_iload_n (pc' := 1252) (x := i) ja_law_1251 rfl rfl ?_
  refine q_iconst (pc' := 1253) ja_law_1252 rfl 1 (by decide) ?_
  refine q_iadd (pc' := 1254) (x := i) (y := 1) ja_law_1253 rfl ?_
  refine q_sald (pc' := 1255) ja_law_1254 rfl h1 ?_
  refine q_aload_n (pc' := 1256) (x := 1000000) ja_law_1255 rfl rfl ?_
  refine q_iload_n (pc' := 1257) (x := i) ja_law_1256 rfl rfl ?_
  refine q_iconst (pc' := 1258) ja_law_1257 rfl 2 (by decide) ?_
  refine q_iadd (pc' := 1259) (x := i) (y := 2) ja_law_1258 rfl ?_
  refine q_sald (pc' := 1260) ja_law_1259 rfl h2 ?_
  refine q_aload_n (pc' := 1261) (x := 1000000) ja_law_1260 rfl rfl ?_
  refine q_iload_n (pc' := 1262) (x := i) ja_law_1261 rfl rfl ?_
  refine q_iconst (pc' := 1263) ja_law_1262 rfl 3 (by decide) ?_
  refine q_iadd (pc' := 1264) (x := i) (y := 3) ja_law_1263 rfl ?_
  refine q_sald (pc' := 1265) ja_law_1264 rfl h3 ?_
  refine q_virt (pc' := 1268) (c := 0) (as := [.int (G.1.2 (i + 1).toNatClampNeg), .int (G.1.2 (i + 2).toNatClampNeg), .int (G.1.2 (i + 3).toNatClampNeg)]) (r := []) ja_law_1265 rfl rfl rfl (by decide) ⟨rfl, by decide⟩ ?_
  refine q_mono (fun v s' h' => ?_) (q_typ_int (k := 127) rfl rfl (hop _ _ _ s hR))
  obtain ⟨h', x, rfl⟩ := h'
  show q_W G 91 jm_law B 1268 (ws_ls i) [.int x] s'
  refine q_aload_n (pc' := 1269) (x := 146) ja_law_1268 rfl rfl ?_
  refine q_aload_n (pc' := 1270) (x := 1000000) ja_law_1269 rfl rfl ?_
  refine q_iload_n (pc' := 1271) (x := i) ja_law_1270 rfl rfl ?_
  refine q_iconst (pc' := 1272) ja_law_1271 rfl 1 (by decide) ?_
  refine q_iadd (pc' := 1273) (x := i) (y := 1) ja_law_1272 rfl ?_
  refine q_sald (pc' := 1274) ja_law_1273 rfl h1 ?_
  refine q_aload_n (pc' := 1275) (x := 1000000) ja_law_1274 rfl rfl ?_
  refine q_iload_n (pc' := 1276) (x := i) ja_law_1275 rfl rfl ?_
  refine q_iconst (pc' := 1277) ja_law_1276 rfl 2 (by decide) ?_
  refine q_iadd (pc' := 1278) (x := i) (y := 2) ja_law_1277 rfl ?_
  refine q_sald (pc' := 1279) ja_law_1278 rfl h2 ?_
  refine q_aload_n (pc' := 1280) (x := 1000000) ja_law_1279 rfl rfl ?_
  refine q_iload_n (pc' := 1281) (x := i) ja_law_1280 rfl rfl ?_
  refine q_iconst (pc' := 1282) ja_law_1281 rfl 3 (by decide) ?_
  refine q_iadd (pc' := 1283) (x := i) (y := 3) ja_law_1282 rfl ?_
  refine q_sald (pc' := 1284) ja_law_1283 rfl h3 ?_
  refine q_virt (pc' := 1287) (c := 146) (as := [.int (G.1.2 (i + 1).toNatClampNeg), .int (G.1.2 (i + 2).toNatClampNeg), .int (G.1.2 (i + 3).toNatClampNeg)]) (r := [.int x]) ja_law_1284 rfl rfl rfl (by decide) ⟨rfl, by decide⟩ ?_
  refine q_mono (fun v s'' h'' => ?_) h'
  obtain ⟨e, hI'⟩ := h''
  obtain rfl := e trivial
  show q_W G 91 jm_law B 1287 (ws_ls i) [.int x, .int x] s''
  refine q_ic_eq (pc' := 1290) ja_law_1287 rfl (fun _ => kk s'' hI') (fun hx => absurd rfl hx)
theorem wt_op34 {G : jv_X} {B : Option Value → jg_H → Prop} {s : jg_H} {i : Int32} {R : jg_H → Prop} (hop : ∀ (a : Int32) (b : Int32), wt_H G R False 129 218 [.int a, .int b]) (hR : R s) (h1 : jv_in (i + 1) G.1.1 = true) (h2 : jv_in (i + 2) G.1.1 = true) (h3 : jv_in (i + 3) G.1.1 = true) (h4 : jv_in (i + 4) G.1.1 = true) (h5 : jv_in (i + 5) G.1.1 = true) (h6 : jv_in (i + 6) G.1.1 = true) (kk : ∀ s', R s' → q_W G 91 jm_law B 1358 (ws_ls i) [] s') : q_W G 91 jm_law B 1292 (ws_ls i) [] s := by
  refine q_aload_n (pc' := 1293) (x := 0) ja_law_1292 rfl rfl ?_
  refine q_aload_n (pc' := 1294) (x := 1000000) ja_law_1293 rfl rfl ?_
  refine q_iload_n (pc' := 1295) (x := i) ja_law_1294 rfl rfl ?_
  refine q_iconst (pc' := 1296) ja_law_1295 rfl 1 (by decide) ?_
  refine q_iadd (pc' := 1297) (x := i) (y := 1) ja_law_1296 rfl ?_
  refine q_sald (pc' := 1298) ja_law_1297 rfl h1 ?_
  refine q_aload_n (pc' := 1299) (x := 1000000) ja_law_1298 rfl rfl ?_
  refine q_iload_n (pc' := 1300) (x := i) ja_law_1299 rfl rfl ?_
  refine q_iconst (pc' := 1301) ja_law_1300 rfl 2 (by decide) ?_
  refine q_iadd (pc' := 1302) (x := i) (y := 2) ja_law_1301 rfl ?_
  refine q_sald (pc' := 1303) ja_law_1302 rfl h2 ?_
  refine q_virt (pc' := 1306) (c := 0) (as := [.int (G.1.2 (i + 1).toNatClampNeg), .int (G.1.2 (i + 2).toNatClampNeg)]) (r := []) ja_law_1303 rfl rfl rfl (by decide) ⟨rfl, by decide⟩ ?_
  refine q_mono (fun v s' h' => ?_) (q_typ_int (k := 129) rfl rfl (hop _ _ s hR))
  obtain ⟨h', x, rfl⟩ := h'
  show q_W G 91 jm_law B 1306 (ws_ls i) [.int x] s'
  refine q_pop (pc' := 1307) ja_law_1306 rfl rfl ?_
  refine q_aload_n (pc' := 1308) (x := 146) ja_law_1307 rfl rfl ?_
  refine q_aload_n (pc' := 1309) (x := 1000000) ja_law_1308 rfl rfl ?_
  refine q_iload_n (pc' := 1310) (x := i) ja_law_1309 rfl rfl ?_
  refine q_iconst (pc' := 1311) ja_law_1310 rfl 1 (by decide) ?_
  refine q_iadd (pc' := 1312) (x := i) (y := 1) ja_law_1311 rfl ?_
  refine q_sald (pc' := 1313) ja_law_1312 rfl h1 ?_
  refine q_aload_n (pc' := 1314) (x := 1000000) ja_law_1313 rfl rfl ?_
  refine q_iload_n (pc' := 1315) (x := i) ja_law_1314 rfl rfl ?_
  refine q_iconst (pc' := 1316) ja_law_1315 rfl 2 (by decide) ?_
  refine q_iadd (pc' := 1317) (x := i) (y := 2) ja_law_1316 rfl ?_
  refine q_sald (pc' := 1318) ja_law_1317 rfl h2 ?_
  refine q_virt (pc' := 1321) (c := 146) (as := [.int (G.1.2 (i + 1).toNatClampNeg), .int (G.1.2 (i + 2).toNatClampNeg)]) (r := []) ja_law_1318 rfl rfl rfl (by decide) ⟨rfl, by decide⟩ ?_
  refine q_mono (fun v s'' h'' => ?_) (q_typ_int (k := 218) rfl rfl h')
  obtain ⟨⟨-, hI'⟩, y, rfl⟩ := h''
  show q_W G 91 jm_law B 1321 (ws_ls i) [.int y] s''
  refine q_pop (pc' := 1322) ja_law_1321 rfl rfl ?_
  exact q_goto ja_law_1322 (kk s'' hI')
theorem wt_op35 {G : jv_X} {B : Option Value → jg_H → Prop} {s : jg_H} {i : Int32} {R : jg_H → Prop} (hop : ∀ (a : Int32) (b : Int32), wt_H G R False 130 219 [.int a, .int b]) (hR : R s) (h1 : jv_in (i + 1) G.1.1 = true) (h2 : jv_in (i + 2) G.1.1 = true) (h3 : jv_in (i + 3) G.1.1 = true) (h4 : jv_in (i + 4) G.1.1 = true) (h5 : jv_in (i + 5) G.1.1 = true) (h6 : jv_in (i + 6) G.1.1 = true) (kk : ∀ s', R s' → q_W G 91 jm_law B 1358 (ws_ls i) [] s') : q_W G 91 jm_law B 1325 (ws_ls i) [] s := by
  refine q_aload_n (pc' := 1326) (x := 0) ja_law_1325 rfl rfl ?_
  refine q_aload_n (pc' := 1327) (x := 1000000) ja_law_1326 rfl rfl ?_
  refine q_iload_n (pc' := 1328) (x := i) ja_law_1327 rfl rfl ?_
  refine q_iconst (pc' := 1329) ja_law_1328 rfl 1 (by decide) ?_
  refine q_iadd (pc' := 1330) (x := i) (y := 1) ja_law_1329 rfl ?_
  refine q_sald (pc' := 1331) ja_law_1330 rfl h1 ?_
  refine q_aload_n (pc' := 1332) (x := 1000000) ja_law_1331 rfl rfl ?_
  refine q_iload_n (pc' := 1333) (x := i) ja_law_1332 rfl rfl ?_
  refine q_iconst (pc' := 1334) ja_law_1333 rfl 2 (by decide) ?_
  refine q_iadd (pc' := 1335) (x := i) (y := 2) ja_law_1334 rfl ?_
  refine q_sald (pc' := 1336) ja_law_1335 rfl h2 ?_
  refine q_virt (pc' := 1339) (c := 0) (as := [.int (G.1.2 (i + 1).toNatClampNeg), .int (G.1.2 (i + 2).toNatClampNeg)]) (r := []) ja_law_1336 rfl rfl rfl (by decide) ⟨rfl, by decide⟩ ?_
  refine q_mono (fun v s' h' => ?_) (q_typ_int (k := 130) rfl rfl (hop _ _ s hR))
  obtain ⟨h', x, rfl⟩ := h'
  show q_W G 91 jm_law B 1339 (ws_ls i) [.int x] s'
  refine q_pop (pc' := 1340) ja_law_1339 rfl rfl ?_
  refine q_aload_n (pc' := 1341) (x := 146) ja_law_1340 rfl rfl ?_
  refine q_aload_n (pc' := 1342) (x := 1000000) ja_law_1341 rfl rfl ?_
  refine q_iload_n (pc' := 1343) (x := i) ja_law_1342 rfl rfl ?_
  refine q_iconst (pc' := 1344) ja_law_1343 rfl 1 (by decide) ?_
  refine q_iadd (pc' := 1345) (x := i) (y := 1) ja_law_1344 rfl ?_
  refine q_sald (pc' := 1346) ja_law_1345 rfl h1 ?_
  refine q_aload_n (pc' := 1347) (x := 1000000) ja_law_1346 rfl rfl ?_
  refine q_iload_n (pc' := 1348) (x := i) ja_law_1347 rfl rfl ?_
  refine q_iconst (pc' := 1349) ja_law_1348 rfl 2 (by decide) ?_
  refine q_iadd (pc' := 1350) (x := i) (y := 2) ja_law_1349 rfl ?_
  refine q_sald (pc' := 1351) ja_law_1350 rfl h2 ?_
  refine q_virt (pc' := 1354) (c := 146) (as := [.int (G.1.2 (i + 1).toNatClampNeg), .int (G.1.2 (i + 2).toNatClampNeg)]) (r := []) ja_law_1351 rfl rfl rfl (by decide) ⟨rfl, by decide⟩ ?_
  refine q_mono (fun v s'' h'' => ?_) (q_typ_int (k := 219) rfl rfl h')
  obtain ⟨⟨-, hI'⟩, y, rfl⟩ := h''
  show q_W G 91 jm_law B 1354 (ws_ls i) [.int y] s''
  refine q_pop (pc' := 1355) ja_law_1354 rfl rfl ?_
  exact q_goto ja_law_1355 (kk s'' hI')
