/-! the law of a part: a turn of its loop, its loop, its start -/
theorem ws_in {i : Int32} {n : Nat} (k : Int32) (h0 : 0 ≤ i.toInt) (hL : n < 2 ^ 31) (h7 : i.toInt + 7 ≤ n) (hk : 0 ≤ k.toInt ∧ k.toInt ≤ 6) : jv_in (i + k) n = true := by
  have e : (i + k).toInt = i.toInt + k.toInt := by
    rw [Int32.toInt_add]
    exact Int.bmod_eq_of_le (by omega) (by omega)
  rw [i_in, e]
  omega
theorem wt_next {G : jv_X} {B : Option Value → jg_H → Prop} {s : jg_H} {i : Int32} (k : q_W G 91 jm_law B 18 (ws_ls (i + 7)) [] s) : q_W G 91 jm_law B 1358 (ws_ls i) [] s := by
  refine q_iinc (pc' := 1361) (x := i) (ls' := ws_ls (i + 7)) ja_law_1358 rfl rfl (i + 7) rfl ⟨Nat.le_of_ble_eq_true rfl, rfl⟩ rfl ?_
  exact q_goto ja_law_1361 k
theorem ws_offs {k : Nat} {o : Int} {x : Int32} (hx : x.toInt = k) (hk : k < 36) {offs : Array Int} (ho : offs[k]? = some o) : offs[(x.toInt - 0).toNat]? = some o := by
  rw [hx, show ((k : Int) - 0).toNat = k by omega]
  exact ho
theorem wt_case {G : jv_X} {B : Option Value → jg_H → Prop} {s : jg_H} {i : Int32} {R : jg_H → Prop} (o0 : ∀ (a : Int32), wt_H G R False 39 151 [.int a]) (o1 : ∀ (a : Int32) (b : Int32) (c : Int32), wt_H G R False 40 153 [.int a, .int b, .int c]) (o2 : ∀ (a : Int32) (b : Int32), (b = 0 ∨ b = 1) → wt_H G R False 45 156 [.int a, .int b]) (o3 : ∀ (a : Int32) (b : Int32), wt_H G R False 46 157 [.int a, .int b]) (o4 : ∀ (a : Int32), wt_H G R False 47 158 [.int a]) (o5 : ∀ (a : Int32) (b : Int32), wt_H G R False 48 159 [.int a, .int b]) (o6 : ∀ (a : Int32) (b : Int32), wt_H G R False 49 160 [.int a, .int b]) (o7 : wt_H G R False 50 161 []) (o8 : ∀ (a : Int32) (b : Int32), wt_H G R False 51 162 [.int a, .int b]) (o9 : ∀ (a : Int32) (b : Int32), wt_H G R False 58 164 [.int a, .int b]) (o10 : ∀ (a : Int32) (b : Int32), wt_H G R False 61 167 [.int a, .int b]) (o11 : ∀ (a : Int32) (b : Int32), wt_H G R False 63 168 [.int a, .int b]) (o12 : ∀ (a : Int32), wt_H G R False 65 171 [.int a]) (o13 : ∀ (a : Int32) (b : Int32), wt_H G R False 67 173 [.int a, .int b]) (o14 : wt_H G R False 68 174 []) (o15 : ∀ (a : Int32) (b : Int64), wt_H G R False 69 175 [.int a, .long b]) (o16 : wt_H G R False 70 176 []) (o17 : ∀ (a : Int32) (b : Int32) (c : Int32) (d : Int32) (e : Int32) (f : Int32), wt_H G R False 71 177 [.int a, .int b, .int c, .int d, .int e, .int f]) (o18 : ∀ (a : Int32) (b : Int32) (c : Int32) (d : Int32), wt_H G R False 80 186 [.int a, .int b, .int c, .int d]) (o19 : ∀ (a : Int32) (b : Int32) (c : Int32) (d : Int32), wt_H G R False 91 182 [.int a, .int b, .int c, .int d]) (o20 : wt_H G R False 92 189 []) (o21 : ∀ (a : Int32), wt_H G R False 101 200 [.int a]) (o22 : ∀ (a : Int32), wt_H G R False 102 201 [.int a]) (o23 : ∀ (a : Int32) (b : Int32), wt_H G R False 103 202 [.int a, .int b]) (o24 : wt_H G R False 104 203 []) (o25 : wt_H G R False 105 204 []) (o26 : ∀ (a : Int32) (b : Int32) (c : Int32), wt_H G R False 106 205 [.int a, .int b, .int c]) (o27 : ∀ (a : Int32) (b : Int32), wt_H G R False 107 206 [.int a, .int b]) (o28 : ∀ (a : Int32), wt_H G R False 114 209 [.int a]) (o29 : ∀ (a : Int32) (b : Int32), wt_H G R False 117 210 [.int a, .int b]) (o30 : ∀ (a : Int32) (b : Int32) (c : Int32), wt_H G R False 122 212 [.int a, .int b, .int c]) (o31 : ∀ (a : Int32), wt_H G R False 123 214 [.int a]) (o32 : ∀ (a : Int32) (b : Int32), wt_H G R False 124 215 [.int a, .int b]) (o33 : ∀ (a : Int32) (b : Int32) (c : Int32), wt_H G R True 127 217 [.int a, .int b, .int c]) (o34 : ∀ (a : Int32) (b : Int32), wt_H G R False 129 218 [.int a, .int b]) (o35 : ∀ (a : Int32) (b : Int32), wt_H G R False 130 219 [.int a, .int b]) (hR : R s) (h1 : jv_in (i + 1) G.1.1 = true) (h2 : jv_in (i + 2) G.1.1 = true) (h3 : jv_in (i + 3) G.1.1 = true) (h4 : jv_in (i + 4) G.1.1 = true) (h5 : jv_in (i + 5) G.1.1 = true) (h6 : jv_in (i + 6) G.1.1 = true) (kk : ∀ s', R s' → q_W G 91 jm_law B 1358 (ws_ls i) [] s') (x : Int32) : q_W G 91 jm_law B 33 (ws_ls i) [.int (x &&& 63)] s := by
  obtain ⟨k, hk, ek⟩ := pk_andE x (m := 63) 6 (by decide)
  have hx : (x &&& 63).toInt = k := by
    rw [ek]
    exact Int32.toInt_ofNat_of_lt (by omega)
  generalize x &&& 63 = y at hx ⊢
  by_cases h36 : 36 ≤ k
  · refine q_swOut (pc' := 1358) ja_law_33 (Or.inr (by rw [hx]; omega)) rfl (kk s hR)
  have hin : ¬ (y.toInt < 0 ∨ 35 < y.toInt) := by rw [hx]; omega
  rcases (show k = 0 ∨ k = 1 ∨ k = 2 ∨ k = 3 ∨ k = 4 ∨ k = 5 ∨ k = 6 ∨ k = 7 ∨ k = 8 ∨ k = 9 ∨ k = 10 ∨ k = 11 ∨ k = 12 ∨ k = 13 ∨ k = 14 ∨ k = 15 ∨ k = 16 ∨ k = 17 ∨ k = 18 ∨ k = 19 ∨ k = 20 ∨ k = 21 ∨ k = 22 ∨ k = 23 ∨ k = 24 ∨ k = 25 ∨ k = 26 ∨ k = 27 ∨ k = 28 ∨ k = 29 ∨ k = 30 ∨ k = 31 ∨ k = 32 ∨ k = 33 ∨ k = 34 ∨ k = 35 by omega) with rfl | rfl | rfl | rfl | rfl | rfl | rfl | rfl | rfl | rfl | rfl | rfl | rfl | rfl | rfl | rfl | rfl | rfl | rfl | rfl | rfl | rfl | rfl | rfl | rfl | rfl | rfl | rfl | rfl | rfl | rfl | rfl | rfl | rfl | rfl | rfl
  · exact q_swIn (pc' := 192) ja_law_33 hin (ws_offs hx (by decide) rfl) rfl (wt_op0 o0 hR h1 h2 h3 h4 h5 h6 kk)
  · exact q_swIn (pc' := 215) ja_law_33 hin (ws_offs hx (by decide) rfl) rfl (wt_op1 o1 hR h1 h2 h3 h4 h5 h6 kk)
  · exact q_swIn (pc' := 258) ja_law_33 hin (ws_offs hx (by decide) rfl) rfl (wt_op2 o2 hR h1 h2 h3 h4 h5 h6 kk)
  · exact q_swIn (pc' := 307) ja_law_33 hin (ws_offs hx (by decide) rfl) rfl (wt_op3 o3 hR h1 h2 h3 h4 h5 h6 kk)
  · exact q_swIn (pc' := 340) ja_law_33 hin (ws_offs hx (by decide) rfl) rfl (wt_op4 o4 hR h1 h2 h3 h4 h5 h6 kk)
  · exact q_swIn (pc' := 363) ja_law_33 hin (ws_offs hx (by decide) rfl) rfl (wt_op5 o5 hR h1 h2 h3 h4 h5 h6 kk)
  · exact q_swIn (pc' := 396) ja_law_33 hin (ws_offs hx (by decide) rfl) rfl (wt_op6 o6 hR h1 h2 h3 h4 h5 h6 kk)
  · exact q_swIn (pc' := 429) ja_law_33 hin (ws_offs hx (by decide) rfl) rfl (wt_op7 o7 hR h1 h2 h3 h4 h5 h6 kk)
  · exact q_swIn (pc' := 442) ja_law_33 hin (ws_offs hx (by decide) rfl) rfl (wt_op8 o8 hR h1 h2 h3 h4 h5 h6 kk)
  · exact q_swIn (pc' := 475) ja_law_33 hin (ws_offs hx (by decide) rfl) rfl (wt_op9 o9 hR h1 h2 h3 h4 h5 h6 kk)
  · exact q_swIn (pc' := 508) ja_law_33 hin (ws_offs hx (by decide) rfl) rfl (wt_op10 o10 hR h1 h2 h3 h4 h5 h6 kk)
  · exact q_swIn (pc' := 541) ja_law_33 hin (ws_offs hx (by decide) rfl) rfl (wt_op11 o11 hR h1 h2 h3 h4 h5 h6 kk)
  · exact q_swIn (pc' := 574) ja_law_33 hin (ws_offs hx (by decide) rfl) rfl (wt_op12 o12 hR h1 h2 h3 h4 h5 h6 kk)
  · exact q_swIn (pc' := 597) ja_law_33 hin (ws_offs hx (by decide) rfl) rfl (wt_op13 o13 hR h1 h2 h3 h4 h5 h6 kk)
  · exact q_swIn (pc' := 630) ja_law_33 hin (ws_offs hx (by decide) rfl) rfl (wt_op14 o14 hR h1 h2 h3 h4 h5 h6 kk)
  · exact q_swIn (pc' := 643) ja_law_33 hin (ws_offs hx (by decide) rfl) rfl (wt_op15 o15 hR h1 h2 h3 h4 h5 h6 kk)
  · exact q_swIn (pc' := 706) ja_law_33 hin (ws_offs hx (by decide) rfl) rfl (wt_op16 o16 hR h1 h2 h3 h4 h5 h6 kk)
  · exact q_swIn (pc' := 719) ja_law_33 hin (ws_offs hx (by decide) rfl) rfl (wt_op17 o17 hR h1 h2 h3 h4 h5 h6 kk)
  · exact q_swIn (pc' := 794) ja_law_33 hin (ws_offs hx (by decide) rfl) rfl (wt_op18 o18 hR h1 h2 h3 h4 h5 h6 kk)
  · exact q_swIn (pc' := 847) ja_law_33 hin (ws_offs hx (by decide) rfl) rfl (wt_op19 o19 hR h1 h2 h3 h4 h5 h6 kk)
  · exact q_swIn (pc' := 900) ja_law_33 hin (ws_offs hx (by decide) rfl) rfl (wt_op20 o20 hR h1 h2 h3 h4 h5 h6 kk)
  · exact q_swIn (pc' := 913) ja_law_33 hin (ws_offs hx (by decide) rfl) rfl (wt_op21 o21 hR h1 h2 h3 h4 h5 h6 kk)
  · exact q_swIn (pc' := 936) ja_law_33 hin (ws_offs hx (by decide) rfl) rfl (wt_op22 o22 hR h1 h2 h3 h4 h5 h6 kk)
  · exact q_swIn (pc' := 959) ja_law_33 hin (ws_offs hx (by decide) rfl) rfl (wt_op23 o23 hR h1 h2 h3 h4 h5 h6 kk)
  · exact q_swIn (pc' := 992) ja_law_33 hin (ws_offs hx (by decide) rfl) rfl (wt_op24 o24 hR h1 h2 h3 h4 h5 h6 kk)
  · exact q_swIn (pc' := 1005) ja_law_33 hin (ws_offs hx (by decide) rfl) rfl (wt_op25 o25 hR h1 h2 h3 h4 h5 h6 kk)
  · exact q_swIn (pc' := 1018) ja_law_33 hin (ws_offs hx (by decide) rfl) rfl (wt_op26 o26 hR h1 h2 h3 h4 h5 h6 kk)
  · exact q_swIn (pc' := 1061) ja_law_33 hin (ws_offs hx (by decide) rfl) rfl (wt_op27 o27 hR h1 h2 h3 h4 h5 h6 kk)
  · exact q_swIn (pc' := 1094) ja_law_33 hin (ws_offs hx (by decide) rfl) rfl (wt_op28 o28 hR h1 h2 h3 h4 h5 h6 kk)
  · exact q_swIn (pc' := 1117) ja_law_33 hin (ws_offs hx (by decide) rfl) rfl (wt_op29 o29 hR h1 h2 h3 h4 h5 h6 kk)
  · exact q_swIn (pc' := 1150) ja_law_33 hin (ws_offs hx (by decide) rfl) rfl (wt_op30 o30 hR h1 h2 h3 h4 h5 h6 kk)
  · exact q_swIn (pc' := 1193) ja_law_33 hin (ws_offs hx (by decide) rfl) rfl (wt_op31 o31 hR h1 h2 h3 h4 h5 h6 kk)
  · exact q_swIn (pc' := 1216) ja_law_33 hin (ws_offs hx (by decide) rfl) rfl (wt_op32 o32 hR h1 h2 h3 h4 h5 h6 kk)
  · exact q_swIn (pc' := 1249) ja_law_33 hin (ws_offs hx (by decide) rfl) rfl (wt_op33 o33 hR h1 h2 h3 h4 h5 h6 kk)
  · exact q_swIn (pc' := 1292) ja_law_33 hin (ws_offs hx (by decide) rfl) rfl (wt_op34 o34 hR h1 h2 h3 h4 h5 h6 kk)
  · exact q_swIn (pc' := 1325) ja_law_33 hin (ws_offs hx (by decide) rfl) rfl (wt_op35 o35 hR h1 h2 h3 h4 h5 h6 kk)
theorem wt_turn {G : jv_X} {B : Option Value → jg_H → Prop} {s : jg_H} {i : Int32} (hL : G.1.1 < 2 ^ 31) (h0 : 0 ≤ i.toInt) (hi : i.toInt ≤ G.1.1) {R : jg_H → Prop} (o0 : ∀ (a : Int32), wt_H G R False 39 151 [.int a]) (o1 : ∀ (a : Int32) (b : Int32) (c : Int32), wt_H G R False 40 153 [.int a, .int b, .int c]) (o2 : ∀ (a : Int32) (b : Int32), (b = 0 ∨ b = 1) → wt_H G R False 45 156 [.int a, .int b]) (o3 : ∀ (a : Int32) (b : Int32), wt_H G R False 46 157 [.int a, .int b]) (o4 : ∀ (a : Int32), wt_H G R False 47 158 [.int a]) (o5 : ∀ (a : Int32) (b : Int32), wt_H G R False 48 159 [.int a, .int b]) (o6 : ∀ (a : Int32) (b : Int32), wt_H G R False 49 160 [.int a, .int b]) (o7 : wt_H G R False 50 161 []) (o8 : ∀ (a : Int32) (b : Int32), wt_H G R False 51 162 [.int a, .int b]) (o9 : ∀ (a : Int32) (b : Int32), wt_H G R False 58 164 [.int a, .int b]) (o10 : ∀ (a : Int32) (b : Int32), wt_H G R False 61 167 [.int a, .int b]) (o11 : ∀ (a : Int32) (b : Int32), wt_H G R False 63 168 [.int a, .int b]) (o12 : ∀ (a : Int32), wt_H G R False 65 171 [.int a]) (o13 : ∀ (a : Int32) (b : Int32), wt_H G R False 67 173 [.int a, .int b]) (o14 : wt_H G R False 68 174 []) (o15 : ∀ (a : Int32) (b : Int64), wt_H G R False 69 175 [.int a, .long b]) (o16 : wt_H G R False 70 176 []) (o17 : ∀ (a : Int32) (b : Int32) (c : Int32) (d : Int32) (e : Int32) (f : Int32), wt_H G R False 71 177 [.int a, .int b, .int c, .int d, .int e, .int f]) (o18 : ∀ (a : Int32) (b : Int32) (c : Int32) (d : Int32), wt_H G R False 80 186 [.int a, .int b, .int c, .int d]) (o19 : ∀ (a : Int32) (b : Int32) (c : Int32) (d : Int32), wt_H G R False 91 182 [.int a, .int b, .int c, .int d]) (o20 : wt_H G R False 92 189 []) (o21 : ∀ (a : Int32), wt_H G R False 101 200 [.int a]) (o22 : ∀ (a : Int32), wt_H G R False 102 201 [.int a]) (o23 : ∀ (a : Int32) (b : Int32), wt_H G R False 103 202 [.int a, .int b]) (o24 : wt_H G R False 104 203 []) (o25 : wt_H G R False 105 204 []) (o26 : ∀ (a : Int32) (b : Int32) (c : Int32), wt_H G R False 106 205 [.int a, .int b, .int c]) (o27 : ∀ (a : Int32) (b : Int32), wt_H G R False 107 206 [.int a, .int b]) (o28 : ∀ (a : Int32), wt_H G R False 114 209 [.int a]) (o29 : ∀ (a : Int32) (b : Int32), wt_H G R False 117 210 [.int a, .int b]) (o30 : ∀ (a : Int32) (b : Int32) (c : Int32), wt_H G R False 122 212 [.int a, .int b, .int c]) (o31 : ∀ (a : Int32), wt_H G R False 123 214 [.int a]) (o32 : ∀ (a : Int32) (b : Int32), wt_H G R False 124 215 [.int a, .int b]) (o33 : ∀ (a : Int32) (b : Int32) (c : Int32), wt_H G R True 127 217 [.int a, .int b, .int c]) (o34 : ∀ (a : Int32) (b : Int32), wt_H G R False 129 218 [.int a, .int b]) (o35 : ∀ (a : Int32) (b : Int32), wt_H G R False 130 219 [.int a, .int b]) (hR : R s) (hB : B (some (.int 1)) s) (kk : i.toInt + 7 ≤ G.1.1 → ∀ s', R s' → q_W G 91 jm_law B 18 (ws_ls (i + 7)) [] s') : q_W G 91 jm_law B 18 (ws_ls i) [] s := by
  have eL : (Int32.ofNat G.1.1).toInt = G.1.1 := Int32.toInt_ofNat_of_lt hL
  have e7 : (Int32.ofNat G.1.1 - 7).toInt = (G.1.1 : Int) - 7 := by
    rw [Int32.toInt_sub, eL]
    exact Int.bmod_eq_of_le (by show -2147483648 ≤ (G.1.1 : Int) - 7; omega) (by show (G.1.1 : Int) - 7 < 2147483648; omega)
  refine q_iload_n (pc' := 19) (x := i) ja_law_18 rfl rfl ?_
  refine q_aload_n (pc' := 20) (x := 1000000) ja_law_19 rfl rfl ?_
  refine q_slen (pc' := 21) ja_law_20 rfl ?_
  refine q_bipush (pc' := 23) ja_law_21 rfl 7 (by decide) ?_
  refine q_isub (pc' := 24) ja_law_23 rfl ?_
  refine q_ic_gt (pc' := 27) ja_law_24 rfl (fun _ => ?_) (fun hle => ?_)
  · refine q_iconst (pc' := 1365) ja_law_1364 rfl 1 (by decide) ?_
    exact q_iret ja_law_1365 rfl (by decide) hB
  · rw [i_le, e7] at hle
    have h7 : i.toInt + 7 ≤ G.1.1 := by omega
    refine q_aload_n (pc' := 28) (x := 1000000) ja_law_27 rfl rfl ?_
    refine q_iload_n (pc' := 29) (x := i) ja_law_28 rfl rfl ?_
    refine q_sald (pc' := 30) ja_law_29 rfl (by rw [i_in]; omega) ?_
    refine q_bipush (pc' := 32) ja_law_30 rfl 63 (by decide) ?_
    refine q_iand (pc' := 33) ja_law_32 rfl ?_
    exact wt_case o0 o1 o2 o3 o4 o5 o6 o7 o8 o9 o10 o11 o12 o13 o14 o15 o16 o17 o18 o19 o20 o21 o22 o23 o24 o25 o26 o27 o28 o29 o30 o31 o32 o33 o34 o35 hR (ws_in 1 h0 hL h7 (by decide)) (ws_in 2 h0 hL h7 (by decide)) (ws_in 3 h0 hL h7 (by decide)) (ws_in 4 h0 hL h7 (by decide)) (ws_in 5 h0 hL h7 (by decide)) (ws_in 6 h0 hL h7 (by decide)) (fun s' hI' => wt_next (kk h7 s' hI')) _
theorem wt_loop {G : jv_X} (hL : G.1.1 < 2 ^ 31) {R : jg_H → Prop} (o0 : ∀ (a : Int32), wt_H G R False 39 151 [.int a]) (o1 : ∀ (a : Int32) (b : Int32) (c : Int32), wt_H G R False 40 153 [.int a, .int b, .int c]) (o2 : ∀ (a : Int32) (b : Int32), (b = 0 ∨ b = 1) → wt_H G R False 45 156 [.int a, .int b]) (o3 : ∀ (a : Int32) (b : Int32), wt_H G R False 46 157 [.int a, .int b]) (o4 : ∀ (a : Int32), wt_H G R False 47 158 [.int a]) (o5 : ∀ (a : Int32) (b : Int32), wt_H G R False 48 159 [.int a, .int b]) (o6 : ∀ (a : Int32) (b : Int32), wt_H G R False 49 160 [.int a, .int b]) (o7 : wt_H G R False 50 161 []) (o8 : ∀ (a : Int32) (b : Int32), wt_H G R False 51 162 [.int a, .int b]) (o9 : ∀ (a : Int32) (b : Int32), wt_H G R False 58 164 [.int a, .int b]) (o10 : ∀ (a : Int32) (b : Int32), wt_H G R False 61 167 [.int a, .int b]) (o11 : ∀ (a : Int32) (b : Int32), wt_H G R False 63 168 [.int a, .int b]) (o12 : ∀ (a : Int32), wt_H G R False 65 171 [.int a]) (o13 : ∀ (a : Int32) (b : Int32), wt_H G R False 67 173 [.int a, .int b]) (o14 : wt_H G R False 68 174 []) (o15 : ∀ (a : Int32) (b : Int64), wt_H G R False 69 175 [.int a, .long b]) (o16 : wt_H G R False 70 176 []) (o17 : ∀ (a : Int32) (b : Int32) (c : Int32) (d : Int32) (e : Int32) (f : Int32), wt_H G R False 71 177 [.int a, .int b, .int c, .int d, .int e, .int f]) (o18 : ∀ (a : Int32) (b : Int32) (c : Int32) (d : Int32), wt_H G R False 80 186 [.int a, .int b, .int c, .int d]) (o19 : ∀ (a : Int32) (b : Int32) (c : Int32) (d : Int32), wt_H G R False 91 182 [.int a, .int b, .int c, .int d]) (o20 : wt_H G R False 92 189 []) (o21 : ∀ (a : Int32), wt_H G R False 101 200 [.int a]) (o22 : ∀ (a : Int32), wt_H G R False 102 201 [.int a]) (o23 : ∀ (a : Int32) (b : Int32), wt_H G R False 103 202 [.int a, .int b]) (o24 : wt_H G R False 104 203 []) (o25 : wt_H G R False 105 204 []) (o26 : ∀ (a : Int32) (b : Int32) (c : Int32), wt_H G R False 106 205 [.int a, .int b, .int c]) (o27 : ∀ (a : Int32) (b : Int32), wt_H G R False 107 206 [.int a, .int b]) (o28 : ∀ (a : Int32), wt_H G R False 114 209 [.int a]) (o29 : ∀ (a : Int32) (b : Int32), wt_H G R False 117 210 [.int a, .int b]) (o30 : ∀ (a : Int32) (b : Int32) (c : Int32), wt_H G R False 122 212 [.int a, .int b, .int c]) (o31 : ∀ (a : Int32), wt_H G R False 123 214 [.int a]) (o32 : ∀ (a : Int32) (b : Int32), wt_H G R False 124 215 [.int a, .int b]) (o33 : ∀ (a : Int32) (b : Int32) (c : Int32), wt_H G R True 127 217 [.int a, .int b, .int c]) (o34 : ∀ (a : Int32) (b : Int32), wt_H G R False 129 218 [.int a, .int b]) (o35 : ∀ (a : Int32) (b : Int32), wt_H G R False 130 219 [.int a, .int b]) : ∀ (n : Nat) (i : Int32) (s : jg_H), 0 ≤ i.toInt → i.toInt ≤ G.1.1 → G.1.1 < i.toInt + n → R s → q_W G 91 jm_law (fun w _ => w = some (.int 1)) 18 (ws_ls i) [] s
  | 0, i, s, h0, hi, hn, hR => absurd hn (by omega)
  | n + 1, i, s, h0, hi, hn, hR => wt_turn hL h0 hi o0 o1 o2 o3 o4 o5 o6 o7 o8 o9 o10 o11 o12 o13 o14 o15 o16 o17 o18 o19 o20 o21 o22 o23 o24 o25 o26 o27 o28 o29 o30 o31 o32 o33 o34 o35 hR rfl (fun h7 s' hI' => by
    have e : (i + 7).toInt = i.toInt + 7 := by
      rw [Int32.toInt_add]
      exact Int.bmod_eq_of_le (by show -2147483648 ≤ i.toInt + 7; omega) (by show i.toInt + 7 < 2147483648; omega)
    exact wt_loop hL o0 o1 o2 o3 o4 o5 o6 o7 o8 o9 o10 o11 o12 o13 o14 o15 o16 o17 o18 o19 o20 o21 o22 o23 o24 o25 o26 o27 o28 o29 o30 o31 o32 o33 o34 o35 n (i + 7) s' (by omega) (by omega) (by omega) hI')
theorem wt_drop {G : jv_X} {R : jg_H → Prop} {kC kM : Nat} {as : List Value} (h : wt_H G R True kC kM as) : wt_H G R False kC kM as := fun s hR => q_mono (fun v s' q => q_mono (fun v' s'' g => ⟨fun z => z.elim, g.2⟩) q) (h s hR)
theorem wt_R0 : wt_R (jg_of jc_M13.2) := by
  have h := ws_inv
  refine ⟨⟨_, h, fun _ _ _ => rfl, fun _ _ => (by decide +kernel : (jg_of jc_M13.2 117 8).toNatClampNeg < 146)⟩, ⟨_, h, lz_HM fun _ _ _ => rfl⟩, h.1.1, h.2.1.1, h.2.2.2.2.2.2.2.1.1⟩
theorem wu_R0 : wu_R (jg_of jc_M13.2) := by
  have h := ws_inv
  exact ⟨wt_R0.1, wt_R0.2.1, h.1, h.2.2.2.2.2.2.2.2.1⟩
/-- the law from its entry -/
theorem wt_all {p : Program} {e : Env} {s : State} {m : MethodId} {below : List Frame} {meth : Method} {c : Code} (l : Launch) {b L : Nat} {xs : Nat → Int32} (hL : L ≤ 3584) (C0 : lw_At p s m meth c b L xs) : W p l e room_1 s m #[Value.ref b] below meth c s.heap [] 0 0 (lw_Z below #[Value.ref b] s) (entryFrame m ([Value.ref b] : List Value).toArray 4) :=
  ws_law l hL C0 (fun v hG => ws_We (wt_loop (G := ((L, xs), v)) (show L < 2 ^ 31 by omega) (R := wu_R)
    (fun a => wt_drop (wu_mem hG (fun A => (lz_ci zz_n)) (fun u hI => st_member (G := ((L, xs), v)) (d := 89) hI a) (fun u hI => sm_member (G := ((L, xs), v)) (d := 89) hI a) (by decide) (by decide)))
    (fun a b c => wt_drop (wu_mem hG (fun A => (lz_ci (lz_ci (lz_ci zz_n)))) (fun u hI => st_like (G := ((L, xs), v)) (d := 88) hI a b c) (fun u hI => sm_like (G := ((L, xs), v)) (d := 88) hI a b c) (by decide) (by decide)))
    (fun a b hb => wt_drop (wu_mem hG (fun A => (lz_ci (lz_ci zz_n))) (fun u hI => st_comes (G := ((L, xs), v)) (d := 88) hI a b hb) (fun u hI => sm_comes (G := ((L, xs), v)) (d := 88) hI a b hb) (by decide) (by decide)))
    (fun a b => wt_drop (wu_mem hG (fun A => (lz_ci (lz_ci zz_n))) (fun u hI => st_pair (G := ((L, xs), v)) (d := 88) hI a b) (fun u hI => sm_pair (G := ((L, xs), v)) (d := 88) hI a b) (by decide) (by decide)))
    (fun a => wt_drop (wu_mem hG (fun A => (lz_ci zz_n)) (fun u hI => st_part (G := ((L, xs), v)) (d := 88) hI a) (fun u hI => sm_part (G := ((L, xs), v)) (d := 88) hI a) (by decide) (by decide)))
    (fun a b => wt_drop (wu_mem hG (fun A => (lz_ci (lz_ci zz_n))) (fun u hI => st_ask (G := ((L, xs), v)) (d := 88) hI a b) (fun u hI => sm_ask (G := ((L, xs), v)) (d := 88) hI a b) (by decide) (by decide)))
    (fun a b => wt_drop (wu_mem hG (fun A => (lz_ci (lz_ci zz_n))) (fun u hI => st_memberTold (G := ((L, xs), v)) (d := 88) hI a b) (fun u hI => sm_memberTold (G := ((L, xs), v)) (d := 88) hI a b) (by decide) (by decide)))
    (wu_st hG (fun A => zz_n) (fun u hI => st_bill (G := ((L, xs), v)) (d := 90) hI) (by decide) (by decide) (by decide) (by decide))
    (fun a b => wu_st hG (fun A => (lz_ci (lz_ci zz_n))) (fun u hI => st_section (G := ((L, xs), v)) (d := 88) hI a b) (by decide) (by decide) (by decide) (by decide))
    (fun a b => wu_st hG (fun A => (lz_ci (lz_ci zz_n))) (fun u hI => st_billTold (G := ((L, xs), v)) (d := 88) hI a b) (by decide) (by decide) (by decide) (by decide))
    (fun a b => wu_st hG (fun A => (lz_ci (lz_ci zz_n))) (fun u hI => st_word (G := ((L, xs), v)) (d := 88) hI a b) (by decide) (by decide) (by decide) (by decide))
    (fun a b => wu_st hG (fun A => (lz_ci (lz_ci zz_n))) (fun u hI => st_worth (G := ((L, xs), v)) (d := 88) hI a b) (by decide) (by decide) (by decide) (by decide))
    (fun a => wu_st hG (fun A => (lz_ci zz_n)) (fun u hI => st_report (G := ((L, xs), v)) (d := 88) hI a) (by decide) (by decide) (by decide) (by decide))
    (fun a b => wu_st hG (fun A => (lz_ci (lz_ci zz_n))) (fun u hI => st_sign (G := ((L, xs), v)) (d := 88) hI a b) (by decide) (by decide) (by decide) (by decide))
    (wu_st hG (fun A => zz_n) (fun u hI => st_call (G := ((L, xs), v)) (d := 89) hI) (by decide) (by decide) (by decide) (by decide))
    (fun a b => wu_st hG (fun A => (lz_ci (lz_cl zz_n))) (fun u hI => st_feed (G := ((L, xs), v)) (d := 89) hI a b) (by decide) (by decide) (by decide) (by decide))
    (wu_text hG)
    (fun a b c d e f => wu_st hG (fun A => (lz_ci (lz_ci (lz_ci (lz_ci (lz_ci (lz_ci zz_n))))))) (fun u hI => st_says (G := ((L, xs), v)) (d := 87) hI a b c d e f) (by decide) (by decide) (by decide) (by decide))
    (fun a b c d => wu_st hG (fun A => (lz_ci (lz_ci (lz_ci (lz_ci zz_n))))) (fun u hI => st_act (G := ((L, xs), v)) (d := 84) hI a b c d) (by decide) (by decide) (by decide) (by decide))
    (fun a b c d => wu_st hG (fun A => (lz_ci (lz_ci (lz_ci (lz_ci zz_n))))) (fun u hI => st_why (G := ((L, xs), v)) (d := 85) hI a b c d) (by decide) (by decide) (by decide) (by decide))
    (wu_st hG (fun A => zz_n) (fun u hI => st_vote (G := ((L, xs), v)) (d := 85) hI) (by decide) (by decide) (by decide) (by decide))
    (fun a => wu_st hG (fun A => (lz_ci zz_n)) (fun u hI => st_voted (G := ((L, xs), v)) (d := 90) hI a) (by decide) (by decide) (by decide) (by decide))
    (fun a => wu_st hG (fun A => (lz_ci zz_n)) (fun u hI => st_would (G := ((L, xs), v)) (d := 85) hI a) (by decide) (by decide) (by decide) (by decide))
    (fun a b => wu_st hG (fun A => (lz_ci (lz_ci zz_n))) (fun u hI => st_motion (G := ((L, xs), v)) (d := 85) hI a b) (by decide) (by decide) (by decide) (by decide))
    (wu_st hG (fun A => zz_n) (fun u hI => st_yield (G := ((L, xs), v)) (d := 90) hI) (by decide) (by decide) (by decide) (by decide))
    (wu_st hG (fun A => zz_n) (fun u hI => st_day (G := ((L, xs), v)) (d := 90) hI) (by decide) (by decide) (by decide) (by decide))
    (fun a b c => wu_st hG (fun A => (lz_ci (lz_ci (lz_ci zz_n)))) (fun u hI => st_tell (G := ((L, xs), v)) (d := 88) hI a b c) (by decide) (by decide) (by decide) (by decide))
    (fun a b => wu_st hG (fun A => (lz_ci (lz_ci zz_n))) (fun u hI => st_foresee (G := ((L, xs), v)) (d := 84) hI a b) (by decide) (by decide) (by decide) (by decide))
    (fun a => wu_st hG (fun A => (lz_ci zz_n)) (fun u hI => st_best (G := ((L, xs), v)) (d := 78) hI a) (by decide) (by decide) (by decide) (by decide))
    (fun a b => wu_st hG (fun A => (lz_ci (lz_ci zz_n))) (fun u hI => st_confer (G := ((L, xs), v)) (d := 86) hI a b) (by decide) (by decide) (by decide) (by decide))
    (fun a b c => wu_st hG (fun A => (lz_ci (lz_ci (lz_ci zz_n)))) (fun u hI => st_conferred (G := ((L, xs), v)) (d := 86) hI a b c) (by decide) (by decide) (by decide) (by decide))
    (fun a => wu_st hG (fun A => (lz_ci zz_n)) (fun u hI => st_count (G := ((L, xs), v)) (d := 89) hI a) (by decide) (by decide) (by decide) (by decide))
    (fun a b => wt_drop (wu_try hG (fun A => (lz_ci (lz_ci zz_n))) (fun u hI => st_tray (G := ((L, xs), v)) (d := 88) hI a b) (fun u hI => sm_tray (G := ((L, xs), v)) (d := 88) hI a b) (by decide) (by decide)))
    (fun a b c => wu_try hG (fun A => (lz_ci (lz_ci (lz_ci zz_n)))) (fun u hI => st_cell (G := ((L, xs), v)) (d := 88) hI a b c) (fun u hI => sm_cell (G := ((L, xs), v)) (d := 88) hI a b c) (by decide) (by decide))
    (fun a b => wu_st hG (fun A => (lz_ci (lz_ci zz_n))) (fun u hI => st_made (G := ((L, xs), v)) (d := 83) hI a b) (by decide) (by decide) (by decide) (by decide))
    (fun a b => wu_st hG (fun A => (lz_ci (lz_ci zz_n))) (fun u hI => st_taken (G := ((L, xs), v)) (d := 88) hI a b) (by decide) (by decide) (by decide) (by decide))
    3585 0 (jg_of jc_M13.2) (by decide) (show (0 : Int32).toInt ≤ (L : Int) by have : (0 : Int32).toInt = 0 := rfl; omega) (show (L : Int) < (0 : Int32).toInt + (3585 : Nat) by have : (0 : Int32).toInt = 0 := rfl; omega) wu_R0))
