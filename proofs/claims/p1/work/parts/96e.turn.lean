theorem ws_in {i : Int32} {n : Nat} (k : Int32) (h0 : 0 ≤ i.toInt) (hL : n < 2 ^ 31) (h7 : i.toInt + 7 ≤ n) (hk : 0 ≤ k.toInt ∧ k.toInt ≤ 6) : jv_in (i + k) n = true := by
  have e : (i + k).toInt = i.toInt + k.toInt := by
    rw [Int32.toInt_add]
    exact Int.bmod_eq_of_le (by omega) (by omega)
  rw [i_in, e]
  omega
theorem ws_next {G : jv_X} {B : Option Value → jg_H → Prop} {s : jg_H} {i : Int32} (k : q_W G 91 jm_law B 18 (ws_ls (i + 7)) [] s) : q_W G 91 jm_law B 1361 (ws_ls i) [] s := by
  refine q_iinc (pc' := 1364) (x := i) (ls' := ws_ls (i + 7)) ja_law_1361 rfl rfl (i + 7) rfl ⟨Nat.le_of_ble_eq_true rfl, rfl⟩ rfl ?_
  exact q_goto ja_law_1364 k
theorem ws_offs {k : Nat} {o : Int} {x : Int32} (hx : x.toInt = k) (hk : k < 36) {offs : Array Int} (ho : offs[k]? = some o) : offs[(x.toInt - 0).toNat]? = some o := by
  rw [hx, show ((k : Int) - 0).toNat = k by omega]
  exact ho
/-- one turn of the law's loop, where a call of text answers alike -/
theorem ws_case {G : jv_X} {B : Option Value → jg_H → Prop} {s : jg_H} {i : Int32} {R : jg_H → Prop} (hR : ∀ s, Inv s → R s) (hI : Inv s) (h1 : jv_in (i + 1) G.1.1 = true) (h2 : jv_in (i + 2) G.1.1 = true) (h3 : jv_in (i + 3) G.1.1 = true) (h4 : jv_in (i + 4) G.1.1 = true) (h5 : jv_in (i + 5) G.1.1 = true) (h6 : jv_in (i + 6) G.1.1 = true)
    (htext : q_P G 91 70 [.ref 0] s (fun r s' => q_P G 91 176 [.ref 146] s' (fun r' s'' => r = r' ∧ R s''))) (kk : ∀ s', R s' → q_W G 91 jm_law B 1361 (ws_ls i) [] s') (x : Int32) : q_W G 91 jm_law B 33 (ws_ls i) [.int (x &&& 63)] s := by
  obtain ⟨k, hk, ek⟩ := pk_andE x (m := 63) 6 (by decide)
  have hx : (x &&& 63).toInt = k := by
    rw [ek]
    exact Int32.toInt_ofNat_of_lt (by omega)
  generalize x &&& 63 = y at hx ⊢
  by_cases h36 : 36 ≤ k
  · refine q_swOut (pc' := 1361) ja_law_33 (Or.inr (by rw [hx]; omega)) rfl (kk s (hR s hI))
  have hin : ¬ (y.toInt < 0 ∨ 35 < y.toInt) := by rw [hx]; omega
  rcases (show k = 0 ∨ k = 1 ∨ k = 2 ∨ k = 3 ∨ k = 4 ∨ k = 5 ∨ k = 6 ∨ k = 7 ∨ k = 8 ∨ k = 9 ∨ k = 10 ∨ k = 11 ∨ k = 12 ∨ k = 13 ∨ k = 14 ∨ k = 15 ∨ k = 16 ∨ k = 17 ∨ k = 18 ∨ k = 19 ∨ k = 20 ∨ k = 21 ∨ k = 22 ∨ k = 23 ∨ k = 24 ∨ k = 25 ∨ k = 26 ∨ k = 27 ∨ k = 28 ∨ k = 29 ∨ k = 30 ∨ k = 31 ∨ k = 32 ∨ k = 33 ∨ k = 34 ∨ k = 35 by omega) with rfl | rfl | rfl | rfl | rfl | rfl | rfl | rfl | rfl | rfl | rfl | rfl | rfl | rfl | rfl | rfl | rfl | rfl | rfl | rfl | rfl | rfl | rfl | rfl | rfl | rfl | rfl | rfl | rfl | rfl | rfl | rfl | rfl | rfl | rfl | rfl
  · exact q_swIn (pc' := 192) ja_law_33 hin (ws_offs hx (by decide) rfl) rfl (ws_op0 hI h1 h2 h3 h4 h5 h6 (fun s' q => kk s' (hR s' q)))
  · exact q_swIn (pc' := 215) ja_law_33 hin (ws_offs hx (by decide) rfl) rfl (ws_op1 hI h1 h2 h3 h4 h5 h6 (fun s' q => kk s' (hR s' q)))
  · exact q_swIn (pc' := 258) ja_law_33 hin (ws_offs hx (by decide) rfl) rfl (ws_op2 hI h1 h2 h3 h4 h5 h6 (fun s' q => kk s' (hR s' q)))
  · exact q_swIn (pc' := 307) ja_law_33 hin (ws_offs hx (by decide) rfl) rfl (ws_op3 hI h1 h2 h3 h4 h5 h6 (fun s' q => kk s' (hR s' q)))
  · exact q_swIn (pc' := 340) ja_law_33 hin (ws_offs hx (by decide) rfl) rfl (ws_op4 hI h1 h2 h3 h4 h5 h6 (fun s' q => kk s' (hR s' q)))
  · exact q_swIn (pc' := 363) ja_law_33 hin (ws_offs hx (by decide) rfl) rfl (ws_op5 hI h1 h2 h3 h4 h5 h6 (fun s' q => kk s' (hR s' q)))
  · exact q_swIn (pc' := 396) ja_law_33 hin (ws_offs hx (by decide) rfl) rfl (ws_op6 hI h1 h2 h3 h4 h5 h6 (fun s' q => kk s' (hR s' q)))
  · exact q_swIn (pc' := 429) ja_law_33 hin (ws_offs hx (by decide) rfl) rfl (ws_op7 hI h1 h2 h3 h4 h5 h6 (fun s' q => kk s' (hR s' q)))
  · exact q_swIn (pc' := 442) ja_law_33 hin (ws_offs hx (by decide) rfl) rfl (ws_op8 hI h1 h2 h3 h4 h5 h6 (fun s' q => kk s' (hR s' q)))
  · exact q_swIn (pc' := 475) ja_law_33 hin (ws_offs hx (by decide) rfl) rfl (ws_op9 hI h1 h2 h3 h4 h5 h6 (fun s' q => kk s' (hR s' q)))
  · exact q_swIn (pc' := 508) ja_law_33 hin (ws_offs hx (by decide) rfl) rfl (ws_op10 hI h1 h2 h3 h4 h5 h6 (fun s' q => kk s' (hR s' q)))
  · exact q_swIn (pc' := 541) ja_law_33 hin (ws_offs hx (by decide) rfl) rfl (ws_op11 hI h1 h2 h3 h4 h5 h6 (fun s' q => kk s' (hR s' q)))
  · exact q_swIn (pc' := 575) ja_law_33 hin (ws_offs hx (by decide) rfl) rfl (ws_op12 hI h1 h2 h3 h4 h5 h6 (fun s' q => kk s' (hR s' q)))
  · exact q_swIn (pc' := 598) ja_law_33 hin (ws_offs hx (by decide) rfl) rfl (ws_op13 hI h1 h2 h3 h4 h5 h6 (fun s' q => kk s' (hR s' q)))
  · exact q_swIn (pc' := 631) ja_law_33 hin (ws_offs hx (by decide) rfl) rfl (ws_op14 hI h1 h2 h3 h4 h5 h6 (fun s' q => kk s' (hR s' q)))
  · exact q_swIn (pc' := 644) ja_law_33 hin (ws_offs hx (by decide) rfl) rfl (ws_op15 hI h1 h2 h3 h4 h5 h6 (fun s' q => kk s' (hR s' q)))
  · exact q_swIn (pc' := 707) ja_law_33 hin (ws_offs hx (by decide) rfl) rfl (ws_op16 h1 h2 h3 h4 h5 h6 kk htext)
  · exact q_swIn (pc' := 720) ja_law_33 hin (ws_offs hx (by decide) rfl) rfl (ws_op17 hI h1 h2 h3 h4 h5 h6 (fun s' q => kk s' (hR s' q)))
  · exact q_swIn (pc' := 796) ja_law_33 hin (ws_offs hx (by decide) rfl) rfl (ws_op18 hI h1 h2 h3 h4 h5 h6 (fun s' q => kk s' (hR s' q)))
  · exact q_swIn (pc' := 849) ja_law_33 hin (ws_offs hx (by decide) rfl) rfl (ws_op19 hI h1 h2 h3 h4 h5 h6 (fun s' q => kk s' (hR s' q)))
  · exact q_swIn (pc' := 902) ja_law_33 hin (ws_offs hx (by decide) rfl) rfl (ws_op20 hI h1 h2 h3 h4 h5 h6 (fun s' q => kk s' (hR s' q)))
  · exact q_swIn (pc' := 915) ja_law_33 hin (ws_offs hx (by decide) rfl) rfl (ws_op21 hI h1 h2 h3 h4 h5 h6 (fun s' q => kk s' (hR s' q)))
  · exact q_swIn (pc' := 938) ja_law_33 hin (ws_offs hx (by decide) rfl) rfl (ws_op22 hI h1 h2 h3 h4 h5 h6 (fun s' q => kk s' (hR s' q)))
  · exact q_swIn (pc' := 961) ja_law_33 hin (ws_offs hx (by decide) rfl) rfl (ws_op23 hI h1 h2 h3 h4 h5 h6 (fun s' q => kk s' (hR s' q)))
  · exact q_swIn (pc' := 994) ja_law_33 hin (ws_offs hx (by decide) rfl) rfl (ws_op24 hI h1 h2 h3 h4 h5 h6 (fun s' q => kk s' (hR s' q)))
  · exact q_swIn (pc' := 1007) ja_law_33 hin (ws_offs hx (by decide) rfl) rfl (ws_op25 hI h1 h2 h3 h4 h5 h6 (fun s' q => kk s' (hR s' q)))
  · exact q_swIn (pc' := 1020) ja_law_33 hin (ws_offs hx (by decide) rfl) rfl (ws_op26 hI h1 h2 h3 h4 h5 h6 (fun s' q => kk s' (hR s' q)))
  · exact q_swIn (pc' := 1063) ja_law_33 hin (ws_offs hx (by decide) rfl) rfl (ws_op27 hI h1 h2 h3 h4 h5 h6 (fun s' q => kk s' (hR s' q)))
  · exact q_swIn (pc' := 1097) ja_law_33 hin (ws_offs hx (by decide) rfl) rfl (ws_op28 hI h1 h2 h3 h4 h5 h6 (fun s' q => kk s' (hR s' q)))
  · exact q_swIn (pc' := 1120) ja_law_33 hin (ws_offs hx (by decide) rfl) rfl (ws_op29 hI h1 h2 h3 h4 h5 h6 (fun s' q => kk s' (hR s' q)))
  · exact q_swIn (pc' := 1153) ja_law_33 hin (ws_offs hx (by decide) rfl) rfl (ws_op30 hI h1 h2 h3 h4 h5 h6 (fun s' q => kk s' (hR s' q)))
  · exact q_swIn (pc' := 1196) ja_law_33 hin (ws_offs hx (by decide) rfl) rfl (ws_op31 hI h1 h2 h3 h4 h5 h6 (fun s' q => kk s' (hR s' q)))
  · exact q_swIn (pc' := 1219) ja_law_33 hin (ws_offs hx (by decide) rfl) rfl (ws_op32 hI h1 h2 h3 h4 h5 h6 (fun s' q => kk s' (hR s' q)))
  · exact q_swIn (pc' := 1252) ja_law_33 hin (ws_offs hx (by decide) rfl) rfl (ws_op33 hI h1 h2 h3 h4 h5 h6 (fun s' q => kk s' (hR s' q)))
  · exact q_swIn (pc' := 1295) ja_law_33 hin (ws_offs hx (by decide) rfl) rfl (ws_op34 hI h1 h2 h3 h4 h5 h6 (fun s' q => kk s' (hR s' q)))
  · exact q_swIn (pc' := 1328) ja_law_33 hin (ws_offs hx (by decide) rfl) rfl (ws_op35 hI h1 h2 h3 h4 h5 h6 (fun s' q => kk s' (hR s' q)))
theorem ws_turn {G : jv_X} {B : Option Value → jg_H → Prop} {s : jg_H} {i : Int32} (hL : G.1.1 < 2 ^ 31) (h0 : 0 ≤ i.toInt) (hi : i.toInt ≤ G.1.1) {R : jg_H → Prop} (hR : ∀ s, Inv s → R s) (hI : Inv s) (hB : B (some (.int 1)) s)
    (htext : q_P G 91 70 [.ref 0] s (fun r s' => q_P G 91 176 [.ref 146] s' (fun r' s'' => r = r' ∧ R s''))) (kk : i.toInt + 7 ≤ G.1.1 → ∀ s', R s' → q_W G 91 jm_law B 18 (ws_ls (i + 7)) [] s') : q_W G 91 jm_law B 18 (ws_ls i) [] s := by
  have eL : (Int32.ofNat G.1.1).toInt = G.1.1 := Int32.toInt_ofNat_of_lt hL
  have e7 : (Int32.ofNat G.1.1 - 7).toInt = (G.1.1 : Int) - 7 := by
    rw [Int32.toInt_sub, eL]
    exact Int.bmod_eq_of_le (by show -2147483648 ≤ (G.1.1 : Int) - 7; omega) (by show (G.1.1 : Int) - 7 < 2147483648; omega)
  refine q_iload_n (pc' := 19) (x := i) ja_law_18 rfl rfl ?_
  refine q_aload_n (pc' := 20) (x := 1000000) ja_law_19 rfl rfl ?_
  refine q_slen (pc' := 21) ja_law_20 rfl ?_
  refine q_bipush (pc' := 23) ja_law_21 rfl 7 (by decide) ?_
  refine q_isub (pc' := 24) ja_law_23 rfl ?_
  refine q_ic_gt (pc' := 27) ja_law_24 rfl (fun _ => ?_) (fun hle => ?_)
  · refine q_iconst (pc' := 1368) ja_law_1367 rfl 1 (by decide) ?_
    exact q_iret ja_law_1368 rfl (by decide) hB
  · rw [i_le, e7] at hle
    have h7 : i.toInt + 7 ≤ G.1.1 := by omega
    refine q_aload_n (pc' := 28) (x := 1000000) ja_law_27 rfl rfl ?_
    refine q_iload_n (pc' := 29) (x := i) ja_law_28 rfl rfl ?_
    refine q_sald (pc' := 30) ja_law_29 rfl (by rw [i_in]; omega) ?_
    refine q_bipush (pc' := 32) ja_law_30 rfl 63 (by decide) ?_
    refine q_iand (pc' := 33) ja_law_32 rfl ?_
    exact ws_case hR hI (ws_in 1 h0 hL h7 (by decide)) (ws_in 2 h0 hL h7 (by decide)) (ws_in 3 h0 hL h7 (by decide)) (ws_in 4 h0 hL h7 (by decide)) (ws_in 5 h0 hL h7 (by decide)) (ws_in 6 h0 hL h7 (by decide)) htext (fun s' hI' => ws_next (kk h7 s' hI')) _
/-- the law's loop, where every call of text answers alike -/
theorem ws_loop {G : jv_X} (hL : G.1.1 < 2 ^ 31) (htext : ∀ s, Inv s → q_P G 91 70 [.ref 0] s (fun r s' => q_P G 91 176 [.ref 146] s' (fun r' s'' => r = r' ∧ Inv s''))) : ∀ (n : Nat) (i : Int32) (s : jg_H), 0 ≤ i.toInt → i.toInt ≤ G.1.1 → G.1.1 < i.toInt + n → Inv s → q_W G 91 jm_law (fun w _ => w = some (.int 1)) 18 (ws_ls i) [] s
  | 0, i, s, h0, hi, hn, hI => absurd hn (by omega)
  | n + 1, i, s, h0, hi, hn, hI => ws_turn (R := Inv) hL h0 hi (fun _ q => q) hI rfl (htext s hI) (fun h7 s' hI' => by
    have e : (i + 7).toInt = i.toInt + 7 := by
      rw [Int32.toInt_add]
      exact Int.bmod_eq_of_le (by show -2147483648 ≤ i.toInt + 7; omega) (by show i.toInt + 7 < 2147483648; omega)
    exact ws_loop hL htext n (i + 7) s' (by omega) (by omega) (by omega) hI')

/-- what one call on a new object comes to -/
theorem ws_end {G : jv_X} {B : Option Value → jg_H → Prop} {s : jg_H} {i : Int32} (hL : G.1.1 ≤ 7) (hi : 0 < i.toInt) (hB : B (some (.int 1)) s) : q_W G 91 jm_law B 18 (ws_ls i) [] s := by
  have eL : (Int32.ofNat G.1.1).toInt = G.1.1 := Int32.toInt_ofNat_of_lt (by omega)
  have e7 : (Int32.ofNat G.1.1 - 7).toInt = (G.1.1 : Int) - 7 := by
    rw [Int32.toInt_sub, eL]
    exact Int.bmod_eq_of_le (by show -2147483648 ≤ (G.1.1 : Int) - 7; omega) (by show (G.1.1 : Int) - 7 < 2147483648; omega)
  refine q_iload_n (pc' := 19) (x := i) ja_law_18 rfl rfl ?_
  refine q_aload_n (pc' := 20) (x := 1000000) ja_law_19 rfl rfl ?_
  refine q_slen (pc' := 21) ja_law_20 rfl ?_
  refine q_bipush (pc' := 23) ja_law_21 rfl 7 (by decide) ?_
  refine q_isub (pc' := 24) ja_law_23 rfl ?_
  refine q_ic_gt (pc' := 27) ja_law_24 rfl (fun _ => ?_) (fun hle => ?_)
  · refine q_iconst (pc' := 1368) ja_law_1367 rfl 1 (by decide) ?_
    exact q_iret ja_law_1368 rfl (by decide) hB
  · rw [i_le, e7] at hle
    exact absurd hle (by omega)
theorem ws_one {G : jv_X} (hL : G.1.1 ≤ 7) {s : jg_H} (hI : Inv s) (htext : q_P G 91 70 [.ref 0] s (fun r s' => q_P G 91 176 [.ref 146] s' (fun r' _ => r = r'))) : q_W G 91 jm_law (fun w _ => w = some (.int 1)) 18 (ws_ls 0) [] s := by
  have e0 : (0 : Int32).toInt = 0 := rfl
  refine ws_turn (R := fun _ => True) (by omega) (by rw [e0]; omega) (by rw [e0]; omega) (fun _ _ => trivial) hI rfl ?_ (fun _ s' _ => ws_end hL (by decide) rfl)
  exact q_mono (fun v s' h => q_mono (fun v' s'' h => ⟨h, trivial⟩) h) htext
